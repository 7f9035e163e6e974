-- HalfLandings$Laws.workOut(I[J)J
theorem dX1_workOut_0 : decode cX1_workOut 0 = .ok (.iconst 0, 1) := by decide +kernel
theorem dX1_workOut_1 : decode cX1_workOut 1 = .ok (.istore_n 3, 1) := by decide +kernel
theorem dX1_workOut_2 : decode cX1_workOut 2 = .ok (.aload_n 0, 1) := by decide +kernel
theorem dX1_workOut_3 : decode cX1_workOut 3 = .ok (.getfield 28, 3) := by decide +kernel
theorem dX1_workOut_6 : decode cX1_workOut 6 = .ok (.iload_n 1, 1) := by decide +kernel
theorem dX1_workOut_7 : decode cX1_workOut 7 = .ok (.iaload, 1) := by decide +kernel
theorem dX1_workOut_8 : decode cX1_workOut 8 = .ok (.istore 4, 2) := by decide +kernel
theorem dX1_workOut_10 : decode cX1_workOut 10 = .ok (.iload 4, 2) := by decide +kernel
theorem dX1_workOut_12 : decode cX1_workOut 12 = .ok (.aload_n 0, 1) := by decide +kernel
theorem dX1_workOut_13 : decode cX1_workOut 13 = .ok (.getfield 31, 3) := by decide +kernel
theorem dX1_workOut_16 : decode cX1_workOut 16 = .ok (.iload_n 1, 1) := by decide +kernel
theorem dX1_workOut_17 : decode cX1_workOut 17 = .ok (.iaload, 1) := by decide +kernel
theorem dX1_workOut_18 : decode cX1_workOut 18 = .ok (.if_icmp .ge 224, 3) := by decide +kernel
theorem dX1_workOut_21 : decode cX1_workOut 21 = .ok (.aload_n 0, 1) := by decide +kernel
theorem dX1_workOut_22 : decode cX1_workOut 22 = .ok (.getfield 18, 3) := by decide +kernel
theorem dX1_workOut_25 : decode cX1_workOut 25 = .ok (.iload 4, 2) := by decide +kernel
theorem dX1_workOut_27 : decode cX1_workOut 27 = .ok (.iaload, 1) := by decide +kernel
theorem dX1_workOut_28 : decode cX1_workOut 28 = .ok (.istore 5, 2) := by decide +kernel
theorem dX1_workOut_30 : decode cX1_workOut 30 = .ok (.iload 5, 2) := by decide +kernel
theorem dX1_workOut_32 : decode cX1_workOut 32 = .ok (.bipush 22, 2) := by decide +kernel
theorem dX1_workOut_34 : decode cX1_workOut 34 = .ok (.if_icmp .ne 23, 3) := by decide +kernel
theorem dX1_workOut_37 : decode cX1_workOut 37 = .ok (.aload_n 0, 1) := by decide +kernel
theorem dX1_workOut_38 : decode cX1_workOut 38 = .ok (.getfield 34, 3) := by decide +kernel
theorem dX1_workOut_41 : decode cX1_workOut 41 = .ok (.iload_n 3, 1) := by decide +kernel
theorem dX1_workOut_42 : decode cX1_workOut 42 = .ok (.aload_n 0, 1) := by decide +kernel
theorem dX1_workOut_43 : decode cX1_workOut 43 = .ok (.getfield 22, 3) := by decide +kernel
theorem dX1_workOut_46 : decode cX1_workOut 46 = .ok (.iload 4, 2) := by decide +kernel
theorem dX1_workOut_48 : decode cX1_workOut 48 = .ok (.iaload, 1) := by decide +kernel
theorem dX1_workOut_49 : decode cX1_workOut 49 = .ok (.i2l, 1) := by decide +kernel
theorem dX1_workOut_50 : decode cX1_workOut 50 = .ok (.lastore, 1) := by decide +kernel
theorem dX1_workOut_51 : decode cX1_workOut 51 = .ok (.iinc 3 1, 3) := by decide +kernel
theorem dX1_workOut_54 : decode cX1_workOut 54 = .ok (.goto 182, 3) := by decide +kernel
theorem dX1_workOut_57 : decode cX1_workOut 57 = .ok (.iload 5, 2) := by decide +kernel
theorem dX1_workOut_59 : decode cX1_workOut 59 = .ok (.bipush 14, 2) := by decide +kernel
theorem dX1_workOut_61 : decode cX1_workOut 61 = .ok (.if_icmp .lt 29, 3) := by decide +kernel
theorem dX1_workOut_64 : decode cX1_workOut 64 = .ok (.iload 5, 2) := by decide +kernel
theorem dX1_workOut_66 : decode cX1_workOut 66 = .ok (.bipush 20, 2) := by decide +kernel
theorem dX1_workOut_68 : decode cX1_workOut 68 = .ok (.if_icmp .gt 22, 3) := by decide +kernel
theorem dX1_workOut_71 : decode cX1_workOut 71 = .ok (.aload_n 0, 1) := by decide +kernel
theorem dX1_workOut_72 : decode cX1_workOut 72 = .ok (.getfield 34, 3) := by decide +kernel
theorem dX1_workOut_75 : decode cX1_workOut 75 = .ok (.iload_n 3, 1) := by decide +kernel
theorem dX1_workOut_76 : decode cX1_workOut 76 = .ok (.aload_n 2, 1) := by decide +kernel
theorem dX1_workOut_77 : decode cX1_workOut 77 = .ok (.iload 5, 2) := by decide +kernel
theorem dX1_workOut_79 : decode cX1_workOut 79 = .ok (.bipush 14, 2) := by decide +kernel
theorem dX1_workOut_81 : decode cX1_workOut 81 = .ok (.isub, 1) := by decide +kernel
theorem dX1_workOut_82 : decode cX1_workOut 82 = .ok (.laload, 1) := by decide +kernel
theorem dX1_workOut_83 : decode cX1_workOut 83 = .ok (.lastore, 1) := by decide +kernel
theorem dX1_workOut_84 : decode cX1_workOut 84 = .ok (.iinc 3 1, 3) := by decide +kernel
theorem dX1_workOut_87 : decode cX1_workOut 87 = .ok (.goto 149, 3) := by decide +kernel
theorem dX1_workOut_90 : decode cX1_workOut 90 = .ok (.iload_n 3, 1) := by decide +kernel
theorem dX1_workOut_91 : decode cX1_workOut 91 = .ok (.iconst 1, 1) := by decide +kernel
theorem dX1_workOut_92 : decode cX1_workOut 92 = .ok (.if_icmp .lt 15, 3) := by decide +kernel
theorem dX1_workOut_95 : decode cX1_workOut 95 = .ok (.iload 5, 2) := by decide +kernel
theorem dX1_workOut_97 : decode cX1_workOut 97 = .ok (.bipush 13, 2) := by decide +kernel
theorem dX1_workOut_99 : decode cX1_workOut 99 = .ok (.if_icmp .eq 12, 3) := by decide +kernel
theorem dX1_workOut_102 : decode cX1_workOut 102 = .ok (.iload_n 3, 1) := by decide +kernel
theorem dX1_workOut_103 : decode cX1_workOut 103 = .ok (.iconst 2, 1) := by decide +kernel
theorem dX1_workOut_104 : decode cX1_workOut 104 = .ok (.if_icmp .ge 7, 3) := by decide +kernel
theorem dX1_workOut_107 : decode cX1_workOut 107 = .ok (.ldc2_w 40, 3) := by decide +kernel
theorem dX1_workOut_110 : decode cX1_workOut 110 = .ok (.lreturn, 1) := by decide +kernel
theorem dX1_workOut_111 : decode cX1_workOut 111 = .ok (.iload 5, 2) := by decide +kernel
theorem dX1_workOut_113 : decode cX1_workOut 113 = .ok (.bipush 13, 2) := by decide +kernel
theorem dX1_workOut_115 : decode cX1_workOut 115 = .ok (.if_icmp .ne 32, 3) := by decide +kernel
theorem dX1_workOut_118 : decode cX1_workOut 118 = .ok (.aload_n 0, 1) := by decide +kernel
theorem dX1_workOut_119 : decode cX1_workOut 119 = .ok (.getfield 34, 3) := by decide +kernel
theorem dX1_workOut_122 : decode cX1_workOut 122 = .ok (.iload_n 3, 1) := by decide +kernel
theorem dX1_workOut_123 : decode cX1_workOut 123 = .ok (.iconst 1, 1) := by decide +kernel
theorem dX1_workOut_124 : decode cX1_workOut 124 = .ok (.isub, 1) := by decide +kernel
theorem dX1_workOut_125 : decode cX1_workOut 125 = .ok (.aload_n 0, 1) := by decide +kernel
theorem dX1_workOut_126 : decode cX1_workOut 126 = .ok (.getfield 34, 3) := by decide +kernel
theorem dX1_workOut_129 : decode cX1_workOut 129 = .ok (.iload_n 3, 1) := by decide +kernel
theorem dX1_workOut_130 : decode cX1_workOut 130 = .ok (.iconst 1, 1) := by decide +kernel
theorem dX1_workOut_131 : decode cX1_workOut 131 = .ok (.isub, 1) := by decide +kernel
theorem dX1_workOut_132 : decode cX1_workOut 132 = .ok (.laload, 1) := by decide +kernel
theorem dX1_workOut_133 : decode cX1_workOut 133 = .ok (.lconst 0, 1) := by decide +kernel
theorem dX1_workOut_134 : decode cX1_workOut 134 = .ok (.lcmp, 1) := by decide +kernel
theorem dX1_workOut_135 : decode cX1_workOut 135 = .ok (.ifCond .ne 7, 3) := by decide +kernel
theorem dX1_workOut_138 : decode cX1_workOut 138 = .ok (.lconst 1, 1) := by decide +kernel
theorem dX1_workOut_139 : decode cX1_workOut 139 = .ok (.goto 4, 3) := by decide +kernel
theorem dX1_workOut_142 : decode cX1_workOut 142 = .ok (.lconst 0, 1) := by decide +kernel
theorem dX1_workOut_143 : decode cX1_workOut 143 = .ok (.lastore, 1) := by decide +kernel
theorem dX1_workOut_144 : decode cX1_workOut 144 = .ok (.goto 92, 3) := by decide +kernel
theorem dX1_workOut_147 : decode cX1_workOut 147 = .ok (.iload 5, 2) := by decide +kernel
theorem dX1_workOut_149 : decode cX1_workOut 149 = .ok (.bipush 28, 2) := by decide +kernel
theorem dX1_workOut_151 : decode cX1_workOut 151 = .ok (.if_icmp .ne 29, 3) := by decide +kernel
theorem dX1_workOut_154 : decode cX1_workOut 154 = .ok (.aload_n 0, 1) := by decide +kernel
theorem dX1_workOut_155 : decode cX1_workOut 155 = .ok (.getfield 34, 3) := by decide +kernel
theorem dX1_workOut_158 : decode cX1_workOut 158 = .ok (.iload_n 3, 1) := by decide +kernel
theorem dX1_workOut_159 : decode cX1_workOut 159 = .ok (.iconst 2, 1) := by decide +kernel
theorem dX1_workOut_160 : decode cX1_workOut 160 = .ok (.isub, 1) := by decide +kernel
theorem dX1_workOut_161 : decode cX1_workOut 161 = .ok (.laload, 1) := by decide +kernel
theorem dX1_workOut_162 : decode cX1_workOut 162 = .ok (.aload_n 0, 1) := by decide +kernel
theorem dX1_workOut_163 : decode cX1_workOut 163 = .ok (.getfield 34, 3) := by decide +kernel
theorem dX1_workOut_166 : decode cX1_workOut 166 = .ok (.iload_n 3, 1) := by decide +kernel
theorem dX1_workOut_167 : decode cX1_workOut 167 = .ok (.iconst 1, 1) := by decide +kernel
theorem dX1_workOut_168 : decode cX1_workOut 168 = .ok (.isub, 1) := by decide +kernel
theorem dX1_workOut_169 : decode cX1_workOut 169 = .ok (.laload, 1) := by decide +kernel
theorem dX1_workOut_170 : decode cX1_workOut 170 = .ok (.invokestatic 42, 3) := by decide +kernel
theorem dX1_workOut_173 : decode cX1_workOut 173 = .ok (.ifCond .eq 7, 3) := by decide +kernel
theorem dX1_workOut_176 : decode cX1_workOut 176 = .ok (.ldc2_w 40, 3) := by decide +kernel
theorem dX1_workOut_179 : decode cX1_workOut 179 = .ok (.lreturn, 1) := by decide +kernel
theorem dX1_workOut_180 : decode cX1_workOut 180 = .ok (.iinc 3 (-1), 3) := by decide +kernel
theorem dX1_workOut_183 : decode cX1_workOut 183 = .ok (.iload 5, 2) := by decide +kernel
theorem dX1_workOut_185 : decode cX1_workOut 185 = .ok (.aload_n 0, 1) := by decide +kernel
theorem dX1_workOut_186 : decode cX1_workOut 186 = .ok (.getfield 34, 3) := by decide +kernel
theorem dX1_workOut_189 : decode cX1_workOut 189 = .ok (.iload_n 3, 1) := by decide +kernel
theorem dX1_workOut_190 : decode cX1_workOut 190 = .ok (.iconst 1, 1) := by decide +kernel
theorem dX1_workOut_191 : decode cX1_workOut 191 = .ok (.isub, 1) := by decide +kernel
theorem dX1_workOut_192 : decode cX1_workOut 192 = .ok (.laload, 1) := by decide +kernel
theorem dX1_workOut_193 : decode cX1_workOut 193 = .ok (.aload_n 0, 1) := by decide +kernel
theorem dX1_workOut_194 : decode cX1_workOut 194 = .ok (.getfield 34, 3) := by decide +kernel
theorem dX1_workOut_197 : decode cX1_workOut 197 = .ok (.iload_n 3, 1) := by decide +kernel
theorem dX1_workOut_198 : decode cX1_workOut 198 = .ok (.laload, 1) := by decide +kernel
theorem dX1_workOut_199 : decode cX1_workOut 199 = .ok (.invokestatic 46, 3) := by decide +kernel
theorem dX1_workOut_202 : decode cX1_workOut 202 = .ok (.lstore 6, 2) := by decide +kernel
theorem dX1_workOut_204 : decode cX1_workOut 204 = .ok (.lload 6, 2) := by decide +kernel
theorem dX1_workOut_206 : decode cX1_workOut 206 = .ok (.ldc2_w 50, 3) := by decide +kernel
theorem dX1_workOut_209 : decode cX1_workOut 209 = .ok (.lcmp, 1) := by decide +kernel
theorem dX1_workOut_210 : decode cX1_workOut 210 = .ok (.ifCond .gt 12, 3) := by decide +kernel
theorem dX1_workOut_213 : decode cX1_workOut 213 = .ok (.lload 6, 2) := by decide +kernel
theorem dX1_workOut_215 : decode cX1_workOut 215 = .ok (.ldc2_w 52, 3) := by decide +kernel
theorem dX1_workOut_218 : decode cX1_workOut 218 = .ok (.lcmp, 1) := by decide +kernel
theorem dX1_workOut_219 : decode cX1_workOut 219 = .ok (.ifCond .ge 7, 3) := by decide +kernel
theorem dX1_workOut_222 : decode cX1_workOut 222 = .ok (.ldc2_w 40, 3) := by decide +kernel
theorem dX1_workOut_225 : decode cX1_workOut 225 = .ok (.lreturn, 1) := by decide +kernel
theorem dX1_workOut_226 : decode cX1_workOut 226 = .ok (.aload_n 0, 1) := by decide +kernel
theorem dX1_workOut_227 : decode cX1_workOut 227 = .ok (.getfield 34, 3) := by decide +kernel
theorem dX1_workOut_230 : decode cX1_workOut 230 = .ok (.iload_n 3, 1) := by decide +kernel
theorem dX1_workOut_231 : decode cX1_workOut 231 = .ok (.iconst 1, 1) := by decide +kernel
theorem dX1_workOut_232 : decode cX1_workOut 232 = .ok (.isub, 1) := by decide +kernel
theorem dX1_workOut_233 : decode cX1_workOut 233 = .ok (.lload 6, 2) := by decide +kernel
theorem dX1_workOut_235 : decode cX1_workOut 235 = .ok (.lastore, 1) := by decide +kernel
theorem dX1_workOut_236 : decode cX1_workOut 236 = .ok (.iinc 4 1, 3) := by decide +kernel
theorem dX1_workOut_239 : decode cX1_workOut 239 = .ok (.goto (-229), 3) := by decide +kernel
theorem dX1_workOut_242 : decode cX1_workOut 242 = .ok (.iload_n 3, 1) := by decide +kernel
theorem dX1_workOut_243 : decode cX1_workOut 243 = .ok (.iconst 1, 1) := by decide +kernel
theorem dX1_workOut_244 : decode cX1_workOut 244 = .ok (.if_icmp .ne 12, 3) := by decide +kernel
theorem dX1_workOut_247 : decode cX1_workOut 247 = .ok (.aload_n 0, 1) := by decide +kernel
theorem dX1_workOut_248 : decode cX1_workOut 248 = .ok (.getfield 34, 3) := by decide +kernel
theorem dX1_workOut_251 : decode cX1_workOut 251 = .ok (.iconst 0, 1) := by decide +kernel
theorem dX1_workOut_252 : decode cX1_workOut 252 = .ok (.laload, 1) := by decide +kernel
theorem dX1_workOut_253 : decode cX1_workOut 253 = .ok (.goto 6, 3) := by decide +kernel
theorem dX1_workOut_256 : decode cX1_workOut 256 = .ok (.ldc2_w 40, 3) := by decide +kernel
theorem dX1_workOut_259 : decode cX1_workOut 259 = .ok (.lreturn, 1) := by decide +kernel
theorem hd_X1_workOut : yX1_workOut.cls = xCn 1 ∧ yX1_workOut.cls ≠ "java/lang/invoke/MethodHandle" ∧ yX1_workOut.cls ≠ "java/lang/invoke/VarHandle" ∧ (parseMethodDescriptor yX1_workOut.desc).map (fun d => d.parameters.length) = some 2 := by decide +kernel
def k_X1_workOut_259 (sh : List xSh) (y0 : Int64) (d : xD) : Option (Int64 × xD) :=
  some (y0, d)
def k_X1_workOut_242 (sh : List xSh) (q0 : Nat) (x3 : Int32) (d : xD) : Option (Int64 × xD) :=
  if x3 = (1 : Int32) then ((xgR 1 sh d q0 7).bind fun v1 => (xaL sh d v1 (0 : Int32)).bind fun v2 => k_X1_workOut_259 sh v2 d) else (k_X1_workOut_259 sh (-9223372036854775808 : Int64) d)
def k_X1_workOut_107 (sh : List xSh) (d : xD) : Option (Int64 × xD) :=
  some ((-9223372036854775808 : Int64), d)
def k_X1_workOut_222 (sh : List xSh) (d : xD) : Option (Int64 × xD) :=
  some ((-9223372036854775808 : Int64), d)
def k_X1_workOut_236 (sh : List xSh) (rec10 : Nat → Int32 → Nat → Int32 → Int32 → xD → Option (Int64 × xD)) (q0 : Nat) (x1 : Int32) (q2 : Nat) (x3 : Int32) (x4 : Int32) (d : xD) : Option (Int64 × xD) :=
  rec10 q0 x1 q2 x3 (x4 + 1) d
def k_X1_workOut_180 (sh : List xSh) (rec10 : Nat → Int32 → Nat → Int32 → Int32 → xD → Option (Int64 × xD)) (q0 : Nat) (x1 : Int32) (q2 : Nat) (x3 : Int32) (x4 : Int32) (x5 : Int32) (d : xD) : Option (Int64 × xD) :=
  (xgR 1 sh d q0 7).bind fun v3 => (xaL sh d v3 ((x3 + (-1)) - (1 : Int32))).bind fun v4 => (xgR 1 sh d q0 7).bind fun v5 => (xaL sh d v5 (x3 + (-1))).bind fun v6 => (f_X1_join sh x5 v4 v6 d).bind fun z7 => if 0 < (lg_cmp z7.1 (1000000000000 : Int64)) then (k_X1_workOut_222 sh z7.2) else (if 0 ≤ (lg_cmp z7.1 (-1000000000000 : Int64)) then ((xgR 1 sh z7.2 q0 7).bind fun v8 => (xsL sh z7.2 v8 ((x3 + (-1)) - (1 : Int32)) z7.1).bind fun d9 => k_X1_workOut_236 sh rec10 q0 x1 q2 (x3 + (-1)) x4 d9) else (k_X1_workOut_222 sh z7.2))
def k_X1_workOut_176 (sh : List xSh) (d : xD) : Option (Int64 × xD) :=
  some ((-9223372036854775808 : Int64), d)
def k_X1_workOut_143 (sh : List xSh) (rec10 : Nat → Int32 → Nat → Int32 → Int32 → xD → Option (Int64 × xD)) (q0 : Nat) (x1 : Int32) (q2 : Nat) (x3 : Int32) (x4 : Int32) (p0 : Nat) (y1 : Int32) (y2 : Int64) (d : xD) : Option (Int64 × xD) :=
  (xsL sh d p0 y1 y2).bind fun d10 => k_X1_workOut_236 sh rec10 q0 x1 q2 x3 x4 d10
def k_X1_workOut_111 (sh : List xSh) (rec10 : Nat → Int32 → Nat → Int32 → Int32 → xD → Option (Int64 × xD)) (q0 : Nat) (x1 : Int32) (q2 : Nat) (x3 : Int32) (x4 : Int32) (x5 : Int32) (d : xD) : Option (Int64 × xD) :=
  if x5 = (13 : Int32) then ((xgR 1 sh d q0 7).bind fun v16 => (xgR 1 sh d q0 7).bind fun v17 => (xaL sh d v17 (x3 - (1 : Int32))).bind fun v18 => if (lg_cmp v18 (0 : Int64)) = 0 then (k_X1_workOut_143 sh rec10 q0 x1 q2 x3 x4 v16 (x3 - (1 : Int32)) (1 : Int64) d) else (k_X1_workOut_143 sh rec10 q0 x1 q2 x3 x4 v16 (x3 - (1 : Int32)) (0 : Int64) d)) else (if x5 = (28 : Int32) then ((xgR 1 sh d q0 7).bind fun v11 => (xaL sh d v11 (x3 - (2 : Int32))).bind fun v12 => (xgR 1 sh d q0 7).bind fun v13 => (xaL sh d v13 (x3 - (1 : Int32))).bind fun v14 => (f_X1_isTooLarge sh v12 v14 d).bind fun z15 => if z15.1 = 0 then (k_X1_workOut_180 sh rec10 q0 x1 q2 x3 x4 x5 z15.2) else (k_X1_workOut_176 sh z15.2)) else (k_X1_workOut_180 sh rec10 q0 x1 q2 x3 x4 x5 d))
def k_X1_workOut_90 (sh : List xSh) (rec10 : Nat → Int32 → Nat → Int32 → Int32 → xD → Option (Int64 × xD)) (q0 : Nat) (x1 : Int32) (q2 : Nat) (x3 : Int32) (x4 : Int32) (x5 : Int32) (d : xD) : Option (Int64 × xD) :=
  if x3 < (1 : Int32) then (k_X1_workOut_107 sh d) else (if x5 = (13 : Int32) then (k_X1_workOut_111 sh rec10 q0 x1 q2 x3 x4 x5 d) else (if (2 : Int32) ≤ x3 then (k_X1_workOut_111 sh rec10 q0 x1 q2 x3 x4 x5 d) else (k_X1_workOut_107 sh d)))
def b_X1_workOut_10 (sh : List xSh) (rec10 : Nat → Int32 → Nat → Int32 → Int32 → xD → Option (Int64 × xD)) (q0 : Nat) (x1 : Int32) (q2 : Nat) (x3 : Int32) (x4 : Int32) (d : xD) : Option (Int64 × xD) :=
  (xgR 1 sh d q0 6).bind fun v19 => (xaI .int sh d v19 x1).bind fun v20 => if v20 ≤ x4 then (k_X1_workOut_242 sh q0 x3 d) else ((xgR 1 sh d q0 2).bind fun v21 => (xaI .int sh d v21 x4).bind fun v22 => if v22 = (22 : Int32) then ((xgR 1 sh d q0 7).bind fun v26 => (xgR 1 sh d q0 3).bind fun v27 => (xaI .int sh d v27 x4).bind fun v28 => (xsL sh d v26 x3 ((v28).toInt64)).bind fun d29 => k_X1_workOut_236 sh rec10 q0 x1 q2 (x3 + 1) x4 d29) else (if v22 < (14 : Int32) then (k_X1_workOut_90 sh rec10 q0 x1 q2 x3 x4 v22 d) else (if (20 : Int32) < v22 then (k_X1_workOut_90 sh rec10 q0 x1 q2 x3 x4 v22 d) else ((xgR 1 sh d q0 7).bind fun v23 => (xaL sh d q2 (v22 - (14 : Int32))).bind fun v24 => (xsL sh d v23 x3 v24).bind fun d25 => k_X1_workOut_236 sh rec10 q0 x1 q2 (x3 + 1) x4 d25))))
def f_X1_workOut (sh : List xSh) (q0 : Nat) (x1 : Int32) (q2 : Nat) (d : xD) : Option (Int64 × xD) :=
  (xgR 1 sh d q0 5).bind fun v30 => (xaI .int sh d v30 x1).bind fun v31 => xloop (fun _ _ _ _ _ _ => none) (b_X1_workOut_10 sh) xF q0 x1 q2 (0 : Int32) v31 d
set_option maxHeartbeats 4000000 in
set_option maxRecDepth 100000 in
theorem mt_X1_workOut (l : Launch) (D : va_G) (cid : FieldType → ClassId) (b : Nat) (ex : Bool) (sa sv B0 : Nat) (sh : List xSh) (q0 : Nat) (x1 : Int32) (q2 : Nat) (d : xD) (r : Int64) (dz : xD) (hf : f_X1_workOut sh q0 x1 q2 d = some (r, dz)) : xMet l yX1_workOut cX1_workOut 8 (some .long) 1 0 0 D cid b ex sa sv B0 [.ref (b + q0), .int x1, .ref (b + q2)] sh d (some (.long r)) sh dz := by
  refine xMet.of (by decide) (Nat.le_of_ble_eq_true rfl) ?_
  intro p e s m below meth c ls A S hr hin G hl
  have hl : lv_has ls 8 [(0, .ref (b + q0)), (1, .int x1), (2, .ref (b + q2))] := hl
  generalize ([.ref (b + q0), .int x1, .ref (b + q2)] : List Value).toArray = av at S ⊢
  have hx := S.1
  have hb := S.2.1
  have hml := S.2.2.1
  have hown := S.2.2.2.1
  have hts := S.2.2.2.2.1
  have K259 : ∀ (y0 : Int64) (d : xD), k_X1_workOut_259 sh y0 d = some (r, dz) → ∀ (H : Heap) (locs : List Loc) (ls : Array Slot), lv_has ls 8 [] → xG D cid b A sh d s H locs → W p l e (xRm 1 0 0) s m av below meth c H locs 0 0 (MQ below (xQ D cid b ex A (some (.long r)) sh dz) av s 0 0 A) (F0 m 259 ls [.long y0]) := by
    intro y0 d hf H locs ls hl G
    unfold k_X1_workOut_259 at hf
    cases hf
    exact xr_lret S G (fun _ => rfl) hr dX1_workOut_259
  have K242 : ∀ (q0 : Nat) (x3 : Int32) (d : xD), k_X1_workOut_242 sh q0 x3 d = some (r, dz) → ∀ (H : Heap) (locs : List Loc) (ls : Array Slot), lv_has ls 8 [(0, .ref (b + q0)), (3, .int x3)] → xG D cid b A sh d s H locs → W p l e (xRm 1 0 0) s m av below meth c H locs 0 0 (MQ below (xQ D cid b ex A (some (.long r)) sh dz) av s 0 0 A) (F0 m 242 ls []) := by
    intro q0 x3 d hf H locs ls hl G
    unfold k_X1_workOut_242 at hf
    refine lv_iload_n hx hb dX1_workOut_242 rfl (lv_at hl 1 rfl) ?_
    refine lv_iconst (v := (1 : Int32)) hx hb dX1_workOut_243 (by decide) ?_
    refine lv_icmp_ne (tgt := 256) hx hb dX1_workOut_244 (by decide) (fun c => ?_) (fun c => ?_)
    · have hf := x_neg c hf
      refine lv_ldc2 (v := (-9223372036854775808 : Int64)) hx hb hown (hts _ kw_778) dX1_workOut_256 ?_
      exact K259 (-9223372036854775808 : Int64) d hf _ _ ls (lv_sub hl [] rfl) G
    · have hf := x_pos c hf
      refine lv_aload_n hx hb dX1_workOut_247 rfl (lv_at hl 0 rfl) ?_
      obtain ⟨v1, hv1, hf⟩ := x_ob hf
      refine xr_getR (ci := 1) (k := 7) S G hv1 rfl kw_54 dX1_workOut_248 ?_
      refine lv_iconst (v := (0 : Int32)) hx hb dX1_workOut_251 (by decide) ?_
      obtain ⟨v2, hv2, hf⟩ := x_ob hf
      refine xr_lald S G hv2 dX1_workOut_252 ?_
      refine lv_goto (tgt := 259) hx hb dX1_workOut_253 (by decide) ?_
      exact K259 v2 d hf _ _ ls (lv_sub hl [] rfl) G
  have K107 : ∀ (d : xD), k_X1_workOut_107 sh d = some (r, dz) → ∀ (H : Heap) (locs : List Loc) (ls : Array Slot), lv_has ls 8 [] → xG D cid b A sh d s H locs → W p l e (xRm 1 0 0) s m av below meth c H locs 0 0 (MQ below (xQ D cid b ex A (some (.long r)) sh dz) av s 0 0 A) (F0 m 107 ls []) := by
    intro d hf H locs ls hl G
    unfold k_X1_workOut_107 at hf
    refine lv_ldc2 (v := (-9223372036854775808 : Int64)) hx hb hown (hts _ kw_778) dX1_workOut_107 ?_
    cases hf
    exact xr_lret S G (fun _ => rfl) hr dX1_workOut_110
  have K222 : ∀ (d : xD), k_X1_workOut_222 sh d = some (r, dz) → ∀ (H : Heap) (locs : List Loc) (ls : Array Slot), lv_has ls 8 [] → xG D cid b A sh d s H locs → W p l e (xRm 1 0 0) s m av below meth c H locs 0 0 (MQ below (xQ D cid b ex A (some (.long r)) sh dz) av s 0 0 A) (F0 m 222 ls []) := by
    intro d hf H locs ls hl G
    unfold k_X1_workOut_222 at hf
    refine lv_ldc2 (v := (-9223372036854775808 : Int64)) hx hb hown (hts _ kw_778) dX1_workOut_222 ?_
    cases hf
    exact xr_lret S G (fun _ => rfl) hr dX1_workOut_225
  have K236 : ∀ (rec10 : Nat → Int32 → Nat → Int32 → Int32 → xD → Option (Int64 × xD)) (hrec10 : ∀ (q0 : Nat) (x1 : Int32) (q2 : Nat) (x3 : Int32) (x4 : Int32) (d : xD), rec10 q0 x1 q2 x3 x4 d = some (r, dz) → ∀ (H : Heap) (locs : List Loc) (ls : Array Slot), lv_has ls 8 [(0, .ref (b + q0)), (1, .int x1), (2, .ref (b + q2)), (3, .int x3), (4, .int x4)] → xG D cid b A sh d s H locs → W p l e (xRm 1 0 0) s m av below meth c H locs 0 0 (MQ below (xQ D cid b ex A (some (.long r)) sh dz) av s 0 0 A) (F0 m 10 ls [])) (q0 : Nat) (x1 : Int32) (q2 : Nat) (x3 : Int32) (x4 : Int32) (d : xD), k_X1_workOut_236 sh rec10 q0 x1 q2 x3 x4 d = some (r, dz) → ∀ (H : Heap) (locs : List Loc) (ls : Array Slot), lv_has ls 8 [(0, .ref (b + q0)), (1, .int x1), (2, .ref (b + q2)), (3, .int x3), (4, .int x4)] → xG D cid b A sh d s H locs → W p l e (xRm 1 0 0) s m av below meth c H locs 0 0 (MQ below (xQ D cid b ex A (some (.long r)) sh dz) av s 0 0 A) (F0 m 236 ls []) := by
    intro rec10 hrec10 q0 x1 q2 x3 x4 d hf H locs ls hl G
    unfold k_X1_workOut_236 at hf
    refine lv_iinc (v := (x4 + 1)) (lv' := [(4, .int (x4 + 1)), (0, .ref (b + q0)), (1, .int x1), (2, .ref (b + q2)), (3, .int x3)]) hx hb dX1_workOut_236 hl (k := 4) rfl rfl (by decide) rfl (fun ls hl => ?_)
    refine lv_goto (tgt := 10) hx hb dX1_workOut_239 (by decide) ?_
    exact hrec10 q0 x1 q2 x3 (x4 + 1) d hf _ _ ls (lv_sub hl [1, 2, 3, 4, 0] rfl) G
  have K180 : ∀ (rec10 : Nat → Int32 → Nat → Int32 → Int32 → xD → Option (Int64 × xD)) (hrec10 : ∀ (q0 : Nat) (x1 : Int32) (q2 : Nat) (x3 : Int32) (x4 : Int32) (d : xD), rec10 q0 x1 q2 x3 x4 d = some (r, dz) → ∀ (H : Heap) (locs : List Loc) (ls : Array Slot), lv_has ls 8 [(0, .ref (b + q0)), (1, .int x1), (2, .ref (b + q2)), (3, .int x3), (4, .int x4)] → xG D cid b A sh d s H locs → W p l e (xRm 1 0 0) s m av below meth c H locs 0 0 (MQ below (xQ D cid b ex A (some (.long r)) sh dz) av s 0 0 A) (F0 m 10 ls [])) (q0 : Nat) (x1 : Int32) (q2 : Nat) (x3 : Int32) (x4 : Int32) (x5 : Int32) (d : xD), k_X1_workOut_180 sh rec10 q0 x1 q2 x3 x4 x5 d = some (r, dz) → ∀ (H : Heap) (locs : List Loc) (ls : Array Slot), lv_has ls 8 [(0, .ref (b + q0)), (1, .int x1), (2, .ref (b + q2)), (3, .int x3), (4, .int x4), (5, .int x5)] → xG D cid b A sh d s H locs → W p l e (xRm 1 0 0) s m av below meth c H locs 0 0 (MQ below (xQ D cid b ex A (some (.long r)) sh dz) av s 0 0 A) (F0 m 180 ls []) := by
    intro rec10 hrec10 q0 x1 q2 x3 x4 x5 d hf H locs ls hl G
    unfold k_X1_workOut_180 at hf
    refine lv_iinc (v := (x3 + (-1))) (lv' := [(3, .int (x3 + (-1))), (0, .ref (b + q0)), (1, .int x1), (2, .ref (b + q2)), (4, .int x4), (5, .int x5)]) hx hb dX1_workOut_180 hl (k := 3) rfl rfl (by decide) rfl (fun ls hl => ?_)
    refine lv_iload hx hb dX1_workOut_183 (lv_at hl 5 rfl) ?_
    refine lv_aload_n hx hb dX1_workOut_185 rfl (lv_at hl 1 rfl) ?_
    obtain ⟨v3, hv3, hf⟩ := x_ob hf
    refine xr_getR (ci := 1) (k := 7) S G hv3 rfl kw_54 dX1_workOut_186 ?_
    refine lv_iload_n hx hb dX1_workOut_189 rfl (lv_at hl 0 rfl) ?_
    refine lv_iconst (v := (1 : Int32)) hx hb dX1_workOut_190 (by decide) ?_
    refine lv_isub hx hb dX1_workOut_191 ?_
    obtain ⟨v4, hv4, hf⟩ := x_ob hf
    refine xr_lald S G hv4 dX1_workOut_192 ?_
    refine lv_aload_n hx hb dX1_workOut_193 rfl (lv_at hl 1 rfl) ?_
    obtain ⟨v5, hv5, hf⟩ := x_ob hf
    refine xr_getR (ci := 1) (k := 7) S G hv5 rfl kw_54 dX1_workOut_194 ?_
    refine lv_iload_n hx hb dX1_workOut_197 rfl (lv_at hl 0 rfl) ?_
    obtain ⟨v6, hv6, hf⟩ := x_ob hf
    refine xr_lald S G hv6 dX1_workOut_198 ?_
    obtain ⟨z7, hz7, hf⟩ := x_ob hf
    refine xr_callS (As := [.int x5, .long v4, .long v6]) (rest := []) (st1 := [.long z7.1]) S G hl.1 (fun _ => rfl) (mt_X1_join l D cid b ex sa sv B0 sh x5 v4 v6 d _ _ hz7) kw_783 kw_784 kw_3 kw_785 hd_X1_join ⟨Nat.le_of_ble_eq_true rfl, Nat.le_of_ble_eq_true rfl⟩ rfl rfl rfl (Nat.le_of_ble_eq_true rfl) ⟨Nat.le_of_ble_eq_true rfl, Nat.le_of_ble_eq_true rfl⟩ dX1_workOut_199 (fun H locs G => ?_)
    refine lv_lstore (lv' := [(6, .long z7.1), (3, .int (x3 + (-1))), (0, .ref (b + q0)), (1, .int x1), (2, .ref (b + q2)), (4, .int x4), (5, .int x5)]) hx hb dX1_workOut_202 hl (by decide) rfl (fun ls hl => ?_)
    refine lv_lload hx hb dX1_workOut_204 (lv_at hl 0 rfl) ?_
    refine lv_ldc2 (v := (1000000000000 : Int64)) hx hb hown (hts _ kw_782) dX1_workOut_206 ?_
    refine W.lcmp hx hb dX1_workOut_209 ?_
    refine lv_if_gt (tgt := 222) hx hb dX1_workOut_210 (by decide) (fun c => ?_) (fun c => ?_)
    · have hf := x_pos c hf
      exact K222 z7.2 hf _ _ ls (lv_sub hl [] rfl) G
    · have hf := x_neg c hf
      refine lv_lload hx hb dX1_workOut_213 (lv_at hl 0 rfl) ?_
      refine lv_ldc2 (v := (-1000000000000 : Int64)) hx hb hown (hts _ kw_786) dX1_workOut_215 ?_
      refine W.lcmp hx hb dX1_workOut_218 ?_
      refine lv_if_ge (tgt := 226) hx hb dX1_workOut_219 (by decide) (fun c => ?_) (fun c => ?_)
      · have hf := x_pos c hf
        refine lv_aload_n hx hb dX1_workOut_226 rfl (lv_at hl 2 rfl) ?_
        obtain ⟨v8, hv8, hf⟩ := x_ob hf
        refine xr_getR (ci := 1) (k := 7) S G hv8 rfl kw_54 dX1_workOut_227 ?_
        refine lv_iload_n hx hb dX1_workOut_230 rfl (lv_at hl 1 rfl) ?_
        refine lv_iconst (v := (1 : Int32)) hx hb dX1_workOut_231 (by decide) ?_
        refine lv_isub hx hb dX1_workOut_232 ?_
        refine lv_lload hx hb dX1_workOut_233 (lv_at hl 0 rfl) ?_
        obtain ⟨d9, hd9, hf⟩ := x_ob hf
        refine xr_last S G hd9 dX1_workOut_235 (fun H locs G => ?_)
        exact K236 _ hrec10 q0 x1 q2 (x3 + (-1)) x4 d9 hf _ _ ls (lv_sub hl [2, 3, 4, 1, 5] rfl) G
      · have hf := x_neg c hf
        exact K222 z7.2 hf _ _ ls (lv_sub hl [] rfl) G
  have K176 : ∀ (d : xD), k_X1_workOut_176 sh d = some (r, dz) → ∀ (H : Heap) (locs : List Loc) (ls : Array Slot), lv_has ls 8 [] → xG D cid b A sh d s H locs → W p l e (xRm 1 0 0) s m av below meth c H locs 0 0 (MQ below (xQ D cid b ex A (some (.long r)) sh dz) av s 0 0 A) (F0 m 176 ls []) := by
    intro d hf H locs ls hl G
    unfold k_X1_workOut_176 at hf
    refine lv_ldc2 (v := (-9223372036854775808 : Int64)) hx hb hown (hts _ kw_778) dX1_workOut_176 ?_
    cases hf
    exact xr_lret S G (fun _ => rfl) hr dX1_workOut_179
  have K143 : ∀ (rec10 : Nat → Int32 → Nat → Int32 → Int32 → xD → Option (Int64 × xD)) (hrec10 : ∀ (q0 : Nat) (x1 : Int32) (q2 : Nat) (x3 : Int32) (x4 : Int32) (d : xD), rec10 q0 x1 q2 x3 x4 d = some (r, dz) → ∀ (H : Heap) (locs : List Loc) (ls : Array Slot), lv_has ls 8 [(0, .ref (b + q0)), (1, .int x1), (2, .ref (b + q2)), (3, .int x3), (4, .int x4)] → xG D cid b A sh d s H locs → W p l e (xRm 1 0 0) s m av below meth c H locs 0 0 (MQ below (xQ D cid b ex A (some (.long r)) sh dz) av s 0 0 A) (F0 m 10 ls [])) (q0 : Nat) (x1 : Int32) (q2 : Nat) (x3 : Int32) (x4 : Int32) (p0 : Nat) (y1 : Int32) (y2 : Int64) (d : xD), k_X1_workOut_143 sh rec10 q0 x1 q2 x3 x4 p0 y1 y2 d = some (r, dz) → ∀ (H : Heap) (locs : List Loc) (ls : Array Slot), lv_has ls 8 [(0, .ref (b + q0)), (1, .int x1), (2, .ref (b + q2)), (3, .int x3), (4, .int x4)] → xG D cid b A sh d s H locs → W p l e (xRm 1 0 0) s m av below meth c H locs 0 0 (MQ below (xQ D cid b ex A (some (.long r)) sh dz) av s 0 0 A) (F0 m 143 ls [.long y2, .int y1, .ref (b + p0)]) := by
    intro rec10 hrec10 q0 x1 q2 x3 x4 p0 y1 y2 d hf H locs ls hl G
    unfold k_X1_workOut_143 at hf
    obtain ⟨d10, hd10, hf⟩ := x_ob hf
    refine xr_last S G hd10 dX1_workOut_143 (fun H locs G => ?_)
    refine lv_goto (tgt := 236) hx hb dX1_workOut_144 (by decide) ?_
    exact K236 _ hrec10 q0 x1 q2 x3 x4 d10 hf _ _ ls (lv_sub hl [0, 1, 2, 3, 4] rfl) G
  have K111 : ∀ (rec10 : Nat → Int32 → Nat → Int32 → Int32 → xD → Option (Int64 × xD)) (hrec10 : ∀ (q0 : Nat) (x1 : Int32) (q2 : Nat) (x3 : Int32) (x4 : Int32) (d : xD), rec10 q0 x1 q2 x3 x4 d = some (r, dz) → ∀ (H : Heap) (locs : List Loc) (ls : Array Slot), lv_has ls 8 [(0, .ref (b + q0)), (1, .int x1), (2, .ref (b + q2)), (3, .int x3), (4, .int x4)] → xG D cid b A sh d s H locs → W p l e (xRm 1 0 0) s m av below meth c H locs 0 0 (MQ below (xQ D cid b ex A (some (.long r)) sh dz) av s 0 0 A) (F0 m 10 ls [])) (q0 : Nat) (x1 : Int32) (q2 : Nat) (x3 : Int32) (x4 : Int32) (x5 : Int32) (d : xD), k_X1_workOut_111 sh rec10 q0 x1 q2 x3 x4 x5 d = some (r, dz) → ∀ (H : Heap) (locs : List Loc) (ls : Array Slot), lv_has ls 8 [(0, .ref (b + q0)), (1, .int x1), (2, .ref (b + q2)), (3, .int x3), (4, .int x4), (5, .int x5)] → xG D cid b A sh d s H locs → W p l e (xRm 1 0 0) s m av below meth c H locs 0 0 (MQ below (xQ D cid b ex A (some (.long r)) sh dz) av s 0 0 A) (F0 m 111 ls []) := by
    intro rec10 hrec10 q0 x1 q2 x3 x4 x5 d hf H locs ls hl G
    unfold k_X1_workOut_111 at hf
    refine lv_iload hx hb dX1_workOut_111 (lv_at hl 5 rfl) ?_
    refine lv_bipush (v := (13 : Int32)) hx hb dX1_workOut_113 (by decide) ?_
    refine lv_icmp_ne (tgt := 147) hx hb dX1_workOut_115 (by decide) (fun c => ?_) (fun c => ?_)
    · have hf := x_neg c hf
      refine lv_iload hx hb dX1_workOut_147 (lv_at hl 5 rfl) ?_
      refine lv_bipush (v := (28 : Int32)) hx hb dX1_workOut_149 (by decide) ?_
      refine lv_icmp_ne (tgt := 180) hx hb dX1_workOut_151 (by decide) (fun c => ?_) (fun c => ?_)
      · have hf := x_neg c hf
        exact K180 _ hrec10 q0 x1 q2 x3 x4 x5 d hf _ _ ls (lv_sub hl [0, 1, 2, 3, 4, 5] rfl) G
      · have hf := x_pos c hf
        refine lv_aload_n hx hb dX1_workOut_154 rfl (lv_at hl 0 rfl) ?_
        obtain ⟨v11, hv11, hf⟩ := x_ob hf
        refine xr_getR (ci := 1) (k := 7) S G hv11 rfl kw_54 dX1_workOut_155 ?_
        refine lv_iload_n hx hb dX1_workOut_158 rfl (lv_at hl 3 rfl) ?_
        refine lv_iconst (v := (2 : Int32)) hx hb dX1_workOut_159 (by decide) ?_
        refine lv_isub hx hb dX1_workOut_160 ?_
        obtain ⟨v12, hv12, hf⟩ := x_ob hf
        refine xr_lald S G hv12 dX1_workOut_161 ?_
        refine lv_aload_n hx hb dX1_workOut_162 rfl (lv_at hl 0 rfl) ?_
        obtain ⟨v13, hv13, hf⟩ := x_ob hf
        refine xr_getR (ci := 1) (k := 7) S G hv13 rfl kw_54 dX1_workOut_163 ?_
        refine lv_iload_n hx hb dX1_workOut_166 rfl (lv_at hl 3 rfl) ?_
        refine lv_iconst (v := (1 : Int32)) hx hb dX1_workOut_167 (by decide) ?_
        refine lv_isub hx hb dX1_workOut_168 ?_
        obtain ⟨v14, hv14, hf⟩ := x_ob hf
        refine xr_lald S G hv14 dX1_workOut_169 ?_
        obtain ⟨z15, hz15, hf⟩ := x_ob hf
        refine xr_callS (As := [.long v12, .long v14]) (rest := []) (st1 := [.int z15.1]) S G hl.1 (fun _ => rfl) (mt_X1_isTooLarge l D cid b ex sa sv B0 sh v12 v14 d _ _ hz15) kw_779 kw_780 kw_3 kw_781 hd_X1_isTooLarge ⟨Nat.le_of_ble_eq_true rfl, Nat.le_of_ble_eq_true rfl⟩ rfl rfl rfl (Nat.le_of_ble_eq_true rfl) ⟨Nat.le_of_ble_eq_true rfl, Nat.le_of_ble_eq_true rfl⟩ dX1_workOut_170 (fun H locs G => ?_)
        refine lv_if_eq (tgt := 180) hx hb dX1_workOut_173 (by decide) (fun c => ?_) (fun c => ?_)
        · have hf := x_pos c hf
          exact K180 _ hrec10 q0 x1 q2 x3 x4 x5 z15.2 hf _ _ ls (lv_sub hl [0, 1, 2, 3, 4, 5] rfl) G
        · have hf := x_neg c hf
          exact K176 z15.2 hf _ _ ls (lv_sub hl [] rfl) G
    · have hf := x_pos c hf
      refine lv_aload_n hx hb dX1_workOut_118 rfl (lv_at hl 0 rfl) ?_
      obtain ⟨v16, hv16, hf⟩ := x_ob hf
      refine xr_getR (ci := 1) (k := 7) S G hv16 rfl kw_54 dX1_workOut_119 ?_
      refine lv_iload_n hx hb dX1_workOut_122 rfl (lv_at hl 3 rfl) ?_
      refine lv_iconst (v := (1 : Int32)) hx hb dX1_workOut_123 (by decide) ?_
      refine lv_isub hx hb dX1_workOut_124 ?_
      refine lv_aload_n hx hb dX1_workOut_125 rfl (lv_at hl 0 rfl) ?_
      obtain ⟨v17, hv17, hf⟩ := x_ob hf
      refine xr_getR (ci := 1) (k := 7) S G hv17 rfl kw_54 dX1_workOut_126 ?_
      refine lv_iload_n hx hb dX1_workOut_129 rfl (lv_at hl 3 rfl) ?_
      refine lv_iconst (v := (1 : Int32)) hx hb dX1_workOut_130 (by decide) ?_
      refine lv_isub hx hb dX1_workOut_131 ?_
      obtain ⟨v18, hv18, hf⟩ := x_ob hf
      refine xr_lald S G hv18 dX1_workOut_132 ?_
      refine lv_lconst (v := (0 : Int64)) hx hb dX1_workOut_133 (by decide) ?_
      refine W.lcmp hx hb dX1_workOut_134 ?_
      refine lv_if_ne (tgt := 142) hx hb dX1_workOut_135 (by decide) (fun c => ?_) (fun c => ?_)
      · have hf := x_neg c hf
        refine lv_lconst (v := (0 : Int64)) hx hb dX1_workOut_142 (by decide) ?_
        exact K143 _ hrec10 q0 x1 q2 x3 x4 v16 (x3 - (1 : Int32)) (0 : Int64) d hf _ _ ls (lv_sub hl [0, 1, 2, 3, 4] rfl) G
      · have hf := x_pos c hf
        refine lv_lconst (v := (1 : Int64)) hx hb dX1_workOut_138 (by decide) ?_
        refine lv_goto (tgt := 143) hx hb dX1_workOut_139 (by decide) ?_
        exact K143 _ hrec10 q0 x1 q2 x3 x4 v16 (x3 - (1 : Int32)) (1 : Int64) d hf _ _ ls (lv_sub hl [0, 1, 2, 3, 4] rfl) G
  have K90 : ∀ (rec10 : Nat → Int32 → Nat → Int32 → Int32 → xD → Option (Int64 × xD)) (hrec10 : ∀ (q0 : Nat) (x1 : Int32) (q2 : Nat) (x3 : Int32) (x4 : Int32) (d : xD), rec10 q0 x1 q2 x3 x4 d = some (r, dz) → ∀ (H : Heap) (locs : List Loc) (ls : Array Slot), lv_has ls 8 [(0, .ref (b + q0)), (1, .int x1), (2, .ref (b + q2)), (3, .int x3), (4, .int x4)] → xG D cid b A sh d s H locs → W p l e (xRm 1 0 0) s m av below meth c H locs 0 0 (MQ below (xQ D cid b ex A (some (.long r)) sh dz) av s 0 0 A) (F0 m 10 ls [])) (q0 : Nat) (x1 : Int32) (q2 : Nat) (x3 : Int32) (x4 : Int32) (x5 : Int32) (d : xD), k_X1_workOut_90 sh rec10 q0 x1 q2 x3 x4 x5 d = some (r, dz) → ∀ (H : Heap) (locs : List Loc) (ls : Array Slot), lv_has ls 8 [(0, .ref (b + q0)), (1, .int x1), (2, .ref (b + q2)), (3, .int x3), (4, .int x4), (5, .int x5)] → xG D cid b A sh d s H locs → W p l e (xRm 1 0 0) s m av below meth c H locs 0 0 (MQ below (xQ D cid b ex A (some (.long r)) sh dz) av s 0 0 A) (F0 m 90 ls []) := by
    intro rec10 hrec10 q0 x1 q2 x3 x4 x5 d hf H locs ls hl G
    unfold k_X1_workOut_90 at hf
    refine lv_iload_n hx hb dX1_workOut_90 rfl (lv_at hl 3 rfl) ?_
    refine lv_iconst (v := (1 : Int32)) hx hb dX1_workOut_91 (by decide) ?_
    refine lv_icmp_lt (tgt := 107) hx hb dX1_workOut_92 (by decide) (fun c => ?_) (fun c => ?_)
    · have hf := x_pos c hf
      exact K107 d hf _ _ ls (lv_sub hl [] rfl) G
    · have hf := x_neg c hf
      refine lv_iload hx hb dX1_workOut_95 (lv_at hl 5 rfl) ?_
      refine lv_bipush (v := (13 : Int32)) hx hb dX1_workOut_97 (by decide) ?_
      refine lv_icmp_eq (tgt := 111) hx hb dX1_workOut_99 (by decide) (fun c => ?_) (fun c => ?_)
      · have hf := x_pos c hf
        exact K111 _ hrec10 q0 x1 q2 x3 x4 x5 d hf _ _ ls (lv_sub hl [0, 1, 2, 3, 4, 5] rfl) G
      · have hf := x_neg c hf
        refine lv_iload_n hx hb dX1_workOut_102 rfl (lv_at hl 3 rfl) ?_
        refine lv_iconst (v := (2 : Int32)) hx hb dX1_workOut_103 (by decide) ?_
        refine lv_icmp_ge (tgt := 111) hx hb dX1_workOut_104 (by decide) (fun c => ?_) (fun c => ?_)
        · have hf := x_pos c hf
          exact K111 _ hrec10 q0 x1 q2 x3 x4 x5 d hf _ _ ls (lv_sub hl [0, 1, 2, 3, 4, 5] rfl) G
        · have hf := x_neg c hf
          exact K107 d hf _ _ ls (lv_sub hl [] rfl) G
  have K10 : ∀ (n : Nat) (q0 : Nat) (x1 : Int32) (q2 : Nat) (x3 : Int32) (x4 : Int32) (d : xD), xloop (fun _ _ _ _ _ _ => none) (b_X1_workOut_10 sh) n q0 x1 q2 x3 x4 d = some (r, dz) → ∀ (H : Heap) (locs : List Loc) (ls : Array Slot), lv_has ls 8 [(0, .ref (b + q0)), (1, .int x1), (2, .ref (b + q2)), (3, .int x3), (4, .int x4)] → xG D cid b A sh d s H locs → W p l e (xRm 1 0 0) s m av below meth c H locs 0 0 (MQ below (xQ D cid b ex A (some (.long r)) sh dz) av s 0 0 A) (F0 m 10 ls []) := by
    intro n
    induction n with
    | zero =>
      intro q0 x1 q2 x3 x4 d hf
      have hf : (none : Option (Int64 × xD)) = some (r, dz) := hf
      cases hf
    | succ n hrec10 =>
      intro q0 x1 q2 x3 x4 d hf H locs ls hl G
      have hf : b_X1_workOut_10 sh (xloop (fun _ _ _ _ _ _ => none) (b_X1_workOut_10 sh) n) q0 x1 q2 x3 x4 d = some (r, dz) := hf
      unfold b_X1_workOut_10 at hf
      refine lv_iload hx hb dX1_workOut_10 (lv_at hl 4 rfl) ?_
      refine lv_aload_n hx hb dX1_workOut_12 rfl (lv_at hl 0 rfl) ?_
      obtain ⟨v19, hv19, hf⟩ := x_ob hf
      refine xr_getR (ci := 1) (k := 6) S G hv19 rfl kw_53 dX1_workOut_13 ?_
      refine lv_iload_n hx hb dX1_workOut_16 rfl (lv_at hl 1 rfl) ?_
      obtain ⟨v20, hv20, hf⟩ := x_ob hf
      refine xr_iald S G hv20 dX1_workOut_17 ?_
      refine lv_icmp_ge (tgt := 242) hx hb dX1_workOut_18 (by decide) (fun c => ?_) (fun c => ?_)
      · have hf := x_pos c hf
        exact K242 q0 x3 d hf _ _ ls (lv_sub hl [0, 3] rfl) G
      · have hf := x_neg c hf
        refine lv_aload_n hx hb dX1_workOut_21 rfl (lv_at hl 0 rfl) ?_
        obtain ⟨v21, hv21, hf⟩ := x_ob hf
        refine xr_getR (ci := 1) (k := 2) S G hv21 rfl kw_49 dX1_workOut_22 ?_
        refine lv_iload hx hb dX1_workOut_25 (lv_at hl 4 rfl) ?_
        obtain ⟨v22, hv22, hf⟩ := x_ob hf
        refine xr_iald S G hv22 dX1_workOut_27 ?_
        refine lv_istore (lv' := [(5, .int v22), (0, .ref (b + q0)), (1, .int x1), (2, .ref (b + q2)), (3, .int x3), (4, .int x4)]) hx hb dX1_workOut_28 hl (by decide) rfl (fun ls hl => ?_)
        refine lv_iload hx hb dX1_workOut_30 (lv_at hl 0 rfl) ?_
        refine lv_bipush (v := (22 : Int32)) hx hb dX1_workOut_32 (by decide) ?_
        refine lv_icmp_ne (tgt := 57) hx hb dX1_workOut_34 (by decide) (fun c => ?_) (fun c => ?_)
        · have hf := x_neg c hf
          refine lv_iload hx hb dX1_workOut_57 (lv_at hl 0 rfl) ?_
          refine lv_bipush (v := (14 : Int32)) hx hb dX1_workOut_59 (by decide) ?_
          refine lv_icmp_lt (tgt := 90) hx hb dX1_workOut_61 (by decide) (fun c => ?_) (fun c => ?_)
          · have hf := x_pos c hf
            exact K90 _ hrec10 q0 x1 q2 x3 x4 v22 d hf _ _ ls (lv_sub hl [1, 2, 3, 4, 5, 0] rfl) G
          · have hf := x_neg c hf
            refine lv_iload hx hb dX1_workOut_64 (lv_at hl 0 rfl) ?_
            refine lv_bipush (v := (20 : Int32)) hx hb dX1_workOut_66 (by decide) ?_
            refine lv_icmp_gt (tgt := 90) hx hb dX1_workOut_68 (by decide) (fun c => ?_) (fun c => ?_)
            · have hf := x_pos c hf
              exact K90 _ hrec10 q0 x1 q2 x3 x4 v22 d hf _ _ ls (lv_sub hl [1, 2, 3, 4, 5, 0] rfl) G
            · have hf := x_neg c hf
              refine lv_aload_n hx hb dX1_workOut_71 rfl (lv_at hl 1 rfl) ?_
              obtain ⟨v23, hv23, hf⟩ := x_ob hf
              refine xr_getR (ci := 1) (k := 7) S G hv23 rfl kw_54 dX1_workOut_72 ?_
              refine lv_iload_n hx hb dX1_workOut_75 rfl (lv_at hl 4 rfl) ?_
              refine lv_aload_n hx hb dX1_workOut_76 rfl (lv_at hl 3 rfl) ?_
              refine lv_iload hx hb dX1_workOut_77 (lv_at hl 0 rfl) ?_
              refine lv_bipush (v := (14 : Int32)) hx hb dX1_workOut_79 (by decide) ?_
              refine lv_isub hx hb dX1_workOut_81 ?_
              obtain ⟨v24, hv24, hf⟩ := x_ob hf
              refine xr_lald S G hv24 dX1_workOut_82 ?_
              obtain ⟨d25, hd25, hf⟩ := x_ob hf
              refine xr_last S G hd25 dX1_workOut_83 (fun H locs G => ?_)
              refine lv_iinc (v := (x3 + 1)) (lv' := [(3, .int (x3 + 1)), (5, .int v22), (0, .ref (b + q0)), (1, .int x1), (2, .ref (b + q2)), (4, .int x4)]) hx hb dX1_workOut_84 hl (k := 4) rfl rfl (by decide) rfl (fun ls hl => ?_)
              refine lv_goto (tgt := 236) hx hb dX1_workOut_87 (by decide) ?_
              exact K236 _ hrec10 q0 x1 q2 (x3 + 1) x4 d25 hf _ _ ls (lv_sub hl [2, 3, 4, 0, 5] rfl) G
        · have hf := x_pos c hf
          refine lv_aload_n hx hb dX1_workOut_37 rfl (lv_at hl 1 rfl) ?_
          obtain ⟨v26, hv26, hf⟩ := x_ob hf
          refine xr_getR (ci := 1) (k := 7) S G hv26 rfl kw_54 dX1_workOut_38 ?_
          refine lv_iload_n hx hb dX1_workOut_41 rfl (lv_at hl 4 rfl) ?_
          refine lv_aload_n hx hb dX1_workOut_42 rfl (lv_at hl 1 rfl) ?_
          obtain ⟨v27, hv27, hf⟩ := x_ob hf
          refine xr_getR (ci := 1) (k := 3) S G hv27 rfl kw_50 dX1_workOut_43 ?_
          refine lv_iload hx hb dX1_workOut_46 (lv_at hl 5 rfl) ?_
          obtain ⟨v28, hv28, hf⟩ := x_ob hf
          refine xr_iald S G hv28 dX1_workOut_48 ?_
          refine lv_i2l (v := (v28).toInt64) hx hb dX1_workOut_49 rfl ?_
          obtain ⟨d29, hd29, hf⟩ := x_ob hf
          refine xr_last S G hd29 dX1_workOut_50 (fun H locs G => ?_)
          refine lv_iinc (v := (x3 + 1)) (lv' := [(3, .int (x3 + 1)), (5, .int v22), (0, .ref (b + q0)), (1, .int x1), (2, .ref (b + q2)), (4, .int x4)]) hx hb dX1_workOut_51 hl (k := 4) rfl rfl (by decide) rfl (fun ls hl => ?_)
          refine lv_goto (tgt := 236) hx hb dX1_workOut_54 (by decide) ?_
          exact K236 _ hrec10 q0 x1 q2 (x3 + 1) x4 d29 hf _ _ ls (lv_sub hl [2, 3, 4, 0, 5] rfl) G
  unfold f_X1_workOut at hf
  refine lv_iconst (v := (0 : Int32)) hx hb dX1_workOut_0 (by decide) ?_
  refine lv_istore_n (lv' := [(3, .int (0 : Int32)), (0, .ref (b + q0)), (1, .int x1), (2, .ref (b + q2))]) hx hb dX1_workOut_1 rfl hl (by decide) rfl (fun ls hl => ?_)
  refine lv_aload_n hx hb dX1_workOut_2 rfl (lv_at hl 1 rfl) ?_
  obtain ⟨v30, hv30, hf⟩ := x_ob hf
  refine xr_getR (ci := 1) (k := 5) S G hv30 rfl kw_52 dX1_workOut_3 ?_
  refine lv_iload_n hx hb dX1_workOut_6 rfl (lv_at hl 2 rfl) ?_
  obtain ⟨v31, hv31, hf⟩ := x_ob hf
  refine xr_iald S G hv31 dX1_workOut_7 ?_
  refine lv_istore (lv' := [(4, .int v31), (3, .int (0 : Int32)), (0, .ref (b + q0)), (1, .int x1), (2, .ref (b + q2))]) hx hb dX1_workOut_8 hl (by decide) rfl (fun ls hl => ?_)
  exact K10 xF q0 x1 q2 (0 : Int32) v31 d hf _ _ ls (lv_sub hl [2, 3, 4, 1, 0] rfl) G
-- HalfLandings$Plan.benchOn(I)I
theorem dX3_benchOn_0 : decode cX3_benchOn 0 = .ok (.iload_n 1, 1) := by decide +kernel
theorem dX3_benchOn_1 : decode cX3_benchOn 1 = .ok (.ifCond .lt 9, 3) := by decide +kernel
theorem dX3_benchOn_4 : decode cX3_benchOn 4 = .ok (.iload_n 1, 1) := by decide +kernel
theorem dX3_benchOn_5 : decode cX3_benchOn 5 = .ok (.bipush 60, 2) := by decide +kernel
theorem dX3_benchOn_7 : decode cX3_benchOn 7 = .ok (.if_icmp .le 7, 3) := by decide +kernel
theorem dX3_benchOn_10 : decode cX3_benchOn 10 = .ok (.iconst (-1), 1) := by decide +kernel
theorem dX3_benchOn_11 : decode cX3_benchOn 11 = .ok (.goto 9, 3) := by decide +kernel
theorem dX3_benchOn_14 : decode cX3_benchOn 14 = .ok (.aload_n 0, 1) := by decide +kernel
theorem dX3_benchOn_15 : decode cX3_benchOn 15 = .ok (.getfield 37, 3) := by decide +kernel
theorem dX3_benchOn_18 : decode cX3_benchOn 18 = .ok (.iload_n 1, 1) := by decide +kernel
theorem dX3_benchOn_19 : decode cX3_benchOn 19 = .ok (.iaload, 1) := by decide +kernel
theorem dX3_benchOn_20 : decode cX3_benchOn 20 = .ok (.ireturn, 1) := by decide +kernel
theorem hd_X3_benchOn : yX3_benchOn.cls = xCn 3 ∧ yX3_benchOn.cls ≠ "java/lang/invoke/MethodHandle" ∧ yX3_benchOn.cls ≠ "java/lang/invoke/VarHandle" ∧ (parseMethodDescriptor yX3_benchOn.desc).map (fun d => d.parameters.length) = some 1 := by decide +kernel
def k_X3_benchOn_20 (sh : List xSh) (y0 : Int32) (d : xD) : Option (Int32 × xD) :=
  some (y0, d)
def k_X3_benchOn_10 (sh : List xSh) (d : xD) : Option (Int32 × xD) :=
  k_X3_benchOn_20 sh (-1 : Int32) d
def f_X3_benchOn (sh : List xSh) (q0 : Nat) (x1 : Int32) (d : xD) : Option (Int32 × xD) :=
  if x1 < 0 then (k_X3_benchOn_10 sh d) else (if x1 ≤ (60 : Int32) then ((xgR 3 sh d q0 8).bind fun v1 => (xaI .int sh d v1 x1).bind fun v2 => k_X3_benchOn_20 sh v2 d) else (k_X3_benchOn_10 sh d))
set_option maxHeartbeats 4000000 in
set_option maxRecDepth 100000 in
theorem mt_X3_benchOn (l : Launch) (D : va_G) (cid : FieldType → ClassId) (b : Nat) (ex : Bool) (sa sv B0 : Nat) (sh : List xSh) (q0 : Nat) (x1 : Int32) (d : xD) (r : Int32) (dz : xD) (hf : f_X3_benchOn sh q0 x1 d = some (r, dz)) : xMet l yX3_benchOn cX3_benchOn 2 (some .int) 0 0 0 D cid b ex sa sv B0 [.ref (b + q0), .int x1] sh d (some (.int r)) sh dz := by
  refine xMet.of (by decide) (Nat.le_of_ble_eq_true rfl) ?_
  intro p e s m below meth c ls A S hr hin G hl
  have hl : lv_has ls 2 [(0, .ref (b + q0)), (1, .int x1)] := hl
  generalize ([.ref (b + q0), .int x1] : List Value).toArray = av at S ⊢
  have hx := S.1
  have hb := S.2.1
  have hml := S.2.2.1
  have hown := S.2.2.2.1
  have hts := S.2.2.2.2.1
  have K20 : ∀ (y0 : Int32) (d : xD), k_X3_benchOn_20 sh y0 d = some (r, dz) → ∀ (H : Heap) (locs : List Loc) (ls : Array Slot), lv_has ls 2 [] → xG D cid b A sh d s H locs → W p l e (xRm 0 0 0) s m av below meth c H locs 0 0 (MQ below (xQ D cid b ex A (some (.int r)) sh dz) av s 0 0 A) (F0 m 20 ls [.int y0]) := by
    intro y0 d hf H locs ls hl G
    unfold k_X3_benchOn_20 at hf
    cases hf
    exact xr_iret S G (fun _ => rfl) hr dX3_benchOn_20
  have K10 : ∀ (d : xD), k_X3_benchOn_10 sh d = some (r, dz) → ∀ (H : Heap) (locs : List Loc) (ls : Array Slot), lv_has ls 2 [] → xG D cid b A sh d s H locs → W p l e (xRm 0 0 0) s m av below meth c H locs 0 0 (MQ below (xQ D cid b ex A (some (.int r)) sh dz) av s 0 0 A) (F0 m 10 ls []) := by
    intro d hf H locs ls hl G
    unfold k_X3_benchOn_10 at hf
    refine lv_iconst (v := (-1 : Int32)) hx hb dX3_benchOn_10 (by decide) ?_
    refine lv_goto (tgt := 20) hx hb dX3_benchOn_11 (by decide) ?_
    exact K20 (-1 : Int32) d hf _ _ ls (lv_sub hl [] rfl) G
  unfold f_X3_benchOn at hf
  refine lv_iload_n hx hb dX3_benchOn_0 rfl (lv_at hl 1 rfl) ?_
  refine lv_if_lt (tgt := 10) hx hb dX3_benchOn_1 (by decide) (fun c => ?_) (fun c => ?_)
  · have hf := x_pos c hf
    exact K10 d hf _ _ ls (lv_sub hl [] rfl) G
  · have hf := x_neg c hf
    refine lv_iload_n hx hb dX3_benchOn_4 rfl (lv_at hl 1 rfl) ?_
    refine lv_bipush (v := (60 : Int32)) hx hb dX3_benchOn_5 (by decide) ?_
    refine lv_icmp_le (tgt := 14) hx hb dX3_benchOn_7 (by decide) (fun c => ?_) (fun c => ?_)
    · have hf := x_pos c hf
      refine lv_aload_n hx hb dX3_benchOn_14 rfl (lv_at hl 0 rfl) ?_
      obtain ⟨v1, hv1, hf⟩ := x_ob hf
      refine xr_getR (ci := 3) (k := 8) S G hv1 rfl kw_101 dX3_benchOn_15 ?_
      refine lv_iload_n hx hb dX3_benchOn_18 rfl (lv_at hl 1 rfl) ?_
      obtain ⟨v2, hv2, hf⟩ := x_ob hf
      refine xr_iald S G hv2 dX3_benchOn_19 ?_
      exact K20 v2 d hf _ _ ls (lv_sub hl [] rfl) G
    · have hf := x_neg c hf
      exact K10 d hf _ _ ls (lv_sub hl [] rfl) G
-- HalfLandings$Scene.sittersOn(I)I
theorem dX4_sittersOn_0 : decode cX4_sittersOn 0 = .ok (.iconst 0, 1) := by decide +kernel
theorem dX4_sittersOn_1 : decode cX4_sittersOn 1 = .ok (.istore_n 2, 1) := by decide +kernel
theorem dX4_sittersOn_2 : decode cX4_sittersOn 2 = .ok (.iconst 0, 1) := by decide +kernel
theorem dX4_sittersOn_3 : decode cX4_sittersOn 3 = .ok (.istore_n 3, 1) := by decide +kernel
theorem dX4_sittersOn_4 : decode cX4_sittersOn 4 = .ok (.iload_n 3, 1) := by decide +kernel
theorem dX4_sittersOn_5 : decode cX4_sittersOn 5 = .ok (.aload_n 0, 1) := by decide +kernel
theorem dX4_sittersOn_6 : decode cX4_sittersOn 6 = .ok (.getfield 25, 3) := by decide +kernel
theorem dX4_sittersOn_9 : decode cX4_sittersOn 9 = .ok (.if_icmp .ge 35, 3) := by decide +kernel
theorem dX4_sittersOn_12 : decode cX4_sittersOn 12 = .ok (.aload_n 0, 1) := by decide +kernel
theorem dX4_sittersOn_13 : decode cX4_sittersOn 13 = .ok (.getfield 28, 3) := by decide +kernel
theorem dX4_sittersOn_16 : decode cX4_sittersOn 16 = .ok (.iload_n 3, 1) := by decide +kernel
theorem dX4_sittersOn_17 : decode cX4_sittersOn 17 = .ok (.iaload, 1) := by decide +kernel
theorem dX4_sittersOn_18 : decode cX4_sittersOn 18 = .ok (.iconst 2, 1) := by decide +kernel
theorem dX4_sittersOn_19 : decode cX4_sittersOn 19 = .ok (.if_icmp .ne 19, 3) := by decide +kernel
theorem dX4_sittersOn_22 : decode cX4_sittersOn 22 = .ok (.aload_n 0, 1) := by decide +kernel
theorem dX4_sittersOn_23 : decode cX4_sittersOn 23 = .ok (.getfield 32, 3) := by decide +kernel
theorem dX4_sittersOn_26 : decode cX4_sittersOn 26 = .ok (.iload_n 3, 1) := by decide +kernel
theorem dX4_sittersOn_27 : decode cX4_sittersOn 27 = .ok (.iaload, 1) := by decide +kernel
theorem dX4_sittersOn_28 : decode cX4_sittersOn 28 = .ok (.iload_n 1, 1) := by decide +kernel
theorem dX4_sittersOn_29 : decode cX4_sittersOn 29 = .ok (.if_icmp .ne 9, 3) := by decide +kernel
theorem dX4_sittersOn_32 : decode cX4_sittersOn 32 = .ok (.iload_n 2, 1) := by decide +kernel
theorem dX4_sittersOn_33 : decode cX4_sittersOn 33 = .ok (.iconst 1, 1) := by decide +kernel
theorem dX4_sittersOn_34 : decode cX4_sittersOn 34 = .ok (.iload_n 3, 1) := by decide +kernel
theorem dX4_sittersOn_35 : decode cX4_sittersOn 35 = .ok (.ishl, 1) := by decide +kernel
theorem dX4_sittersOn_36 : decode cX4_sittersOn 36 = .ok (.ior, 1) := by decide +kernel
theorem dX4_sittersOn_37 : decode cX4_sittersOn 37 = .ok (.istore_n 2, 1) := by decide +kernel
theorem dX4_sittersOn_38 : decode cX4_sittersOn 38 = .ok (.iinc 3 1, 3) := by decide +kernel
theorem dX4_sittersOn_41 : decode cX4_sittersOn 41 = .ok (.goto (-37), 3) := by decide +kernel
theorem dX4_sittersOn_44 : decode cX4_sittersOn 44 = .ok (.iload_n 2, 1) := by decide +kernel
theorem dX4_sittersOn_45 : decode cX4_sittersOn 45 = .ok (.ireturn, 1) := by decide +kernel
theorem hd_X4_sittersOn : yX4_sittersOn.cls = xCn 4 ∧ yX4_sittersOn.cls ≠ "java/lang/invoke/MethodHandle" ∧ yX4_sittersOn.cls ≠ "java/lang/invoke/VarHandle" ∧ (parseMethodDescriptor yX4_sittersOn.desc).map (fun d => d.parameters.length) = some 1 := by decide +kernel
def k_X4_sittersOn_44 (sh : List xSh) (x2 : Int32) (d : xD) : Option (Int32 × xD) :=
  some (x2, d)
def k_X4_sittersOn_38 (sh : List xSh) (rec4 : Nat → Int32 → Int32 → Int32 → xD → Option (Int32 × xD)) (q0 : Nat) (x1 : Int32) (x2 : Int32) (x3 : Int32) (d : xD) : Option (Int32 × xD) :=
  rec4 q0 x1 x2 (x3 + 1) d
def b_X4_sittersOn_4 (sh : List xSh) (rec4 : Nat → Int32 → Int32 → Int32 → xD → Option (Int32 × xD)) (q0 : Nat) (x1 : Int32) (x2 : Int32) (x3 : Int32) (d : xD) : Option (Int32 × xD) :=
  (xgI 4 sh d q0 4).bind fun v1 => if v1 ≤ x3 then (k_X4_sittersOn_44 sh x2 d) else ((xgR 4 sh d q0 5).bind fun v2 => (xaI .int sh d v2 x3).bind fun v3 => if v3 = (2 : Int32) then ((xgR 4 sh d q0 6).bind fun v4 => (xaI .int sh d v4 x3).bind fun v5 => if v5 = x1 then (k_X4_sittersOn_38 sh rec4 q0 x1 (x2 ||| ((1 : Int32) <<< (x3 &&& 31))) x3 d) else (k_X4_sittersOn_38 sh rec4 q0 x1 x2 x3 d)) else (k_X4_sittersOn_38 sh rec4 q0 x1 x2 x3 d))
def f_X4_sittersOn (sh : List xSh) (q0 : Nat) (x1 : Int32) (d : xD) : Option (Int32 × xD) :=
  xloop (fun _ _ _ _ _ => none) (b_X4_sittersOn_4 sh) xF q0 x1 (0 : Int32) (0 : Int32) d
set_option maxHeartbeats 4000000 in
set_option maxRecDepth 100000 in
theorem mt_X4_sittersOn (l : Launch) (D : va_G) (cid : FieldType → ClassId) (b : Nat) (ex : Bool) (sa sv B0 : Nat) (sh : List xSh) (q0 : Nat) (x1 : Int32) (d : xD) (r : Int32) (dz : xD) (hf : f_X4_sittersOn sh q0 x1 d = some (r, dz)) : xMet l yX4_sittersOn cX4_sittersOn 4 (some .int) 0 0 0 D cid b ex sa sv B0 [.ref (b + q0), .int x1] sh d (some (.int r)) sh dz := by
  refine xMet.of (by decide) (Nat.le_of_ble_eq_true rfl) ?_
  intro p e s m below meth c ls A S hr hin G hl
  have hl : lv_has ls 4 [(0, .ref (b + q0)), (1, .int x1)] := hl
  generalize ([.ref (b + q0), .int x1] : List Value).toArray = av at S ⊢
  have hx := S.1
  have hb := S.2.1
  have hml := S.2.2.1
  have hown := S.2.2.2.1
  have hts := S.2.2.2.2.1
  have K44 : ∀ (x2 : Int32) (d : xD), k_X4_sittersOn_44 sh x2 d = some (r, dz) → ∀ (H : Heap) (locs : List Loc) (ls : Array Slot), lv_has ls 4 [(2, .int x2)] → xG D cid b A sh d s H locs → W p l e (xRm 0 0 0) s m av below meth c H locs 0 0 (MQ below (xQ D cid b ex A (some (.int r)) sh dz) av s 0 0 A) (F0 m 44 ls []) := by
    intro x2 d hf H locs ls hl G
    unfold k_X4_sittersOn_44 at hf
    refine lv_iload_n hx hb dX4_sittersOn_44 rfl (lv_at hl 0 rfl) ?_
    cases hf
    exact xr_iret S G (fun _ => rfl) hr dX4_sittersOn_45
  have K38 : ∀ (rec4 : Nat → Int32 → Int32 → Int32 → xD → Option (Int32 × xD)) (hrec4 : ∀ (q0 : Nat) (x1 : Int32) (x2 : Int32) (x3 : Int32) (d : xD), rec4 q0 x1 x2 x3 d = some (r, dz) → ∀ (H : Heap) (locs : List Loc) (ls : Array Slot), lv_has ls 4 [(0, .ref (b + q0)), (1, .int x1), (2, .int x2), (3, .int x3)] → xG D cid b A sh d s H locs → W p l e (xRm 0 0 0) s m av below meth c H locs 0 0 (MQ below (xQ D cid b ex A (some (.int r)) sh dz) av s 0 0 A) (F0 m 4 ls [])) (q0 : Nat) (x1 : Int32) (x2 : Int32) (x3 : Int32) (d : xD), k_X4_sittersOn_38 sh rec4 q0 x1 x2 x3 d = some (r, dz) → ∀ (H : Heap) (locs : List Loc) (ls : Array Slot), lv_has ls 4 [(0, .ref (b + q0)), (1, .int x1), (2, .int x2), (3, .int x3)] → xG D cid b A sh d s H locs → W p l e (xRm 0 0 0) s m av below meth c H locs 0 0 (MQ below (xQ D cid b ex A (some (.int r)) sh dz) av s 0 0 A) (F0 m 38 ls []) := by
    intro rec4 hrec4 q0 x1 x2 x3 d hf H locs ls hl G
    unfold k_X4_sittersOn_38 at hf
    refine lv_iinc (v := (x3 + 1)) (lv' := [(3, .int (x3 + 1)), (0, .ref (b + q0)), (1, .int x1), (2, .int x2)]) hx hb dX4_sittersOn_38 hl (k := 3) rfl rfl (by decide) rfl (fun ls hl => ?_)
    refine lv_goto (tgt := 4) hx hb dX4_sittersOn_41 (by decide) ?_
    exact hrec4 q0 x1 x2 (x3 + 1) d hf _ _ ls (lv_sub hl [1, 2, 3, 0] rfl) G
  have K4 : ∀ (n : Nat) (q0 : Nat) (x1 : Int32) (x2 : Int32) (x3 : Int32) (d : xD), xloop (fun _ _ _ _ _ => none) (b_X4_sittersOn_4 sh) n q0 x1 x2 x3 d = some (r, dz) → ∀ (H : Heap) (locs : List Loc) (ls : Array Slot), lv_has ls 4 [(0, .ref (b + q0)), (1, .int x1), (2, .int x2), (3, .int x3)] → xG D cid b A sh d s H locs → W p l e (xRm 0 0 0) s m av below meth c H locs 0 0 (MQ below (xQ D cid b ex A (some (.int r)) sh dz) av s 0 0 A) (F0 m 4 ls []) := by
    intro n
    induction n with
    | zero =>
      intro q0 x1 x2 x3 d hf
      have hf : (none : Option (Int32 × xD)) = some (r, dz) := hf
      cases hf
    | succ n hrec4 =>
      intro q0 x1 x2 x3 d hf H locs ls hl G
      have hf : b_X4_sittersOn_4 sh (xloop (fun _ _ _ _ _ => none) (b_X4_sittersOn_4 sh) n) q0 x1 x2 x3 d = some (r, dz) := hf
      unfold b_X4_sittersOn_4 at hf
      refine lv_iload_n hx hb dX4_sittersOn_4 rfl (lv_at hl 3 rfl) ?_
      refine lv_aload_n hx hb dX4_sittersOn_5 rfl (lv_at hl 0 rfl) ?_
      obtain ⟨v1, hv1, hf⟩ := x_ob hf
      refine xr_getI (ci := 4) (k := 4) S G hv1 rfl kw_326 dX4_sittersOn_6 ?_
      refine lv_icmp_ge (tgt := 44) hx hb dX4_sittersOn_9 (by decide) (fun c => ?_) (fun c => ?_)
      · have hf := x_pos c hf
        exact K44 x2 d hf _ _ ls (lv_sub hl [2] rfl) G
      · have hf := x_neg c hf
        refine lv_aload_n hx hb dX4_sittersOn_12 rfl (lv_at hl 0 rfl) ?_
        obtain ⟨v2, hv2, hf⟩ := x_ob hf
        refine xr_getR (ci := 4) (k := 5) S G hv2 rfl kw_327 dX4_sittersOn_13 ?_
        refine lv_iload_n hx hb dX4_sittersOn_16 rfl (lv_at hl 3 rfl) ?_
        obtain ⟨v3, hv3, hf⟩ := x_ob hf
        refine xr_iald S G hv3 dX4_sittersOn_17 ?_
        refine lv_iconst (v := (2 : Int32)) hx hb dX4_sittersOn_18 (by decide) ?_
        refine lv_icmp_ne (tgt := 38) hx hb dX4_sittersOn_19 (by decide) (fun c => ?_) (fun c => ?_)
        · have hf := x_neg c hf
          exact K38 _ hrec4 q0 x1 x2 x3 d hf _ _ ls (lv_sub hl [0, 1, 2, 3] rfl) G
        · have hf := x_pos c hf
          refine lv_aload_n hx hb dX4_sittersOn_22 rfl (lv_at hl 0 rfl) ?_
          obtain ⟨v4, hv4, hf⟩ := x_ob hf
          refine xr_getR (ci := 4) (k := 6) S G hv4 rfl kw_330 dX4_sittersOn_23 ?_
          refine lv_iload_n hx hb dX4_sittersOn_26 rfl (lv_at hl 3 rfl) ?_
          obtain ⟨v5, hv5, hf⟩ := x_ob hf
          refine xr_iald S G hv5 dX4_sittersOn_27 ?_
          refine lv_iload_n hx hb dX4_sittersOn_28 rfl (lv_at hl 1 rfl) ?_
          refine lv_icmp_ne (tgt := 38) hx hb dX4_sittersOn_29 (by decide) (fun c => ?_) (fun c => ?_)
          · have hf := x_neg c hf
            exact K38 _ hrec4 q0 x1 x2 x3 d hf _ _ ls (lv_sub hl [0, 1, 2, 3] rfl) G
          · have hf := x_pos c hf
            refine lv_iload_n hx hb dX4_sittersOn_32 rfl (lv_at hl 2 rfl) ?_
            refine lv_iconst (v := (1 : Int32)) hx hb dX4_sittersOn_33 (by decide) ?_
            refine lv_iload_n hx hb dX4_sittersOn_34 rfl (lv_at hl 3 rfl) ?_
            refine lv_ishl hx hb dX4_sittersOn_35 ?_
            refine lv_ior hx hb dX4_sittersOn_36 ?_
            refine lv_istore_n (lv' := [(2, .int (x2 ||| ((1 : Int32) <<< (x3 &&& 31)))), (0, .ref (b + q0)), (1, .int x1), (3, .int x3)]) hx hb dX4_sittersOn_37 rfl hl (by decide) rfl (fun ls hl => ?_)
            exact K38 _ hrec4 q0 x1 (x2 ||| ((1 : Int32) <<< (x3 &&& 31))) x3 d hf _ _ ls (lv_sub hl [1, 2, 0, 3] rfl) G
  unfold f_X4_sittersOn at hf
  refine lv_iconst (v := (0 : Int32)) hx hb dX4_sittersOn_0 (by decide) ?_
  refine lv_istore_n (lv' := [(2, .int (0 : Int32)), (0, .ref (b + q0)), (1, .int x1)]) hx hb dX4_sittersOn_1 rfl hl (by decide) rfl (fun ls hl => ?_)
  refine lv_iconst (v := (0 : Int32)) hx hb dX4_sittersOn_2 (by decide) ?_
  refine lv_istore_n (lv' := [(3, .int (0 : Int32)), (2, .int (0 : Int32)), (0, .ref (b + q0)), (1, .int x1)]) hx hb dX4_sittersOn_3 rfl hl (by decide) rfl (fun ls hl => ?_)
  exact K4 xF q0 x1 (0 : Int32) (0 : Int32) d hf _ _ ls (lv_sub hl [2, 3, 1, 0] rfl) G
-- java/lang/Integer.bitCount(I)I
theorem dJ6_bitCount_0f7a4_0 : decode cJ6_bitCount_0f7a4 0 = .ok (.iload_n 0, 1) := by decide +kernel
theorem dJ6_bitCount_0f7a4_1 : decode cJ6_bitCount_0f7a4 1 = .ok (.iload_n 0, 1) := by decide +kernel
theorem dJ6_bitCount_0f7a4_2 : decode cJ6_bitCount_0f7a4 2 = .ok (.iconst 1, 1) := by decide +kernel
theorem dJ6_bitCount_0f7a4_3 : decode cJ6_bitCount_0f7a4 3 = .ok (.iushr, 1) := by decide +kernel
theorem dJ6_bitCount_0f7a4_4 : decode cJ6_bitCount_0f7a4 4 = .ok (.ldc_w 265, 3) := by decide +kernel
theorem dJ6_bitCount_0f7a4_7 : decode cJ6_bitCount_0f7a4 7 = .ok (.iand, 1) := by decide +kernel
theorem dJ6_bitCount_0f7a4_8 : decode cJ6_bitCount_0f7a4 8 = .ok (.isub, 1) := by decide +kernel
theorem dJ6_bitCount_0f7a4_9 : decode cJ6_bitCount_0f7a4 9 = .ok (.istore_n 0, 1) := by decide +kernel
theorem dJ6_bitCount_0f7a4_10 : decode cJ6_bitCount_0f7a4 10 = .ok (.iload_n 0, 1) := by decide +kernel
theorem dJ6_bitCount_0f7a4_11 : decode cJ6_bitCount_0f7a4 11 = .ok (.ldc_w 266, 3) := by decide +kernel
theorem dJ6_bitCount_0f7a4_14 : decode cJ6_bitCount_0f7a4 14 = .ok (.iand, 1) := by decide +kernel
theorem dJ6_bitCount_0f7a4_15 : decode cJ6_bitCount_0f7a4 15 = .ok (.iload_n 0, 1) := by decide +kernel
theorem dJ6_bitCount_0f7a4_16 : decode cJ6_bitCount_0f7a4 16 = .ok (.iconst 2, 1) := by decide +kernel
theorem dJ6_bitCount_0f7a4_17 : decode cJ6_bitCount_0f7a4 17 = .ok (.iushr, 1) := by decide +kernel
theorem dJ6_bitCount_0f7a4_18 : decode cJ6_bitCount_0f7a4 18 = .ok (.ldc_w 266, 3) := by decide +kernel
theorem dJ6_bitCount_0f7a4_21 : decode cJ6_bitCount_0f7a4 21 = .ok (.iand, 1) := by decide +kernel
theorem dJ6_bitCount_0f7a4_22 : decode cJ6_bitCount_0f7a4 22 = .ok (.iadd, 1) := by decide +kernel
theorem dJ6_bitCount_0f7a4_23 : decode cJ6_bitCount_0f7a4 23 = .ok (.istore_n 0, 1) := by decide +kernel
theorem dJ6_bitCount_0f7a4_24 : decode cJ6_bitCount_0f7a4 24 = .ok (.iload_n 0, 1) := by decide +kernel
theorem dJ6_bitCount_0f7a4_25 : decode cJ6_bitCount_0f7a4 25 = .ok (.iload_n 0, 1) := by decide +kernel
theorem dJ6_bitCount_0f7a4_26 : decode cJ6_bitCount_0f7a4 26 = .ok (.iconst 4, 1) := by decide +kernel
theorem dJ6_bitCount_0f7a4_27 : decode cJ6_bitCount_0f7a4 27 = .ok (.iushr, 1) := by decide +kernel
theorem dJ6_bitCount_0f7a4_28 : decode cJ6_bitCount_0f7a4 28 = .ok (.iadd, 1) := by decide +kernel
theorem dJ6_bitCount_0f7a4_29 : decode cJ6_bitCount_0f7a4 29 = .ok (.ldc_w 267, 3) := by decide +kernel
theorem dJ6_bitCount_0f7a4_32 : decode cJ6_bitCount_0f7a4 32 = .ok (.iand, 1) := by decide +kernel
theorem dJ6_bitCount_0f7a4_33 : decode cJ6_bitCount_0f7a4 33 = .ok (.istore_n 0, 1) := by decide +kernel
theorem dJ6_bitCount_0f7a4_34 : decode cJ6_bitCount_0f7a4 34 = .ok (.iload_n 0, 1) := by decide +kernel
theorem dJ6_bitCount_0f7a4_35 : decode cJ6_bitCount_0f7a4 35 = .ok (.iload_n 0, 1) := by decide +kernel
theorem dJ6_bitCount_0f7a4_36 : decode cJ6_bitCount_0f7a4 36 = .ok (.bipush 8, 2) := by decide +kernel
theorem dJ6_bitCount_0f7a4_38 : decode cJ6_bitCount_0f7a4 38 = .ok (.iushr, 1) := by decide +kernel
theorem dJ6_bitCount_0f7a4_39 : decode cJ6_bitCount_0f7a4 39 = .ok (.iadd, 1) := by decide +kernel
theorem dJ6_bitCount_0f7a4_40 : decode cJ6_bitCount_0f7a4 40 = .ok (.istore_n 0, 1) := by decide +kernel
theorem dJ6_bitCount_0f7a4_41 : decode cJ6_bitCount_0f7a4 41 = .ok (.iload_n 0, 1) := by decide +kernel
theorem dJ6_bitCount_0f7a4_42 : decode cJ6_bitCount_0f7a4 42 = .ok (.iload_n 0, 1) := by decide +kernel
theorem dJ6_bitCount_0f7a4_43 : decode cJ6_bitCount_0f7a4 43 = .ok (.bipush 16, 2) := by decide +kernel
theorem dJ6_bitCount_0f7a4_45 : decode cJ6_bitCount_0f7a4 45 = .ok (.iushr, 1) := by decide +kernel
theorem dJ6_bitCount_0f7a4_46 : decode cJ6_bitCount_0f7a4 46 = .ok (.iadd, 1) := by decide +kernel
theorem dJ6_bitCount_0f7a4_47 : decode cJ6_bitCount_0f7a4 47 = .ok (.istore_n 0, 1) := by decide +kernel
theorem dJ6_bitCount_0f7a4_48 : decode cJ6_bitCount_0f7a4 48 = .ok (.iload_n 0, 1) := by decide +kernel
theorem dJ6_bitCount_0f7a4_49 : decode cJ6_bitCount_0f7a4 49 = .ok (.bipush 63, 2) := by decide +kernel
theorem dJ6_bitCount_0f7a4_51 : decode cJ6_bitCount_0f7a4 51 = .ok (.iand, 1) := by decide +kernel
theorem dJ6_bitCount_0f7a4_52 : decode cJ6_bitCount_0f7a4 52 = .ok (.ireturn, 1) := by decide +kernel
theorem hd_J6_bitCount_0f7a4 : yJ6_bitCount_0f7a4.cls ≠ "java/lang/invoke/MethodHandle" ∧ yJ6_bitCount_0f7a4.cls ≠ "java/lang/invoke/VarHandle" ∧ (parseMethodDescriptor yJ6_bitCount_0f7a4.desc).map (fun d => d.parameters.length) = some 1 := by decide +kernel
def f_J6_bitCount_0f7a4 (sh : List xSh) (x0 : Int32) (d : xD) : Option (Int32 × xD) :=
  some (((((((((x0 - (((x0).toUInt32 >>> (((1 : Int32)).toUInt32 &&& Int32.toUInt32 31)).toInt32 &&& (1431655765 : Int32))) &&& (858993459 : Int32)) + ((((x0 - (((x0).toUInt32 >>> (((1 : Int32)).toUInt32 &&& Int32.toUInt32 31)).toInt32 &&& (1431655765 : Int32)))).toUInt32 >>> (((2 : Int32)).toUInt32 &&& Int32.toUInt32 31)).toInt32 &&& (858993459 : Int32))) + (((((x0 - (((x0).toUInt32 >>> (((1 : Int32)).toUInt32 &&& Int32.toUInt32 31)).toInt32 &&& (1431655765 : Int32))) &&& (858993459 : Int32)) + ((((x0 - (((x0).toUInt32 >>> (((1 : Int32)).toUInt32 &&& Int32.toUInt32 31)).toInt32 &&& (1431655765 : Int32)))).toUInt32 >>> (((2 : Int32)).toUInt32 &&& Int32.toUInt32 31)).toInt32 &&& (858993459 : Int32)))).toUInt32 >>> (((4 : Int32)).toUInt32 &&& Int32.toUInt32 31)).toInt32) &&& (252645135 : Int32)) + (((((((x0 - (((x0).toUInt32 >>> (((1 : Int32)).toUInt32 &&& Int32.toUInt32 31)).toInt32 &&& (1431655765 : Int32))) &&& (858993459 : Int32)) + ((((x0 - (((x0).toUInt32 >>> (((1 : Int32)).toUInt32 &&& Int32.toUInt32 31)).toInt32 &&& (1431655765 : Int32)))).toUInt32 >>> (((2 : Int32)).toUInt32 &&& Int32.toUInt32 31)).toInt32 &&& (858993459 : Int32))) + (((((x0 - (((x0).toUInt32 >>> (((1 : Int32)).toUInt32 &&& Int32.toUInt32 31)).toInt32 &&& (1431655765 : Int32))) &&& (858993459 : Int32)) + ((((x0 - (((x0).toUInt32 >>> (((1 : Int32)).toUInt32 &&& Int32.toUInt32 31)).toInt32 &&& (1431655765 : Int32)))).toUInt32 >>> (((2 : Int32)).toUInt32 &&& Int32.toUInt32 31)).toInt32 &&& (858993459 : Int32)))).toUInt32 >>> (((4 : Int32)).toUInt32 &&& Int32.toUInt32 31)).toInt32) &&& (252645135 : Int32))).toUInt32 >>> (((8 : Int32)).toUInt32 &&& Int32.toUInt32 31)).toInt32) + ((((((((x0 - (((x0).toUInt32 >>> (((1 : Int32)).toUInt32 &&& Int32.toUInt32 31)).toInt32 &&& (1431655765 : Int32))) &&& (858993459 : Int32)) + ((((x0 - (((x0).toUInt32 >>> (((1 : Int32)).toUInt32 &&& Int32.toUInt32 31)).toInt32 &&& (1431655765 : Int32)))).toUInt32 >>> (((2 : Int32)).toUInt32 &&& Int32.toUInt32 31)).toInt32 &&& (858993459 : Int32))) + (((((x0 - (((x0).toUInt32 >>> (((1 : Int32)).toUInt32 &&& Int32.toUInt32 31)).toInt32 &&& (1431655765 : Int32))) &&& (858993459 : Int32)) + ((((x0 - (((x0).toUInt32 >>> (((1 : Int32)).toUInt32 &&& Int32.toUInt32 31)).toInt32 &&& (1431655765 : Int32)))).toUInt32 >>> (((2 : Int32)).toUInt32 &&& Int32.toUInt32 31)).toInt32 &&& (858993459 : Int32)))).toUInt32 >>> (((4 : Int32)).toUInt32 &&& Int32.toUInt32 31)).toInt32) &&& (252645135 : Int32)) + (((((((x0 - (((x0).toUInt32 >>> (((1 : Int32)).toUInt32 &&& Int32.toUInt32 31)).toInt32 &&& (1431655765 : Int32))) &&& (858993459 : Int32)) + ((((x0 - (((x0).toUInt32 >>> (((1 : Int32)).toUInt32 &&& Int32.toUInt32 31)).toInt32 &&& (1431655765 : Int32)))).toUInt32 >>> (((2 : Int32)).toUInt32 &&& Int32.toUInt32 31)).toInt32 &&& (858993459 : Int32))) + (((((x0 - (((x0).toUInt32 >>> (((1 : Int32)).toUInt32 &&& Int32.toUInt32 31)).toInt32 &&& (1431655765 : Int32))) &&& (858993459 : Int32)) + ((((x0 - (((x0).toUInt32 >>> (((1 : Int32)).toUInt32 &&& Int32.toUInt32 31)).toInt32 &&& (1431655765 : Int32)))).toUInt32 >>> (((2 : Int32)).toUInt32 &&& Int32.toUInt32 31)).toInt32 &&& (858993459 : Int32)))).toUInt32 >>> (((4 : Int32)).toUInt32 &&& Int32.toUInt32 31)).toInt32) &&& (252645135 : Int32))).toUInt32 >>> (((8 : Int32)).toUInt32 &&& Int32.toUInt32 31)).toInt32)).toUInt32 >>> (((16 : Int32)).toUInt32 &&& Int32.toUInt32 31)).toInt32) &&& (63 : Int32)), d)
set_option maxHeartbeats 4000000 in
set_option maxRecDepth 100000 in
theorem mt_J6_bitCount_0f7a4 (l : Launch) (D : va_G) (cid : FieldType → ClassId) (b : Nat) (ex : Bool) (sa sv B0 : Nat) (sh : List xSh) (x0 : Int32) (d : xD) (r : Int32) (dz : xD) (hf : f_J6_bitCount_0f7a4 sh x0 d = some (r, dz)) : xMet l yJ6_bitCount_0f7a4 cJ6_bitCount_0f7a4 1 (some .int) 0 0 0 D cid b ex sa sv B0 [.int x0] sh d (some (.int r)) sh dz := by
  refine xMet.of (by decide) (Nat.le_of_ble_eq_true rfl) ?_
  intro p e s m below meth c ls A S hr hin G hl
  have hl : lv_has ls 1 [(0, .int x0)] := hl
  generalize ([.int x0] : List Value).toArray = av at S ⊢
  have hx := S.1
  have hb := S.2.1
  have hml := S.2.2.1
  have hown := S.2.2.2.1
  have hts := S.2.2.2.2.1
  unfold f_J6_bitCount_0f7a4 at hf
  refine lv_iload_n hx hb dJ6_bitCount_0f7a4_0 rfl (lv_at hl 0 rfl) ?_
  refine lv_iload_n hx hb dJ6_bitCount_0f7a4_1 rfl (lv_at hl 0 rfl) ?_
  refine lv_iconst (v := (1 : Int32)) hx hb dJ6_bitCount_0f7a4_2 (by decide) ?_
  refine lv_iushr (v := ((x0).toUInt32 >>> (((1 : Int32)).toUInt32 &&& Int32.toUInt32 31)).toInt32) hx hb dJ6_bitCount_0f7a4_3 rfl ?_
  refine lv_ldcw (v := (1431655765 : Int32)) hx hb hown (hts _ kw_743) dJ6_bitCount_0f7a4_4 ?_
  refine lv_iand hx hb dJ6_bitCount_0f7a4_7 ?_
  refine lv_isub hx hb dJ6_bitCount_0f7a4_8 ?_
  refine lv_istore_n (lv' := [(0, .int (x0 - (((x0).toUInt32 >>> (((1 : Int32)).toUInt32 &&& Int32.toUInt32 31)).toInt32 &&& (1431655765 : Int32))))]) hx hb dJ6_bitCount_0f7a4_9 rfl hl (by decide) rfl (fun ls hl => ?_)
  refine lv_iload_n hx hb dJ6_bitCount_0f7a4_10 rfl (lv_at hl 0 rfl) ?_
  refine lv_ldcw (v := (858993459 : Int32)) hx hb hown (hts _ kw_744) dJ6_bitCount_0f7a4_11 ?_
  refine lv_iand hx hb dJ6_bitCount_0f7a4_14 ?_
  refine lv_iload_n hx hb dJ6_bitCount_0f7a4_15 rfl (lv_at hl 0 rfl) ?_
  refine lv_iconst (v := (2 : Int32)) hx hb dJ6_bitCount_0f7a4_16 (by decide) ?_
  refine lv_iushr (v := (((x0 - (((x0).toUInt32 >>> (((1 : Int32)).toUInt32 &&& Int32.toUInt32 31)).toInt32 &&& (1431655765 : Int32)))).toUInt32 >>> (((2 : Int32)).toUInt32 &&& Int32.toUInt32 31)).toInt32) hx hb dJ6_bitCount_0f7a4_17 rfl ?_
  refine lv_ldcw (v := (858993459 : Int32)) hx hb hown (hts _ kw_744) dJ6_bitCount_0f7a4_18 ?_
  refine lv_iand hx hb dJ6_bitCount_0f7a4_21 ?_
  refine lv_iadd hx hb dJ6_bitCount_0f7a4_22 ?_
  refine lv_istore_n (lv' := [(0, .int (((x0 - (((x0).toUInt32 >>> (((1 : Int32)).toUInt32 &&& Int32.toUInt32 31)).toInt32 &&& (1431655765 : Int32))) &&& (858993459 : Int32)) + ((((x0 - (((x0).toUInt32 >>> (((1 : Int32)).toUInt32 &&& Int32.toUInt32 31)).toInt32 &&& (1431655765 : Int32)))).toUInt32 >>> (((2 : Int32)).toUInt32 &&& Int32.toUInt32 31)).toInt32 &&& (858993459 : Int32))))]) hx hb dJ6_bitCount_0f7a4_23 rfl hl (by decide) rfl (fun ls hl => ?_)
  refine lv_iload_n hx hb dJ6_bitCount_0f7a4_24 rfl (lv_at hl 0 rfl) ?_
  refine lv_iload_n hx hb dJ6_bitCount_0f7a4_25 rfl (lv_at hl 0 rfl) ?_
  refine lv_iconst (v := (4 : Int32)) hx hb dJ6_bitCount_0f7a4_26 (by decide) ?_
  refine lv_iushr (v := (((((x0 - (((x0).toUInt32 >>> (((1 : Int32)).toUInt32 &&& Int32.toUInt32 31)).toInt32 &&& (1431655765 : Int32))) &&& (858993459 : Int32)) + ((((x0 - (((x0).toUInt32 >>> (((1 : Int32)).toUInt32 &&& Int32.toUInt32 31)).toInt32 &&& (1431655765 : Int32)))).toUInt32 >>> (((2 : Int32)).toUInt32 &&& Int32.toUInt32 31)).toInt32 &&& (858993459 : Int32)))).toUInt32 >>> (((4 : Int32)).toUInt32 &&& Int32.toUInt32 31)).toInt32) hx hb dJ6_bitCount_0f7a4_27 rfl ?_
  refine lv_iadd hx hb dJ6_bitCount_0f7a4_28 ?_
  refine lv_ldcw (v := (252645135 : Int32)) hx hb hown (hts _ kw_745) dJ6_bitCount_0f7a4_29 ?_
  refine lv_iand hx hb dJ6_bitCount_0f7a4_32 ?_
  refine lv_istore_n (lv' := [(0, .int (((((x0 - (((x0).toUInt32 >>> (((1 : Int32)).toUInt32 &&& Int32.toUInt32 31)).toInt32 &&& (1431655765 : Int32))) &&& (858993459 : Int32)) + ((((x0 - (((x0).toUInt32 >>> (((1 : Int32)).toUInt32 &&& Int32.toUInt32 31)).toInt32 &&& (1431655765 : Int32)))).toUInt32 >>> (((2 : Int32)).toUInt32 &&& Int32.toUInt32 31)).toInt32 &&& (858993459 : Int32))) + (((((x0 - (((x0).toUInt32 >>> (((1 : Int32)).toUInt32 &&& Int32.toUInt32 31)).toInt32 &&& (1431655765 : Int32))) &&& (858993459 : Int32)) + ((((x0 - (((x0).toUInt32 >>> (((1 : Int32)).toUInt32 &&& Int32.toUInt32 31)).toInt32 &&& (1431655765 : Int32)))).toUInt32 >>> (((2 : Int32)).toUInt32 &&& Int32.toUInt32 31)).toInt32 &&& (858993459 : Int32)))).toUInt32 >>> (((4 : Int32)).toUInt32 &&& Int32.toUInt32 31)).toInt32) &&& (252645135 : Int32)))]) hx hb dJ6_bitCount_0f7a4_33 rfl hl (by decide) rfl (fun ls hl => ?_)
  refine lv_iload_n hx hb dJ6_bitCount_0f7a4_34 rfl (lv_at hl 0 rfl) ?_
  refine lv_iload_n hx hb dJ6_bitCount_0f7a4_35 rfl (lv_at hl 0 rfl) ?_
  refine lv_bipush (v := (8 : Int32)) hx hb dJ6_bitCount_0f7a4_36 (by decide) ?_
  refine lv_iushr (v := (((((((x0 - (((x0).toUInt32 >>> (((1 : Int32)).toUInt32 &&& Int32.toUInt32 31)).toInt32 &&& (1431655765 : Int32))) &&& (858993459 : Int32)) + ((((x0 - (((x0).toUInt32 >>> (((1 : Int32)).toUInt32 &&& Int32.toUInt32 31)).toInt32 &&& (1431655765 : Int32)))).toUInt32 >>> (((2 : Int32)).toUInt32 &&& Int32.toUInt32 31)).toInt32 &&& (858993459 : Int32))) + (((((x0 - (((x0).toUInt32 >>> (((1 : Int32)).toUInt32 &&& Int32.toUInt32 31)).toInt32 &&& (1431655765 : Int32))) &&& (858993459 : Int32)) + ((((x0 - (((x0).toUInt32 >>> (((1 : Int32)).toUInt32 &&& Int32.toUInt32 31)).toInt32 &&& (1431655765 : Int32)))).toUInt32 >>> (((2 : Int32)).toUInt32 &&& Int32.toUInt32 31)).toInt32 &&& (858993459 : Int32)))).toUInt32 >>> (((4 : Int32)).toUInt32 &&& Int32.toUInt32 31)).toInt32) &&& (252645135 : Int32))).toUInt32 >>> (((8 : Int32)).toUInt32 &&& Int32.toUInt32 31)).toInt32) hx hb dJ6_bitCount_0f7a4_38 rfl ?_
  refine lv_iadd hx hb dJ6_bitCount_0f7a4_39 ?_
  refine lv_istore_n (lv' := [(0, .int ((((((x0 - (((x0).toUInt32 >>> (((1 : Int32)).toUInt32 &&& Int32.toUInt32 31)).toInt32 &&& (1431655765 : Int32))) &&& (858993459 : Int32)) + ((((x0 - (((x0).toUInt32 >>> (((1 : Int32)).toUInt32 &&& Int32.toUInt32 31)).toInt32 &&& (1431655765 : Int32)))).toUInt32 >>> (((2 : Int32)).toUInt32 &&& Int32.toUInt32 31)).toInt32 &&& (858993459 : Int32))) + (((((x0 - (((x0).toUInt32 >>> (((1 : Int32)).toUInt32 &&& Int32.toUInt32 31)).toInt32 &&& (1431655765 : Int32))) &&& (858993459 : Int32)) + ((((x0 - (((x0).toUInt32 >>> (((1 : Int32)).toUInt32 &&& Int32.toUInt32 31)).toInt32 &&& (1431655765 : Int32)))).toUInt32 >>> (((2 : Int32)).toUInt32 &&& Int32.toUInt32 31)).toInt32 &&& (858993459 : Int32)))).toUInt32 >>> (((4 : Int32)).toUInt32 &&& Int32.toUInt32 31)).toInt32) &&& (252645135 : Int32)) + (((((((x0 - (((x0).toUInt32 >>> (((1 : Int32)).toUInt32 &&& Int32.toUInt32 31)).toInt32 &&& (1431655765 : Int32))) &&& (858993459 : Int32)) + ((((x0 - (((x0).toUInt32 >>> (((1 : Int32)).toUInt32 &&& Int32.toUInt32 31)).toInt32 &&& (1431655765 : Int32)))).toUInt32 >>> (((2 : Int32)).toUInt32 &&& Int32.toUInt32 31)).toInt32 &&& (858993459 : Int32))) + (((((x0 - (((x0).toUInt32 >>> (((1 : Int32)).toUInt32 &&& Int32.toUInt32 31)).toInt32 &&& (1431655765 : Int32))) &&& (858993459 : Int32)) + ((((x0 - (((x0).toUInt32 >>> (((1 : Int32)).toUInt32 &&& Int32.toUInt32 31)).toInt32 &&& (1431655765 : Int32)))).toUInt32 >>> (((2 : Int32)).toUInt32 &&& Int32.toUInt32 31)).toInt32 &&& (858993459 : Int32)))).toUInt32 >>> (((4 : Int32)).toUInt32 &&& Int32.toUInt32 31)).toInt32) &&& (252645135 : Int32))).toUInt32 >>> (((8 : Int32)).toUInt32 &&& Int32.toUInt32 31)).toInt32))]) hx hb dJ6_bitCount_0f7a4_40 rfl hl (by decide) rfl (fun ls hl => ?_)
  refine lv_iload_n hx hb dJ6_bitCount_0f7a4_41 rfl (lv_at hl 0 rfl) ?_
  refine lv_iload_n hx hb dJ6_bitCount_0f7a4_42 rfl (lv_at hl 0 rfl) ?_
  refine lv_bipush (v := (16 : Int32)) hx hb dJ6_bitCount_0f7a4_43 (by decide) ?_
  refine lv_iushr (v := ((((((((x0 - (((x0).toUInt32 >>> (((1 : Int32)).toUInt32 &&& Int32.toUInt32 31)).toInt32 &&& (1431655765 : Int32))) &&& (858993459 : Int32)) + ((((x0 - (((x0).toUInt32 >>> (((1 : Int32)).toUInt32 &&& Int32.toUInt32 31)).toInt32 &&& (1431655765 : Int32)))).toUInt32 >>> (((2 : Int32)).toUInt32 &&& Int32.toUInt32 31)).toInt32 &&& (858993459 : Int32))) + (((((x0 - (((x0).toUInt32 >>> (((1 : Int32)).toUInt32 &&& Int32.toUInt32 31)).toInt32 &&& (1431655765 : Int32))) &&& (858993459 : Int32)) + ((((x0 - (((x0).toUInt32 >>> (((1 : Int32)).toUInt32 &&& Int32.toUInt32 31)).toInt32 &&& (1431655765 : Int32)))).toUInt32 >>> (((2 : Int32)).toUInt32 &&& Int32.toUInt32 31)).toInt32 &&& (858993459 : Int32)))).toUInt32 >>> (((4 : Int32)).toUInt32 &&& Int32.toUInt32 31)).toInt32) &&& (252645135 : Int32)) + (((((((x0 - (((x0).toUInt32 >>> (((1 : Int32)).toUInt32 &&& Int32.toUInt32 31)).toInt32 &&& (1431655765 : Int32))) &&& (858993459 : Int32)) + ((((x0 - (((x0).toUInt32 >>> (((1 : Int32)).toUInt32 &&& Int32.toUInt32 31)).toInt32 &&& (1431655765 : Int32)))).toUInt32 >>> (((2 : Int32)).toUInt32 &&& Int32.toUInt32 31)).toInt32 &&& (858993459 : Int32))) + (((((x0 - (((x0).toUInt32 >>> (((1 : Int32)).toUInt32 &&& Int32.toUInt32 31)).toInt32 &&& (1431655765 : Int32))) &&& (858993459 : Int32)) + ((((x0 - (((x0).toUInt32 >>> (((1 : Int32)).toUInt32 &&& Int32.toUInt32 31)).toInt32 &&& (1431655765 : Int32)))).toUInt32 >>> (((2 : Int32)).toUInt32 &&& Int32.toUInt32 31)).toInt32 &&& (858993459 : Int32)))).toUInt32 >>> (((4 : Int32)).toUInt32 &&& Int32.toUInt32 31)).toInt32) &&& (252645135 : Int32))).toUInt32 >>> (((8 : Int32)).toUInt32 &&& Int32.toUInt32 31)).toInt32)).toUInt32 >>> (((16 : Int32)).toUInt32 &&& Int32.toUInt32 31)).toInt32) hx hb dJ6_bitCount_0f7a4_45 rfl ?_
  refine lv_iadd hx hb dJ6_bitCount_0f7a4_46 ?_
  refine lv_istore_n (lv' := [(0, .int (((((((x0 - (((x0).toUInt32 >>> (((1 : Int32)).toUInt32 &&& Int32.toUInt32 31)).toInt32 &&& (1431655765 : Int32))) &&& (858993459 : Int32)) + ((((x0 - (((x0).toUInt32 >>> (((1 : Int32)).toUInt32 &&& Int32.toUInt32 31)).toInt32 &&& (1431655765 : Int32)))).toUInt32 >>> (((2 : Int32)).toUInt32 &&& Int32.toUInt32 31)).toInt32 &&& (858993459 : Int32))) + (((((x0 - (((x0).toUInt32 >>> (((1 : Int32)).toUInt32 &&& Int32.toUInt32 31)).toInt32 &&& (1431655765 : Int32))) &&& (858993459 : Int32)) + ((((x0 - (((x0).toUInt32 >>> (((1 : Int32)).toUInt32 &&& Int32.toUInt32 31)).toInt32 &&& (1431655765 : Int32)))).toUInt32 >>> (((2 : Int32)).toUInt32 &&& Int32.toUInt32 31)).toInt32 &&& (858993459 : Int32)))).toUInt32 >>> (((4 : Int32)).toUInt32 &&& Int32.toUInt32 31)).toInt32) &&& (252645135 : Int32)) + (((((((x0 - (((x0).toUInt32 >>> (((1 : Int32)).toUInt32 &&& Int32.toUInt32 31)).toInt32 &&& (1431655765 : Int32))) &&& (858993459 : Int32)) + ((((x0 - (((x0).toUInt32 >>> (((1 : Int32)).toUInt32 &&& Int32.toUInt32 31)).toInt32 &&& (1431655765 : Int32)))).toUInt32 >>> (((2 : Int32)).toUInt32 &&& Int32.toUInt32 31)).toInt32 &&& (858993459 : Int32))) + (((((x0 - (((x0).toUInt32 >>> (((1 : Int32)).toUInt32 &&& Int32.toUInt32 31)).toInt32 &&& (1431655765 : Int32))) &&& (858993459 : Int32)) + ((((x0 - (((x0).toUInt32 >>> (((1 : Int32)).toUInt32 &&& Int32.toUInt32 31)).toInt32 &&& (1431655765 : Int32)))).toUInt32 >>> (((2 : Int32)).toUInt32 &&& Int32.toUInt32 31)).toInt32 &&& (858993459 : Int32)))).toUInt32 >>> (((4 : Int32)).toUInt32 &&& Int32.toUInt32 31)).toInt32) &&& (252645135 : Int32))).toUInt32 >>> (((8 : Int32)).toUInt32 &&& Int32.toUInt32 31)).toInt32) + ((((((((x0 - (((x0).toUInt32 >>> (((1 : Int32)).toUInt32 &&& Int32.toUInt32 31)).toInt32 &&& (1431655765 : Int32))) &&& (858993459 : Int32)) + ((((x0 - (((x0).toUInt32 >>> (((1 : Int32)).toUInt32 &&& Int32.toUInt32 31)).toInt32 &&& (1431655765 : Int32)))).toUInt32 >>> (((2 : Int32)).toUInt32 &&& Int32.toUInt32 31)).toInt32 &&& (858993459 : Int32))) + (((((x0 - (((x0).toUInt32 >>> (((1 : Int32)).toUInt32 &&& Int32.toUInt32 31)).toInt32 &&& (1431655765 : Int32))) &&& (858993459 : Int32)) + ((((x0 - (((x0).toUInt32 >>> (((1 : Int32)).toUInt32 &&& Int32.toUInt32 31)).toInt32 &&& (1431655765 : Int32)))).toUInt32 >>> (((2 : Int32)).toUInt32 &&& Int32.toUInt32 31)).toInt32 &&& (858993459 : Int32)))).toUInt32 >>> (((4 : Int32)).toUInt32 &&& Int32.toUInt32 31)).toInt32) &&& (252645135 : Int32)) + (((((((x0 - (((x0).toUInt32 >>> (((1 : Int32)).toUInt32 &&& Int32.toUInt32 31)).toInt32 &&& (1431655765 : Int32))) &&& (858993459 : Int32)) + ((((x0 - (((x0).toUInt32 >>> (((1 : Int32)).toUInt32 &&& Int32.toUInt32 31)).toInt32 &&& (1431655765 : Int32)))).toUInt32 >>> (((2 : Int32)).toUInt32 &&& Int32.toUInt32 31)).toInt32 &&& (858993459 : Int32))) + (((((x0 - (((x0).toUInt32 >>> (((1 : Int32)).toUInt32 &&& Int32.toUInt32 31)).toInt32 &&& (1431655765 : Int32))) &&& (858993459 : Int32)) + ((((x0 - (((x0).toUInt32 >>> (((1 : Int32)).toUInt32 &&& Int32.toUInt32 31)).toInt32 &&& (1431655765 : Int32)))).toUInt32 >>> (((2 : Int32)).toUInt32 &&& Int32.toUInt32 31)).toInt32 &&& (858993459 : Int32)))).toUInt32 >>> (((4 : Int32)).toUInt32 &&& Int32.toUInt32 31)).toInt32) &&& (252645135 : Int32))).toUInt32 >>> (((8 : Int32)).toUInt32 &&& Int32.toUInt32 31)).toInt32)).toUInt32 >>> (((16 : Int32)).toUInt32 &&& Int32.toUInt32 31)).toInt32))]) hx hb dJ6_bitCount_0f7a4_47 rfl hl (by decide) rfl (fun ls hl => ?_)
  refine lv_iload_n hx hb dJ6_bitCount_0f7a4_48 rfl (lv_at hl 0 rfl) ?_
  refine lv_bipush (v := (63 : Int32)) hx hb dJ6_bitCount_0f7a4_49 (by decide) ?_
  refine lv_iand hx hb dJ6_bitCount_0f7a4_51 ?_
  cases hf
  exact xr_iret S G (fun _ => rfl) hr dJ6_bitCount_0f7a4_52
-- HalfLandings$Scene.seatFree(II)Z
theorem dX4_seatFree_0 : decode cX4_seatFree 0 = .ok (.aload_n 0, 1) := by decide +kernel
theorem dX4_seatFree_1 : decode cX4_seatFree 1 = .ok (.iload_n 2, 1) := by decide +kernel
theorem dX4_seatFree_2 : decode cX4_seatFree 2 = .ok (.invokevirtual 112, 3) := by decide +kernel
theorem dX4_seatFree_5 : decode cX4_seatFree 5 = .ok (.invokestatic 116, 3) := by decide +kernel
theorem dX4_seatFree_8 : decode cX4_seatFree 8 = .ok (.aload_n 0, 1) := by decide +kernel
theorem dX4_seatFree_9 : decode cX4_seatFree 9 = .ok (.getfield 50, 3) := by decide +kernel
theorem dX4_seatFree_12 : decode cX4_seatFree 12 = .ok (.iload_n 1, 1) := by decide +kernel
theorem dX4_seatFree_13 : decode cX4_seatFree 13 = .ok (.iaload, 1) := by decide +kernel
theorem dX4_seatFree_14 : decode cX4_seatFree 14 = .ok (.if_icmp .ge 7, 3) := by decide +kernel
theorem dX4_seatFree_17 : decode cX4_seatFree 17 = .ok (.iconst 1, 1) := by decide +kernel
theorem dX4_seatFree_18 : decode cX4_seatFree 18 = .ok (.goto 4, 3) := by decide +kernel
theorem dX4_seatFree_21 : decode cX4_seatFree 21 = .ok (.iconst 0, 1) := by decide +kernel
theorem dX4_seatFree_22 : decode cX4_seatFree 22 = .ok (.ireturn, 1) := by decide +kernel
theorem hd_X4_seatFree : yX4_seatFree.cls = xCn 4 ∧ yX4_seatFree.cls ≠ "java/lang/invoke/MethodHandle" ∧ yX4_seatFree.cls ≠ "java/lang/invoke/VarHandle" ∧ (parseMethodDescriptor yX4_seatFree.desc).map (fun d => d.parameters.length) = some 2 := by decide +kernel
def k_X4_seatFree_22 (sh : List xSh) (y0 : Int32) (d : xD) : Option (Int32 × xD) :=
  (xz y0).bind fun v1 => some (v1, d)
def f_X4_seatFree (sh : List xSh) (q0 : Nat) (x1 : Int32) (x2 : Int32) (d : xD) : Option (Int32 × xD) :=
  (xon 4 sh q0 (f_X4_sittersOn sh q0 x2 d)).bind fun z2 => (f_J6_bitCount_0f7a4 sh z2.1 z2.2).bind fun z3 => (xgR 4 sh z3.2 q0 12).bind fun v4 => (xaI .int sh z3.2 v4 x1).bind fun v5 => if v5 ≤ z3.1 then (k_X4_seatFree_22 sh (0 : Int32) z3.2) else (k_X4_seatFree_22 sh (1 : Int32) z3.2)
set_option maxHeartbeats 4000000 in
set_option maxRecDepth 100000 in
theorem mt_X4_seatFree (l : Launch) (D : va_G) (cid : FieldType → ClassId) (b : Nat) (ex : Bool) (sa sv B0 : Nat) (sh : List xSh) (q0 : Nat) (x1 : Int32) (x2 : Int32) (d : xD) (r : Int32) (dz : xD) (hf : f_X4_seatFree sh q0 x1 x2 d = some (r, dz)) : xMet l yX4_seatFree cX4_seatFree 3 (some .boolean) 1 0 0 D cid b ex sa sv B0 [.ref (b + q0), .int x1, .int x2] sh d (some (.int r)) sh dz := by
  refine xMet.of (by decide) (Nat.le_of_ble_eq_true rfl) ?_
  intro p e s m below meth c ls A S hr hin G hl
  have hl : lv_has ls 3 [(0, .ref (b + q0)), (1, .int x1), (2, .int x2)] := hl
  generalize ([.ref (b + q0), .int x1, .int x2] : List Value).toArray = av at S ⊢
  have hx := S.1
  have hb := S.2.1
  have hml := S.2.2.1
  have hown := S.2.2.2.1
  have hts := S.2.2.2.2.1
  have K22 : ∀ (y0 : Int32) (d : xD), k_X4_seatFree_22 sh y0 d = some (r, dz) → ∀ (H : Heap) (locs : List Loc) (ls : Array Slot), lv_has ls 3 [] → xG D cid b A sh d s H locs → W p l e (xRm 1 0 0) s m av below meth c H locs 0 0 (MQ below (xQ D cid b ex A (some (.int r)) sh dz) av s 0 0 A) (F0 m 22 ls [.int y0]) := by
    intro y0 d hf H locs ls hl G
    unfold k_X4_seatFree_22 at hf
    obtain ⟨v1, hv1, hf⟩ := x_ob hf
    cases hf
    exact xr_zret S G (fun _ => rfl) hr hv1 dX4_seatFree_22
  unfold f_X4_seatFree at hf
  refine lv_aload_n hx hb dX4_seatFree_0 rfl (lv_at hl 0 rfl) ?_
  refine lv_iload_n hx hb dX4_seatFree_1 rfl (lv_at hl 2 rfl) ?_
  obtain ⟨z2, hz2, hf⟩ := x_ob hf
  obtain ⟨hqz2, hz2⟩ := xon_of hz2
  refine xr_callV (ci := 4) (As := [.int x2]) (rest := []) (st1 := [.int z2.1]) S G hl.1 (fun _ => rfl) (mt_X4_sittersOn l D cid b ex sa sv B0 sh q0 x2 d _ _ hz2) hqz2 (by decide) kw_796 kw_737 kw_738 kw_12 kw_739 hd_X4_sittersOn ⟨Nat.le_of_ble_eq_true rfl, Nat.le_of_ble_eq_true rfl⟩ rfl rfl rfl (Nat.le_of_ble_eq_true rfl) ⟨Nat.le_of_ble_eq_true rfl, Nat.le_of_ble_eq_true rfl⟩ dX4_seatFree_2 (fun H locs G => ?_)
  obtain ⟨z3, hz3, hf⟩ := x_ob hf
  refine xr_callS (As := [.int z2.1]) (rest := []) (st1 := [.int z3.1]) S G hl.1 (fun _ => rfl) (mt_J6_bitCount_0f7a4 l D cid b ex sa sv B0 sh z2.1 z2.2 _ _ hz3) kw_797 kw_741 kw_24 kw_742 hd_J6_bitCount_0f7a4 ⟨Nat.le_of_ble_eq_true rfl, Nat.le_of_ble_eq_true rfl⟩ rfl rfl rfl (Nat.le_of_ble_eq_true rfl) ⟨Nat.le_of_ble_eq_true rfl, Nat.le_of_ble_eq_true rfl⟩ dX4_seatFree_5 (fun H locs G => ?_)
  refine lv_aload_n hx hb dX4_seatFree_8 rfl (lv_at hl 0 rfl) ?_
  obtain ⟨v4, hv4, hf⟩ := x_ob hf
  refine xr_getR (ci := 4) (k := 12) S G hv4 rfl kw_348 dX4_seatFree_9 ?_
  refine lv_iload_n hx hb dX4_seatFree_12 rfl (lv_at hl 1 rfl) ?_
  obtain ⟨v5, hv5, hf⟩ := x_ob hf
  refine xr_iald S G hv5 dX4_seatFree_13 ?_
  refine lv_icmp_ge (tgt := 21) hx hb dX4_seatFree_14 (by decide) (fun c => ?_) (fun c => ?_)
  · have hf := x_pos c hf
    refine lv_iconst (v := (0 : Int32)) hx hb dX4_seatFree_21 (by decide) ?_
    exact K22 (0 : Int32) z3.2 hf _ _ ls (lv_sub hl [] rfl) G
  · have hf := x_neg c hf
    refine lv_iconst (v := (1 : Int32)) hx hb dX4_seatFree_17 (by decide) ?_
    refine lv_goto (tgt := 22) hx hb dX4_seatFree_18 (by decide) ?_
    exact K22 (1 : Int32) z3.2 hf _ _ ls (lv_sub hl [] rfl) G
-- HalfLandings$Scene.restNotTaken(II)I
theorem dX4_restNotTaken_0 : decode cX4_restNotTaken 0 = .ok (.iconst 0, 1) := by decide +kernel
theorem dX4_restNotTaken_1 : decode cX4_restNotTaken 1 = .ok (.istore_n 3, 1) := by decide +kernel
theorem dX4_restNotTaken_2 : decode cX4_restNotTaken 2 = .ok (.iload_n 3, 1) := by decide +kernel
theorem dX4_restNotTaken_3 : decode cX4_restNotTaken 3 = .ok (.aload_n 0, 1) := by decide +kernel
theorem dX4_restNotTaken_4 : decode cX4_restNotTaken 4 = .ok (.getfield 56, 3) := by decide +kernel
theorem dX4_restNotTaken_7 : decode cX4_restNotTaken 7 = .ok (.if_icmp .ge 40, 3) := by decide +kernel
theorem dX4_restNotTaken_10 : decode cX4_restNotTaken 10 = .ok (.aload_n 0, 1) := by decide +kernel
theorem dX4_restNotTaken_11 : decode cX4_restNotTaken 11 = .ok (.getfield 59, 3) := by decide +kernel
theorem dX4_restNotTaken_14 : decode cX4_restNotTaken 14 = .ok (.iload_n 3, 1) := by decide +kernel
theorem dX4_restNotTaken_15 : decode cX4_restNotTaken 15 = .ok (.iaload, 1) := by decide +kernel
theorem dX4_restNotTaken_16 : decode cX4_restNotTaken 16 = .ok (.iload_n 1, 1) := by decide +kernel
theorem dX4_restNotTaken_17 : decode cX4_restNotTaken 17 = .ok (.if_icmp .ne 24, 3) := by decide +kernel
theorem dX4_restNotTaken_20 : decode cX4_restNotTaken 20 = .ok (.aload_n 0, 1) := by decide +kernel
theorem dX4_restNotTaken_21 : decode cX4_restNotTaken 21 = .ok (.getfield 62, 3) := by decide +kernel
theorem dX4_restNotTaken_24 : decode cX4_restNotTaken 24 = .ok (.iload_n 3, 1) := by decide +kernel
theorem dX4_restNotTaken_25 : decode cX4_restNotTaken 25 = .ok (.iaload, 1) := by decide +kernel
theorem dX4_restNotTaken_26 : decode cX4_restNotTaken 26 = .ok (.iload_n 2, 1) := by decide +kernel
theorem dX4_restNotTaken_27 : decode cX4_restNotTaken 27 = .ok (.if_icmp .ne 14, 3) := by decide +kernel
theorem dX4_restNotTaken_30 : decode cX4_restNotTaken 30 = .ok (.aload_n 0, 1) := by decide +kernel
theorem dX4_restNotTaken_31 : decode cX4_restNotTaken 31 = .ok (.getfield 68, 3) := by decide +kernel
theorem dX4_restNotTaken_34 : decode cX4_restNotTaken 34 = .ok (.iload_n 3, 1) := by decide +kernel
theorem dX4_restNotTaken_35 : decode cX4_restNotTaken 35 = .ok (.iaload, 1) := by decide +kernel
theorem dX4_restNotTaken_36 : decode cX4_restNotTaken 36 = .ok (.ifCond .ne 5, 3) := by decide +kernel
theorem dX4_restNotTaken_39 : decode cX4_restNotTaken 39 = .ok (.iload_n 3, 1) := by decide +kernel
theorem dX4_restNotTaken_40 : decode cX4_restNotTaken 40 = .ok (.ireturn, 1) := by decide +kernel
theorem dX4_restNotTaken_41 : decode cX4_restNotTaken 41 = .ok (.iinc 3 1, 3) := by decide +kernel
theorem dX4_restNotTaken_44 : decode cX4_restNotTaken 44 = .ok (.goto (-42), 3) := by decide +kernel
theorem dX4_restNotTaken_47 : decode cX4_restNotTaken 47 = .ok (.iconst (-1), 1) := by decide +kernel
theorem dX4_restNotTaken_48 : decode cX4_restNotTaken 48 = .ok (.ireturn, 1) := by decide +kernel
theorem hd_X4_restNotTaken : yX4_restNotTaken.cls = xCn 4 ∧ yX4_restNotTaken.cls ≠ "java/lang/invoke/MethodHandle" ∧ yX4_restNotTaken.cls ≠ "java/lang/invoke/VarHandle" ∧ (parseMethodDescriptor yX4_restNotTaken.desc).map (fun d => d.parameters.length) = some 2 := by decide +kernel
def k_X4_restNotTaken_47 (sh : List xSh) (d : xD) : Option (Int32 × xD) :=
  some ((-1 : Int32), d)
def k_X4_restNotTaken_41 (sh : List xSh) (rec2 : Nat → Int32 → Int32 → Int32 → xD → Option (Int32 × xD)) (q0 : Nat) (x1 : Int32) (x2 : Int32) (x3 : Int32) (d : xD) : Option (Int32 × xD) :=
  rec2 q0 x1 x2 (x3 + 1) d
def k_X4_restNotTaken_39 (sh : List xSh) (x3 : Int32) (d : xD) : Option (Int32 × xD) :=
  some (x3, d)
def b_X4_restNotTaken_2 (sh : List xSh) (rec2 : Nat → Int32 → Int32 → Int32 → xD → Option (Int32 × xD)) (q0 : Nat) (x1 : Int32) (x2 : Int32) (x3 : Int32) (d : xD) : Option (Int32 × xD) :=
  (xgI 4 sh d q0 14).bind fun v1 => if v1 ≤ x3 then (k_X4_restNotTaken_47 sh d) else ((xgR 4 sh d q0 15).bind fun v2 => (xaI .int sh d v2 x3).bind fun v3 => if v3 = x1 then ((xgR 4 sh d q0 16).bind fun v4 => (xaI .int sh d v4 x3).bind fun v5 => if v5 = x2 then ((xgR 4 sh d q0 18).bind fun v6 => (xaI .int sh d v6 x3).bind fun v7 => if v7 = 0 then (k_X4_restNotTaken_39 sh x3 d) else (k_X4_restNotTaken_41 sh rec2 q0 x1 x2 x3 d)) else (k_X4_restNotTaken_41 sh rec2 q0 x1 x2 x3 d)) else (k_X4_restNotTaken_41 sh rec2 q0 x1 x2 x3 d))
def f_X4_restNotTaken (sh : List xSh) (q0 : Nat) (x1 : Int32) (x2 : Int32) (d : xD) : Option (Int32 × xD) :=
  xloop (fun _ _ _ _ _ => none) (b_X4_restNotTaken_2 sh) xF q0 x1 x2 (0 : Int32) d
set_option maxHeartbeats 4000000 in
set_option maxRecDepth 100000 in
theorem mt_X4_restNotTaken (l : Launch) (D : va_G) (cid : FieldType → ClassId) (b : Nat) (ex : Bool) (sa sv B0 : Nat) (sh : List xSh) (q0 : Nat) (x1 : Int32) (x2 : Int32) (d : xD) (r : Int32) (dz : xD) (hf : f_X4_restNotTaken sh q0 x1 x2 d = some (r, dz)) : xMet l yX4_restNotTaken cX4_restNotTaken 4 (some .int) 0 0 0 D cid b ex sa sv B0 [.ref (b + q0), .int x1, .int x2] sh d (some (.int r)) sh dz := by
  refine xMet.of (by decide) (Nat.le_of_ble_eq_true rfl) ?_
  intro p e s m below meth c ls A S hr hin G hl
  have hl : lv_has ls 4 [(0, .ref (b + q0)), (1, .int x1), (2, .int x2)] := hl
  generalize ([.ref (b + q0), .int x1, .int x2] : List Value).toArray = av at S ⊢
  have hx := S.1
  have hb := S.2.1
  have hml := S.2.2.1
  have hown := S.2.2.2.1
  have hts := S.2.2.2.2.1
  have K47 : ∀ (d : xD), k_X4_restNotTaken_47 sh d = some (r, dz) → ∀ (H : Heap) (locs : List Loc) (ls : Array Slot), lv_has ls 4 [] → xG D cid b A sh d s H locs → W p l e (xRm 0 0 0) s m av below meth c H locs 0 0 (MQ below (xQ D cid b ex A (some (.int r)) sh dz) av s 0 0 A) (F0 m 47 ls []) := by
    intro d hf H locs ls hl G
    unfold k_X4_restNotTaken_47 at hf
    refine lv_iconst (v := (-1 : Int32)) hx hb dX4_restNotTaken_47 (by decide) ?_
    cases hf
    exact xr_iret S G (fun _ => rfl) hr dX4_restNotTaken_48
  have K41 : ∀ (rec2 : Nat → Int32 → Int32 → Int32 → xD → Option (Int32 × xD)) (hrec2 : ∀ (q0 : Nat) (x1 : Int32) (x2 : Int32) (x3 : Int32) (d : xD), rec2 q0 x1 x2 x3 d = some (r, dz) → ∀ (H : Heap) (locs : List Loc) (ls : Array Slot), lv_has ls 4 [(0, .ref (b + q0)), (1, .int x1), (2, .int x2), (3, .int x3)] → xG D cid b A sh d s H locs → W p l e (xRm 0 0 0) s m av below meth c H locs 0 0 (MQ below (xQ D cid b ex A (some (.int r)) sh dz) av s 0 0 A) (F0 m 2 ls [])) (q0 : Nat) (x1 : Int32) (x2 : Int32) (x3 : Int32) (d : xD), k_X4_restNotTaken_41 sh rec2 q0 x1 x2 x3 d = some (r, dz) → ∀ (H : Heap) (locs : List Loc) (ls : Array Slot), lv_has ls 4 [(0, .ref (b + q0)), (1, .int x1), (2, .int x2), (3, .int x3)] → xG D cid b A sh d s H locs → W p l e (xRm 0 0 0) s m av below meth c H locs 0 0 (MQ below (xQ D cid b ex A (some (.int r)) sh dz) av s 0 0 A) (F0 m 41 ls []) := by
    intro rec2 hrec2 q0 x1 x2 x3 d hf H locs ls hl G
    unfold k_X4_restNotTaken_41 at hf
    refine lv_iinc (v := (x3 + 1)) (lv' := [(3, .int (x3 + 1)), (0, .ref (b + q0)), (1, .int x1), (2, .int x2)]) hx hb dX4_restNotTaken_41 hl (k := 3) rfl rfl (by decide) rfl (fun ls hl => ?_)
    refine lv_goto (tgt := 2) hx hb dX4_restNotTaken_44 (by decide) ?_
    exact hrec2 q0 x1 x2 (x3 + 1) d hf _ _ ls (lv_sub hl [1, 2, 3, 0] rfl) G
  have K39 : ∀ (x3 : Int32) (d : xD), k_X4_restNotTaken_39 sh x3 d = some (r, dz) → ∀ (H : Heap) (locs : List Loc) (ls : Array Slot), lv_has ls 4 [(3, .int x3)] → xG D cid b A sh d s H locs → W p l e (xRm 0 0 0) s m av below meth c H locs 0 0 (MQ below (xQ D cid b ex A (some (.int r)) sh dz) av s 0 0 A) (F0 m 39 ls []) := by
    intro x3 d hf H locs ls hl G
    unfold k_X4_restNotTaken_39 at hf
    refine lv_iload_n hx hb dX4_restNotTaken_39 rfl (lv_at hl 0 rfl) ?_
    cases hf
    exact xr_iret S G (fun _ => rfl) hr dX4_restNotTaken_40
  have K2 : ∀ (n : Nat) (q0 : Nat) (x1 : Int32) (x2 : Int32) (x3 : Int32) (d : xD), xloop (fun _ _ _ _ _ => none) (b_X4_restNotTaken_2 sh) n q0 x1 x2 x3 d = some (r, dz) → ∀ (H : Heap) (locs : List Loc) (ls : Array Slot), lv_has ls 4 [(0, .ref (b + q0)), (1, .int x1), (2, .int x2), (3, .int x3)] → xG D cid b A sh d s H locs → W p l e (xRm 0 0 0) s m av below meth c H locs 0 0 (MQ below (xQ D cid b ex A (some (.int r)) sh dz) av s 0 0 A) (F0 m 2 ls []) := by
    intro n
    induction n with
    | zero =>
      intro q0 x1 x2 x3 d hf
      have hf : (none : Option (Int32 × xD)) = some (r, dz) := hf
      cases hf
    | succ n hrec2 =>
      intro q0 x1 x2 x3 d hf H locs ls hl G
      have hf : b_X4_restNotTaken_2 sh (xloop (fun _ _ _ _ _ => none) (b_X4_restNotTaken_2 sh) n) q0 x1 x2 x3 d = some (r, dz) := hf
      unfold b_X4_restNotTaken_2 at hf
      refine lv_iload_n hx hb dX4_restNotTaken_2 rfl (lv_at hl 3 rfl) ?_
      refine lv_aload_n hx hb dX4_restNotTaken_3 rfl (lv_at hl 0 rfl) ?_
      obtain ⟨v1, hv1, hf⟩ := x_ob hf
      refine xr_getI (ci := 4) (k := 14) S G hv1 rfl kw_353 dX4_restNotTaken_4 ?_
      refine lv_icmp_ge (tgt := 47) hx hb dX4_restNotTaken_7 (by decide) (fun c => ?_) (fun c => ?_)
      · have hf := x_pos c hf
        exact K47 d hf _ _ ls (lv_sub hl [] rfl) G
      · have hf := x_neg c hf
        refine lv_aload_n hx hb dX4_restNotTaken_10 rfl (lv_at hl 0 rfl) ?_
        obtain ⟨v2, hv2, hf⟩ := x_ob hf
        refine xr_getR (ci := 4) (k := 15) S G hv2 rfl kw_355 dX4_restNotTaken_11 ?_
        refine lv_iload_n hx hb dX4_restNotTaken_14 rfl (lv_at hl 3 rfl) ?_
        obtain ⟨v3, hv3, hf⟩ := x_ob hf
        refine xr_iald S G hv3 dX4_restNotTaken_15 ?_
        refine lv_iload_n hx hb dX4_restNotTaken_16 rfl (lv_at hl 1 rfl) ?_
        refine lv_icmp_ne (tgt := 41) hx hb dX4_restNotTaken_17 (by decide) (fun c => ?_) (fun c => ?_)
        · have hf := x_neg c hf
          exact K41 _ hrec2 q0 x1 x2 x3 d hf _ _ ls (lv_sub hl [0, 1, 2, 3] rfl) G
        · have hf := x_pos c hf
          refine lv_aload_n hx hb dX4_restNotTaken_20 rfl (lv_at hl 0 rfl) ?_
          obtain ⟨v4, hv4, hf⟩ := x_ob hf
          refine xr_getR (ci := 4) (k := 16) S G hv4 rfl kw_357 dX4_restNotTaken_21 ?_
          refine lv_iload_n hx hb dX4_restNotTaken_24 rfl (lv_at hl 3 rfl) ?_
          obtain ⟨v5, hv5, hf⟩ := x_ob hf
          refine xr_iald S G hv5 dX4_restNotTaken_25 ?_
          refine lv_iload_n hx hb dX4_restNotTaken_26 rfl (lv_at hl 2 rfl) ?_
          refine lv_icmp_ne (tgt := 41) hx hb dX4_restNotTaken_27 (by decide) (fun c => ?_) (fun c => ?_)
          · have hf := x_neg c hf
            exact K41 _ hrec2 q0 x1 x2 x3 d hf _ _ ls (lv_sub hl [0, 1, 2, 3] rfl) G
          · have hf := x_pos c hf
            refine lv_aload_n hx hb dX4_restNotTaken_30 rfl (lv_at hl 0 rfl) ?_
            obtain ⟨v6, hv6, hf⟩ := x_ob hf
            refine xr_getR (ci := 4) (k := 18) S G hv6 rfl kw_362 dX4_restNotTaken_31 ?_
            refine lv_iload_n hx hb dX4_restNotTaken_34 rfl (lv_at hl 3 rfl) ?_
            obtain ⟨v7, hv7, hf⟩ := x_ob hf
            refine xr_iald S G hv7 dX4_restNotTaken_35 ?_
            refine lv_if_ne (tgt := 41) hx hb dX4_restNotTaken_36 (by decide) (fun c => ?_) (fun c => ?_)
            · have hf := x_neg c hf
              exact K41 _ hrec2 q0 x1 x2 x3 d hf _ _ ls (lv_sub hl [0, 1, 2, 3] rfl) G
            · have hf := x_pos c hf
              exact K39 x3 d hf _ _ ls (lv_sub hl [3] rfl) G
  unfold f_X4_restNotTaken at hf
  refine lv_iconst (v := (0 : Int32)) hx hb dX4_restNotTaken_0 (by decide) ?_
  refine lv_istore_n (lv' := [(3, .int (0 : Int32)), (0, .ref (b + q0)), (1, .int x1), (2, .int x2)]) hx hb dX4_restNotTaken_1 rfl hl (by decide) rfl (fun ls hl => ?_)
  exact K2 xF q0 x1 x2 (0 : Int32) d hf _ _ ls (lv_sub hl [1, 2, 3, 0] rfl) G
-- HalfLandings$Scene.seat(II)V
theorem dX4_seat_0 : decode cX4_seat 0 = .ok (.aload_n 0, 1) := by decide +kernel
theorem dX4_seat_1 : decode cX4_seat 1 = .ok (.getfield 28, 3) := by decide +kernel
theorem dX4_seat_4 : decode cX4_seat 4 = .ok (.iload_n 1, 1) := by decide +kernel
theorem dX4_seat_5 : decode cX4_seat 5 = .ok (.iconst 2, 1) := by decide +kernel
theorem dX4_seat_6 : decode cX4_seat 6 = .ok (.iastore, 1) := by decide +kernel
theorem dX4_seat_7 : decode cX4_seat 7 = .ok (.aload_n 0, 1) := by decide +kernel
theorem dX4_seat_8 : decode cX4_seat 8 = .ok (.getfield 41, 3) := by decide +kernel
theorem dX4_seat_11 : decode cX4_seat 11 = .ok (.iload_n 1, 1) := by decide +kernel
theorem dX4_seat_12 : decode cX4_seat 12 = .ok (.iload_n 2, 1) := by decide +kernel
theorem dX4_seat_13 : decode cX4_seat 13 = .ok (.iastore, 1) := by decide +kernel
theorem dX4_seat_14 : decode cX4_seat 14 = .ok (.return_, 1) := by decide +kernel
theorem hd_X4_seat : yX4_seat.cls = xCn 4 ∧ yX4_seat.cls ≠ "java/lang/invoke/MethodHandle" ∧ yX4_seat.cls ≠ "java/lang/invoke/VarHandle" ∧ (parseMethodDescriptor yX4_seat.desc).map (fun d => d.parameters.length) = some 2 := by decide +kernel
def f_X4_seat (sh : List xSh) (q0 : Nat) (x1 : Int32) (x2 : Int32) (d : xD) : Option xD :=
  (xgR 4 sh d q0 5).bind fun v1 => (xsI .int sh d v1 x1 (2 : Int32)).bind fun d2 => (xgR 4 sh d2 q0 9).bind fun v3 => (xsI .int sh d2 v3 x1 x2).bind fun d4 => some d4
set_option maxHeartbeats 4000000 in
set_option maxRecDepth 100000 in
theorem mt_X4_seat (l : Launch) (D : va_G) (cid : FieldType → ClassId) (b : Nat) (ex : Bool) (sa sv B0 : Nat) (sh : List xSh) (q0 : Nat) (x1 : Int32) (x2 : Int32) (d : xD) (dz : xD) (hf : f_X4_seat sh q0 x1 x2 d = some dz) : xMet l yX4_seat cX4_seat 3 none 0 0 0 D cid b ex sa sv B0 [.ref (b + q0), .int x1, .int x2] sh d none sh dz := by
  refine xMet.of (by decide) (Nat.le_of_ble_eq_true rfl) ?_
  intro p e s m below meth c ls A S hr hin G hl
  have hl : lv_has ls 3 [(0, .ref (b + q0)), (1, .int x1), (2, .int x2)] := hl
  generalize ([.ref (b + q0), .int x1, .int x2] : List Value).toArray = av at S ⊢
  have hx := S.1
  have hb := S.2.1
  have hml := S.2.2.1
  have hown := S.2.2.2.1
  have hts := S.2.2.2.2.1
  unfold f_X4_seat at hf
  refine lv_aload_n hx hb dX4_seat_0 rfl (lv_at hl 0 rfl) ?_
  obtain ⟨v1, hv1, hf⟩ := x_ob hf
  refine xr_getR (ci := 4) (k := 5) S G hv1 rfl kw_327 dX4_seat_1 ?_
  refine lv_iload_n hx hb dX4_seat_4 rfl (lv_at hl 1 rfl) ?_
  refine lv_iconst (v := (2 : Int32)) hx hb dX4_seat_5 (by decide) ?_
  obtain ⟨d2, hd2, hf⟩ := x_ob hf
  refine xr_iast S G hd2 dX4_seat_6 (fun H locs G => ?_)
  refine lv_aload_n hx hb dX4_seat_7 rfl (lv_at hl 0 rfl) ?_
  obtain ⟨v3, hv3, hf⟩ := x_ob hf
  refine xr_getR (ci := 4) (k := 9) S G hv3 rfl kw_339 dX4_seat_8 ?_
  refine lv_iload_n hx hb dX4_seat_11 rfl (lv_at hl 1 rfl) ?_
  refine lv_iload_n hx hb dX4_seat_12 rfl (lv_at hl 2 rfl) ?_
  obtain ⟨d4, hd4, hf⟩ := x_ob hf
  refine xr_iast S G hd4 dX4_seat_13 (fun H locs G => ?_)
  cases hf
  exact xr_vret S G (fun _ => rfl) hr dX4_seat_14
-- HalfLandings$Minutes.worth(LHalfLandings$Scene;III)J
theorem dX2_worth_0 : decode cX2_worth 0 = .ok (.aload_n 0, 1) := by decide +kernel
theorem dX2_worth_1 : decode cX2_worth 1 = .ok (.getfield 17, 3) := by decide +kernel
theorem dX2_worth_4 : decode cX2_worth 4 = .ok (.getfield 170, 3) := by decide +kernel
theorem dX2_worth_7 : decode cX2_worth 7 = .ok (.iload_n 2, 1) := by decide +kernel
theorem dX2_worth_8 : decode cX2_worth 8 = .ok (.invokevirtual 174, 3) := by decide +kernel
theorem dX2_worth_11 : decode cX2_worth 11 = .ok (.ifCond .ne 7, 3) := by decide +kernel
theorem dX2_worth_14 : decode cX2_worth 14 = .ok (.ldc2_w 110, 3) := by decide +kernel
theorem dX2_worth_17 : decode cX2_worth 17 = .ok (.lreturn, 1) := by decide +kernel
theorem dX2_worth_18 : decode cX2_worth 18 = .ok (.aload_n 0, 1) := by decide +kernel
theorem dX2_worth_19 : decode cX2_worth 19 = .ok (.getfield 11, 3) := by decide +kernel
theorem dX2_worth_22 : decode cX2_worth 22 = .ok (.iconst 0, 1) := by decide +kernel
theorem dX2_worth_23 : decode cX2_worth 23 = .ok (.aload_n 1, 1) := by decide +kernel
theorem dX2_worth_24 : decode cX2_worth 24 = .ok (.getfield 63, 3) := by decide +kernel
theorem dX2_worth_27 : decode cX2_worth 27 = .ok (.iload_n 3, 1) := by decide +kernel
theorem dX2_worth_28 : decode cX2_worth 28 = .ok (.iaload, 1) := by decide +kernel
theorem dX2_worth_29 : decode cX2_worth 29 = .ok (.i2l, 1) := by decide +kernel
theorem dX2_worth_30 : decode cX2_worth 30 = .ok (.lastore, 1) := by decide +kernel
theorem dX2_worth_31 : decode cX2_worth 31 = .ok (.aload_n 0, 1) := by decide +kernel
theorem dX2_worth_32 : decode cX2_worth 32 = .ok (.getfield 11, 3) := by decide +kernel
theorem dX2_worth_35 : decode cX2_worth 35 = .ok (.iconst 1, 1) := by decide +kernel
theorem dX2_worth_36 : decode cX2_worth 36 = .ok (.iconst 1, 1) := by decide +kernel
theorem dX2_worth_37 : decode cX2_worth 37 = .ok (.aload_n 1, 1) := by decide +kernel
theorem dX2_worth_38 : decode cX2_worth 38 = .ok (.getfield 69, 3) := by decide +kernel
theorem dX2_worth_41 : decode cX2_worth 41 = .ok (.iload_n 3, 1) := by decide +kernel
theorem dX2_worth_42 : decode cX2_worth 42 = .ok (.iaload, 1) := by decide +kernel
theorem dX2_worth_43 : decode cX2_worth 43 = .ok (.isub, 1) := by decide +kernel
theorem dX2_worth_44 : decode cX2_worth 44 = .ok (.i2l, 1) := by decide +kernel
theorem dX2_worth_45 : decode cX2_worth 45 = .ok (.lastore, 1) := by decide +kernel
theorem dX2_worth_46 : decode cX2_worth 46 = .ok (.aload_n 0, 1) := by decide +kernel
theorem dX2_worth_47 : decode cX2_worth 47 = .ok (.getfield 11, 3) := by decide +kernel
theorem dX2_worth_50 : decode cX2_worth 50 = .ok (.iconst 2, 1) := by decide +kernel
theorem dX2_worth_51 : decode cX2_worth 51 = .ok (.aload_n 0, 1) := by decide +kernel
theorem dX2_worth_52 : decode cX2_worth 52 = .ok (.getfield 17, 3) := by decide +kernel
theorem dX2_worth_55 : decode cX2_worth 55 = .ok (.getfield 85, 3) := by decide +kernel
theorem dX2_worth_58 : decode cX2_worth 58 = .ok (.iload 4, 2) := by decide +kernel
theorem dX2_worth_60 : decode cX2_worth 60 = .ok (.iaload, 1) := by decide +kernel
theorem dX2_worth_61 : decode cX2_worth 61 = .ok (.i2l, 1) := by decide +kernel
theorem dX2_worth_62 : decode cX2_worth 62 = .ok (.lastore, 1) := by decide +kernel
theorem dX2_worth_63 : decode cX2_worth 63 = .ok (.aload_n 0, 1) := by decide +kernel
theorem dX2_worth_64 : decode cX2_worth 64 = .ok (.getfield 11, 3) := by decide +kernel
theorem dX2_worth_67 : decode cX2_worth 67 = .ok (.iconst 3, 1) := by decide +kernel
theorem dX2_worth_68 : decode cX2_worth 68 = .ok (.aload_n 1, 1) := by decide +kernel
theorem dX2_worth_69 : decode cX2_worth 69 = .ok (.getfield 128, 3) := by decide +kernel
theorem dX2_worth_72 : decode cX2_worth 72 = .ok (.iload 4, 2) := by decide +kernel
theorem dX2_worth_74 : decode cX2_worth 74 = .ok (.iaload, 1) := by decide +kernel
theorem dX2_worth_75 : decode cX2_worth 75 = .ok (.i2l, 1) := by decide +kernel
theorem dX2_worth_76 : decode cX2_worth 76 = .ok (.lastore, 1) := by decide +kernel
theorem dX2_worth_77 : decode cX2_worth 77 = .ok (.aload_n 0, 1) := by decide +kernel
theorem dX2_worth_78 : decode cX2_worth 78 = .ok (.getfield 11, 3) := by decide +kernel
theorem dX2_worth_81 : decode cX2_worth 81 = .ok (.iconst 4, 1) := by decide +kernel
theorem dX2_worth_82 : decode cX2_worth 82 = .ok (.aload_n 1, 1) := by decide +kernel
theorem dX2_worth_83 : decode cX2_worth 83 = .ok (.aload_n 0, 1) := by decide +kernel
theorem dX2_worth_84 : decode cX2_worth 84 = .ok (.getfield 17, 3) := by decide +kernel
theorem dX2_worth_87 : decode cX2_worth 87 = .ok (.getfield 85, 3) := by decide +kernel
theorem dX2_worth_90 : decode cX2_worth 90 = .ok (.iload 4, 2) := by decide +kernel
theorem dX2_worth_92 : decode cX2_worth 92 = .ok (.iaload, 1) := by decide +kernel
theorem dX2_worth_93 : decode cX2_worth 93 = .ok (.invokevirtual 178, 3) := by decide +kernel
theorem dX2_worth_96 : decode cX2_worth 96 = .ok (.invokestatic 181, 3) := by decide +kernel
theorem dX2_worth_99 : decode cX2_worth 99 = .ok (.i2l, 1) := by decide +kernel
theorem dX2_worth_100 : decode cX2_worth 100 = .ok (.lastore, 1) := by decide +kernel
theorem dX2_worth_101 : decode cX2_worth 101 = .ok (.aload_n 0, 1) := by decide +kernel
theorem dX2_worth_102 : decode cX2_worth 102 = .ok (.getfield 11, 3) := by decide +kernel
theorem dX2_worth_105 : decode cX2_worth 105 = .ok (.iconst 5, 1) := by decide +kernel
theorem dX2_worth_106 : decode cX2_worth 106 = .ok (.aload_n 1, 1) := by decide +kernel
theorem dX2_worth_107 : decode cX2_worth 107 = .ok (.getfield 131, 3) := by decide +kernel
theorem dX2_worth_110 : decode cX2_worth 110 = .ok (.iload_n 3, 1) := by decide +kernel
theorem dX2_worth_111 : decode cX2_worth 111 = .ok (.iaload, 1) := by decide +kernel
theorem dX2_worth_112 : decode cX2_worth 112 = .ok (.i2l, 1) := by decide +kernel
theorem dX2_worth_113 : decode cX2_worth 113 = .ok (.lastore, 1) := by decide +kernel
theorem dX2_worth_114 : decode cX2_worth 114 = .ok (.aload_n 0, 1) := by decide +kernel
theorem dX2_worth_115 : decode cX2_worth 115 = .ok (.getfield 11, 3) := by decide +kernel
theorem dX2_worth_118 : decode cX2_worth 118 = .ok (.bipush 6, 2) := by decide +kernel
theorem dX2_worth_120 : decode cX2_worth 120 = .ok (.aload_n 1, 1) := by decide +kernel
theorem dX2_worth_121 : decode cX2_worth 121 = .ok (.getfield 43, 3) := by decide +kernel
theorem dX2_worth_124 : decode cX2_worth 124 = .ok (.i2l, 1) := by decide +kernel
theorem dX2_worth_125 : decode cX2_worth 125 = .ok (.lastore, 1) := by decide +kernel
theorem dX2_worth_126 : decode cX2_worth 126 = .ok (.aload_n 0, 1) := by decide +kernel
theorem dX2_worth_127 : decode cX2_worth 127 = .ok (.getfield 17, 3) := by decide +kernel
theorem dX2_worth_130 : decode cX2_worth 130 = .ok (.getfield 170, 3) := by decide +kernel
theorem dX2_worth_133 : decode cX2_worth 133 = .ok (.iload_n 2, 1) := by decide +kernel
theorem dX2_worth_134 : decode cX2_worth 134 = .ok (.aload_n 0, 1) := by decide +kernel
theorem dX2_worth_135 : decode cX2_worth 135 = .ok (.getfield 11, 3) := by decide +kernel
theorem dX2_worth_138 : decode cX2_worth 138 = .ok (.invokevirtual 186, 3) := by decide +kernel
theorem dX2_worth_141 : decode cX2_worth 141 = .ok (.lreturn, 1) := by decide +kernel
theorem hd_X2_worth : yX2_worth.cls = xCn 2 ∧ yX2_worth.cls ≠ "java/lang/invoke/MethodHandle" ∧ yX2_worth.cls ≠ "java/lang/invoke/VarHandle" ∧ (parseMethodDescriptor yX2_worth.desc).map (fun d => d.parameters.length) = some 4 := by decide +kernel
def f_X2_worth (sh : List xSh) (q0 : Nat) (q1 : Nat) (x2 : Int32) (x3 : Int32) (x4 : Int32) (d : xD) : Option (Int64 × xD) :=
  (xgR 2 sh d q0 0).bind fun v1 => (xgR 3 sh d v1 19).bind fun v2 => (xon 1 sh v2 (f_X1_isTold sh v2 x2 d)).bind fun z3 => if z3.1 = 0 then (some ((-9223372036854775808 : Int64), z3.2)) else ((xgR 2 sh z3.2 q0 1).bind fun v4 => (xgR 4 sh z3.2 q1 8).bind fun v5 => (xaI .int sh z3.2 v5 x3).bind fun v6 => (xsL sh z3.2 v4 (0 : Int32) ((v6).toInt64)).bind fun d7 => (xgR 2 sh d7 q0 1).bind fun v8 => (xgR 4 sh d7 q1 7).bind fun v9 => (xaI .int sh d7 v9 x3).bind fun v10 => (xsL sh d7 v8 (1 : Int32) ((((1 : Int32) - v10)).toInt64)).bind fun d11 => (xgR 2 sh d11 q0 1).bind fun v12 => (xgR 2 sh d11 q0 0).bind fun v13 => (xgR 3 sh d11 v13 6).bind fun v14 => (xaI .int sh d11 v14 x4).bind fun v15 => (xsL sh d11 v12 (2 : Int32) ((v15).toInt64)).bind fun d16 => (xgR 2 sh d16 q0 1).bind fun v17 => (xgR 4 sh d16 q1 13).bind fun v18 => (xaI .int sh d16 v18 x4).bind fun v19 => (xsL sh d16 v17 (3 : Int32) ((v19).toInt64)).bind fun d20 => (xgR 2 sh d20 q0 1).bind fun v21 => (xgR 2 sh d20 q0 0).bind fun v22 => (xgR 3 sh d20 v22 6).bind fun v23 => (xaI .int sh d20 v23 x4).bind fun v24 => (xon 4 sh q1 (f_X4_sittersOn sh q1 v24 d20)).bind fun z25 => (f_J6_bitCount_0f7a4 sh z25.1 z25.2).bind fun z26 => (xsL sh z26.2 v21 (4 : Int32) ((z26.1).toInt64)).bind fun d27 => (xgR 2 sh d27 q0 1).bind fun v28 => (xgR 4 sh d27 q1 10).bind fun v29 => (xaI .int sh d27 v29 x3).bind fun v30 => (xsL sh d27 v28 (5 : Int32) ((v30).toInt64)).bind fun d31 => (xgR 2 sh d31 q0 1).bind fun v32 => (xgI 4 sh d31 q1 0).bind fun v33 => (xsL sh d31 v32 (6 : Int32) ((v33).toInt64)).bind fun d34 => (xgR 2 sh d34 q0 0).bind fun v35 => (xgR 3 sh d34 v35 19).bind fun v36 => (xgR 2 sh d34 q0 1).bind fun v37 => (xon 1 sh v36 (f_X1_workOut sh v36 x2 v37 d34)).bind fun z38 => some (z38.1, z38.2))
set_option maxHeartbeats 4000000 in
set_option maxRecDepth 100000 in
theorem mt_X2_worth (l : Launch) (D : va_G) (cid : FieldType → ClassId) (b : Nat) (ex : Bool) (sa sv B0 : Nat) (sh : List xSh) (q0 : Nat) (q1 : Nat) (x2 : Int32) (x3 : Int32) (x4 : Int32) (d : xD) (r : Int64) (dz : xD) (hf : f_X2_worth sh q0 q1 x2 x3 x4 d = some (r, dz)) : xMet l yX2_worth cX2_worth 5 (some .long) 2 0 0 D cid b ex sa sv B0 [.ref (b + q0), .ref (b + q1), .int x2, .int x3, .int x4] sh d (some (.long r)) sh dz := by
  refine xMet.of (by decide) (Nat.le_of_ble_eq_true rfl) ?_
  intro p e s m below meth c ls A S hr hin G hl
  have hl : lv_has ls 5 [(0, .ref (b + q0)), (1, .ref (b + q1)), (2, .int x2), (3, .int x3), (4, .int x4)] := hl
  generalize ([.ref (b + q0), .ref (b + q1), .int x2, .int x3, .int x4] : List Value).toArray = av at S ⊢
  have hx := S.1
  have hb := S.2.1
  have hml := S.2.2.1
  have hown := S.2.2.2.1
  have hts := S.2.2.2.2.1
  unfold f_X2_worth at hf
  refine lv_aload_n hx hb dX2_worth_0 rfl (lv_at hl 0 rfl) ?_
  obtain ⟨v1, hv1, hf⟩ := x_ob hf
  refine xr_getR (ci := 2) (k := 0) S G hv1 rfl kw_410 dX2_worth_1 ?_
  obtain ⟨v2, hv2, hf⟩ := x_ob hf
  refine xr_getR (ci := 3) (k := 19) S G hv2 rfl kw_128 dX2_worth_4 ?_
  refine lv_iload_n hx hb dX2_worth_7 rfl (lv_at hl 2 rfl) ?_
  obtain ⟨z3, hz3, hf⟩ := x_ob hf
  obtain ⟨hqz3, hz3⟩ := xon_of hz3
  refine xr_callV (ci := 1) (As := [.int x2]) (rest := []) (st1 := [.int z3.1]) S G hl.1 (fun _ => rfl) (mt_X1_isTold l D cid b ex sa sv B0 sh v2 x2 d _ _ hz3) hqz3 (by decide) kw_767 kw_768 kw_769 kw_3 kw_770 hd_X1_isTold ⟨Nat.le_of_ble_eq_true rfl, Nat.le_of_ble_eq_true rfl⟩ rfl rfl rfl (Nat.le_of_ble_eq_true rfl) ⟨Nat.le_of_ble_eq_true rfl, Nat.le_of_ble_eq_true rfl⟩ dX2_worth_8 (fun H locs G => ?_)
  refine lv_if_ne (tgt := 18) hx hb dX2_worth_11 (by decide) (fun c => ?_) (fun c => ?_)
  · have hf := x_neg c hf
    refine lv_aload_n hx hb dX2_worth_18 rfl (lv_at hl 0 rfl) ?_
    obtain ⟨v4, hv4, hf⟩ := x_ob hf
    refine xr_getR (ci := 2) (k := 1) S G hv4 rfl kw_412 dX2_worth_19 ?_
    refine lv_iconst (v := (0 : Int32)) hx hb dX2_worth_22 (by decide) ?_
    refine lv_aload_n hx hb dX2_worth_23 rfl (lv_at hl 1 rfl) ?_
    obtain ⟨v5, hv5, hf⟩ := x_ob hf
    refine xr_getR (ci := 4) (k := 8) S G hv5 rfl kw_337 dX2_worth_24 ?_
    refine lv_iload_n hx hb dX2_worth_27 rfl (lv_at hl 3 rfl) ?_
    obtain ⟨v6, hv6, hf⟩ := x_ob hf
    refine xr_iald S G hv6 dX2_worth_28 ?_
    refine lv_i2l (v := (v6).toInt64) hx hb dX2_worth_29 rfl ?_
    obtain ⟨d7, hd7, hf⟩ := x_ob hf
    refine xr_last S G hd7 dX2_worth_30 (fun H locs G => ?_)
    refine lv_aload_n hx hb dX2_worth_31 rfl (lv_at hl 0 rfl) ?_
    obtain ⟨v8, hv8, hf⟩ := x_ob hf
    refine xr_getR (ci := 2) (k := 1) S G hv8 rfl kw_412 dX2_worth_32 ?_
    refine lv_iconst (v := (1 : Int32)) hx hb dX2_worth_35 (by decide) ?_
    refine lv_iconst (v := (1 : Int32)) hx hb dX2_worth_36 (by decide) ?_
    refine lv_aload_n hx hb dX2_worth_37 rfl (lv_at hl 1 rfl) ?_
    obtain ⟨v9, hv9, hf⟩ := x_ob hf
    refine xr_getR (ci := 4) (k := 7) S G hv9 rfl kw_334 dX2_worth_38 ?_
    refine lv_iload_n hx hb dX2_worth_41 rfl (lv_at hl 3 rfl) ?_
    obtain ⟨v10, hv10, hf⟩ := x_ob hf
    refine xr_iald S G hv10 dX2_worth_42 ?_
    refine lv_isub hx hb dX2_worth_43 ?_
    refine lv_i2l (v := (((1 : Int32) - v10)).toInt64) hx hb dX2_worth_44 rfl ?_
    obtain ⟨d11, hd11, hf⟩ := x_ob hf
    refine xr_last S G hd11 dX2_worth_45 (fun H locs G => ?_)
    refine lv_aload_n hx hb dX2_worth_46 rfl (lv_at hl 0 rfl) ?_
    obtain ⟨v12, hv12, hf⟩ := x_ob hf
    refine xr_getR (ci := 2) (k := 1) S G hv12 rfl kw_412 dX2_worth_47 ?_
    refine lv_iconst (v := (2 : Int32)) hx hb dX2_worth_50 (by decide) ?_
    refine lv_aload_n hx hb dX2_worth_51 rfl (lv_at hl 0 rfl) ?_
    obtain ⟨v13, hv13, hf⟩ := x_ob hf
    refine xr_getR (ci := 2) (k := 0) S G hv13 rfl kw_410 dX2_worth_52 ?_
    obtain ⟨v14, hv14, hf⟩ := x_ob hf
    refine xr_getR (ci := 3) (k := 6) S G hv14 rfl kw_97 dX2_worth_55 ?_
    refine lv_iload hx hb dX2_worth_58 (lv_at hl 4 rfl) ?_
    obtain ⟨v15, hv15, hf⟩ := x_ob hf
    refine xr_iald S G hv15 dX2_worth_60 ?_
    refine lv_i2l (v := (v15).toInt64) hx hb dX2_worth_61 rfl ?_
    obtain ⟨d16, hd16, hf⟩ := x_ob hf
    refine xr_last S G hd16 dX2_worth_62 (fun H locs G => ?_)
    refine lv_aload_n hx hb dX2_worth_63 rfl (lv_at hl 0 rfl) ?_
    obtain ⟨v17, hv17, hf⟩ := x_ob hf
    refine xr_getR (ci := 2) (k := 1) S G hv17 rfl kw_412 dX2_worth_64 ?_
    refine lv_iconst (v := (3 : Int32)) hx hb dX2_worth_67 (by decide) ?_
    refine lv_aload_n hx hb dX2_worth_68 rfl (lv_at hl 1 rfl) ?_
    obtain ⟨v18, hv18, hf⟩ := x_ob hf
    refine xr_getR (ci := 4) (k := 13) S G hv18 rfl kw_351 dX2_worth_69 ?_
    refine lv_iload hx hb dX2_worth_72 (lv_at hl 4 rfl) ?_
    obtain ⟨v19, hv19, hf⟩ := x_ob hf
    refine xr_iald S G hv19 dX2_worth_74 ?_
    refine lv_i2l (v := (v19).toInt64) hx hb dX2_worth_75 rfl ?_
    obtain ⟨d20, hd20, hf⟩ := x_ob hf
    refine xr_last S G hd20 dX2_worth_76 (fun H locs G => ?_)
    refine lv_aload_n hx hb dX2_worth_77 rfl (lv_at hl 0 rfl) ?_
    obtain ⟨v21, hv21, hf⟩ := x_ob hf
    refine xr_getR (ci := 2) (k := 1) S G hv21 rfl kw_412 dX2_worth_78 ?_
    refine lv_iconst (v := (4 : Int32)) hx hb dX2_worth_81 (by decide) ?_
    refine lv_aload_n hx hb dX2_worth_82 rfl (lv_at hl 1 rfl) ?_
    refine lv_aload_n hx hb dX2_worth_83 rfl (lv_at hl 0 rfl) ?_
    obtain ⟨v22, hv22, hf⟩ := x_ob hf
    refine xr_getR (ci := 2) (k := 0) S G hv22 rfl kw_410 dX2_worth_84 ?_
    obtain ⟨v23, hv23, hf⟩ := x_ob hf
    refine xr_getR (ci := 3) (k := 6) S G hv23 rfl kw_97 dX2_worth_87 ?_
    refine lv_iload hx hb dX2_worth_90 (lv_at hl 4 rfl) ?_
    obtain ⟨v24, hv24, hf⟩ := x_ob hf
    refine xr_iald S G hv24 dX2_worth_92 ?_
    obtain ⟨z25, hz25, hf⟩ := x_ob hf
    obtain ⟨hqz25, hz25⟩ := xon_of hz25
    refine xr_callV (ci := 4) (As := [.int v24]) (rest := [.int (4 : Int32), .ref (b + v21)]) (st1 := [.int z25.1, .int (4 : Int32), .ref (b + v21)]) S G hl.1 (fun _ => rfl) (mt_X4_sittersOn l D cid b ex sa sv B0 sh q1 v24 d20 _ _ hz25) hqz25 (by decide) kw_772 kw_737 kw_738 kw_12 kw_739 hd_X4_sittersOn ⟨Nat.le_of_ble_eq_true rfl, Nat.le_of_ble_eq_true rfl⟩ rfl rfl rfl (Nat.le_of_ble_eq_true rfl) ⟨Nat.le_of_ble_eq_true rfl, Nat.le_of_ble_eq_true rfl⟩ dX2_worth_93 (fun H locs G => ?_)
    obtain ⟨z26, hz26, hf⟩ := x_ob hf
    refine xr_callS (As := [.int z25.1]) (rest := [.int (4 : Int32), .ref (b + v21)]) (st1 := [.int z26.1, .int (4 : Int32), .ref (b + v21)]) S G hl.1 (fun _ => rfl) (mt_J6_bitCount_0f7a4 l D cid b ex sa sv B0 sh z25.1 z25.2 _ _ hz26) kw_773 kw_741 kw_24 kw_742 hd_J6_bitCount_0f7a4 ⟨Nat.le_of_ble_eq_true rfl, Nat.le_of_ble_eq_true rfl⟩ rfl rfl rfl (Nat.le_of_ble_eq_true rfl) ⟨Nat.le_of_ble_eq_true rfl, Nat.le_of_ble_eq_true rfl⟩ dX2_worth_96 (fun H locs G => ?_)
    refine lv_i2l (v := (z26.1).toInt64) hx hb dX2_worth_99 rfl ?_
    obtain ⟨d27, hd27, hf⟩ := x_ob hf
    refine xr_last S G hd27 dX2_worth_100 (fun H locs G => ?_)
    refine lv_aload_n hx hb dX2_worth_101 rfl (lv_at hl 0 rfl) ?_
    obtain ⟨v28, hv28, hf⟩ := x_ob hf
    refine xr_getR (ci := 2) (k := 1) S G hv28 rfl kw_412 dX2_worth_102 ?_
    refine lv_iconst (v := (5 : Int32)) hx hb dX2_worth_105 (by decide) ?_
    refine lv_aload_n hx hb dX2_worth_106 rfl (lv_at hl 1 rfl) ?_
    obtain ⟨v29, hv29, hf⟩ := x_ob hf
    refine xr_getR (ci := 4) (k := 10) S G hv29 rfl kw_344 dX2_worth_107 ?_
    refine lv_iload_n hx hb dX2_worth_110 rfl (lv_at hl 3 rfl) ?_
    obtain ⟨v30, hv30, hf⟩ := x_ob hf
    refine xr_iald S G hv30 dX2_worth_111 ?_
    refine lv_i2l (v := (v30).toInt64) hx hb dX2_worth_112 rfl ?_
    obtain ⟨d31, hd31, hf⟩ := x_ob hf
    refine xr_last S G hd31 dX2_worth_113 (fun H locs G => ?_)
    refine lv_aload_n hx hb dX2_worth_114 rfl (lv_at hl 0 rfl) ?_
    obtain ⟨v32, hv32, hf⟩ := x_ob hf
    refine xr_getR (ci := 2) (k := 1) S G hv32 rfl kw_412 dX2_worth_115 ?_
    refine lv_bipush (v := (6 : Int32)) hx hb dX2_worth_118 (by decide) ?_
    refine lv_aload_n hx hb dX2_worth_120 rfl (lv_at hl 1 rfl) ?_
    obtain ⟨v33, hv33, hf⟩ := x_ob hf
    refine xr_getI (ci := 4) (k := 0) S G hv33 rfl kw_314 dX2_worth_121 ?_
    refine lv_i2l (v := (v33).toInt64) hx hb dX2_worth_124 rfl ?_
    obtain ⟨d34, hd34, hf⟩ := x_ob hf
    refine xr_last S G hd34 dX2_worth_125 (fun H locs G => ?_)
    refine lv_aload_n hx hb dX2_worth_126 rfl (lv_at hl 0 rfl) ?_
    obtain ⟨v35, hv35, hf⟩ := x_ob hf
    refine xr_getR (ci := 2) (k := 0) S G hv35 rfl kw_410 dX2_worth_127 ?_
    obtain ⟨v36, hv36, hf⟩ := x_ob hf
    refine xr_getR (ci := 3) (k := 19) S G hv36 rfl kw_128 dX2_worth_130 ?_
    refine lv_iload_n hx hb dX2_worth_133 rfl (lv_at hl 2 rfl) ?_
    refine lv_aload_n hx hb dX2_worth_134 rfl (lv_at hl 0 rfl) ?_
    obtain ⟨v37, hv37, hf⟩ := x_ob hf
    refine xr_getR (ci := 2) (k := 1) S G hv37 rfl kw_412 dX2_worth_135 ?_
    obtain ⟨z38, hz38, hf⟩ := x_ob hf
    obtain ⟨hqz38, hz38⟩ := xon_of hz38
    refine xr_callV (ci := 1) (As := [.int x2, .ref (b + v37)]) (rest := []) (st1 := [.long z38.1]) S G hl.1 (fun _ => rfl) (mt_X1_workOut l D cid b ex sa sv B0 sh v36 x2 v37 d34 _ _ hz38) hqz38 (by decide) kw_774 kw_775 kw_776 kw_3 kw_777 hd_X1_workOut ⟨Nat.le_of_ble_eq_true rfl, Nat.le_of_ble_eq_true rfl⟩ rfl rfl rfl (Nat.le_of_ble_eq_true rfl) ⟨Nat.le_of_ble_eq_true rfl, Nat.le_of_ble_eq_true rfl⟩ dX2_worth_138 (fun H locs G => ?_)
    cases hf
    exact xr_lret S G (fun _ => rfl) hr dX2_worth_141
  · have hf := x_pos c hf
    refine lv_ldc2 (v := (-9223372036854775808 : Int64)) hx hb hown (hts _ kw_771) dX2_worth_14 ?_
    cases hf
    exact xr_lret S G (fun _ => rfl) hr dX2_worth_17
-- HalfLandings$Minutes.sitsDown(LHalfLandings$Scene;II)Z
theorem dX2_sitsDown_0 : decode cX2_sitsDown 0 = .ok (.aload_n 1, 1) := by decide +kernel
theorem dX2_sitsDown_1 : decode cX2_sitsDown 1 = .ok (.iload_n 3, 1) := by decide +kernel
theorem dX2_sitsDown_2 : decode cX2_sitsDown 2 = .ok (.aload_n 0, 1) := by decide +kernel
theorem dX2_sitsDown_3 : decode cX2_sitsDown 3 = .ok (.getfield 17, 3) := by decide +kernel
theorem dX2_sitsDown_6 : decode cX2_sitsDown 6 = .ok (.getfield 85, 3) := by decide +kernel
theorem dX2_sitsDown_9 : decode cX2_sitsDown 9 = .ok (.iload_n 3, 1) := by decide +kernel
theorem dX2_sitsDown_10 : decode cX2_sitsDown 10 = .ok (.iaload, 1) := by decide +kernel
theorem dX2_sitsDown_11 : decode cX2_sitsDown 11 = .ok (.invokevirtual 88, 3) := by decide +kernel
theorem dX2_sitsDown_14 : decode cX2_sitsDown 14 = .ok (.ifCond .ne 5, 3) := by decide +kernel
theorem dX2_sitsDown_17 : decode cX2_sitsDown 17 = .ok (.iconst 0, 1) := by decide +kernel
theorem dX2_sitsDown_18 : decode cX2_sitsDown 18 = .ok (.ireturn, 1) := by decide +kernel
theorem dX2_sitsDown_19 : decode cX2_sitsDown 19 = .ok (.aload_n 1, 1) := by decide +kernel
theorem dX2_sitsDown_20 : decode cX2_sitsDown 20 = .ok (.iload_n 2, 1) := by decide +kernel
theorem dX2_sitsDown_21 : decode cX2_sitsDown 21 = .ok (.iload_n 3, 1) := by decide +kernel
theorem dX2_sitsDown_22 : decode cX2_sitsDown 22 = .ok (.invokevirtual 92, 3) := by decide +kernel
theorem dX2_sitsDown_25 : decode cX2_sitsDown 25 = .ok (.istore 4, 2) := by decide +kernel
theorem dX2_sitsDown_27 : decode cX2_sitsDown 27 = .ok (.iload 4, 2) := by decide +kernel
theorem dX2_sitsDown_29 : decode cX2_sitsDown 29 = .ok (.iconst (-1), 1) := by decide +kernel
theorem dX2_sitsDown_30 : decode cX2_sitsDown 30 = .ok (.if_icmp .eq 25, 3) := by decide +kernel
theorem dX2_sitsDown_33 : decode cX2_sitsDown 33 = .ok (.aload_n 1, 1) := by decide +kernel
theorem dX2_sitsDown_34 : decode cX2_sitsDown 34 = .ok (.getfield 96, 3) := by decide +kernel
theorem dX2_sitsDown_37 : decode cX2_sitsDown 37 = .ok (.iload 4, 2) := by decide +kernel
theorem dX2_sitsDown_39 : decode cX2_sitsDown 39 = .ok (.iconst 1, 1) := by decide +kernel
theorem dX2_sitsDown_40 : decode cX2_sitsDown 40 = .ok (.iastore, 1) := by decide +kernel
theorem dX2_sitsDown_41 : decode cX2_sitsDown 41 = .ok (.aload_n 1, 1) := by decide +kernel
theorem dX2_sitsDown_42 : decode cX2_sitsDown 42 = .ok (.iload_n 2, 1) := by decide +kernel
theorem dX2_sitsDown_43 : decode cX2_sitsDown 43 = .ok (.aload_n 1, 1) := by decide +kernel
theorem dX2_sitsDown_44 : decode cX2_sitsDown 44 = .ok (.getfield 99, 3) := by decide +kernel
theorem dX2_sitsDown_47 : decode cX2_sitsDown 47 = .ok (.iload 4, 2) := by decide +kernel
theorem dX2_sitsDown_49 : decode cX2_sitsDown 49 = .ok (.iaload, 1) := by decide +kernel
theorem dX2_sitsDown_50 : decode cX2_sitsDown 50 = .ok (.invokevirtual 102, 3) := by decide +kernel
theorem dX2_sitsDown_53 : decode cX2_sitsDown 53 = .ok (.iconst 1, 1) := by decide +kernel
theorem dX2_sitsDown_54 : decode cX2_sitsDown 54 = .ok (.ireturn, 1) := by decide +kernel
theorem dX2_sitsDown_55 : decode cX2_sitsDown 55 = .ok (.aload_n 0, 1) := by decide +kernel
theorem dX2_sitsDown_56 : decode cX2_sitsDown 56 = .ok (.aload_n 1, 1) := by decide +kernel
theorem dX2_sitsDown_57 : decode cX2_sitsDown 57 = .ok (.iconst 0, 1) := by decide +kernel
theorem dX2_sitsDown_58 : decode cX2_sitsDown 58 = .ok (.iload_n 2, 1) := by decide +kernel
theorem dX2_sitsDown_59 : decode cX2_sitsDown 59 = .ok (.iload_n 3, 1) := by decide +kernel
theorem dX2_sitsDown_60 : decode cX2_sitsDown 60 = .ok (.invokevirtual 106, 3) := by decide +kernel
theorem dX2_sitsDown_63 : decode cX2_sitsDown 63 = .ok (.lstore 5, 2) := by decide +kernel
theorem dX2_sitsDown_65 : decode cX2_sitsDown 65 = .ok (.lload 5, 2) := by decide +kernel
theorem dX2_sitsDown_67 : decode cX2_sitsDown 67 = .ok (.lconst 0, 1) := by decide +kernel
theorem dX2_sitsDown_68 : decode cX2_sitsDown 68 = .ok (.lcmp, 1) := by decide +kernel
theorem dX2_sitsDown_69 : decode cX2_sitsDown 69 = .ok (.ifCond .eq 12, 3) := by decide +kernel
theorem dX2_sitsDown_72 : decode cX2_sitsDown 72 = .ok (.lload 5, 2) := by decide +kernel
theorem dX2_sitsDown_74 : decode cX2_sitsDown 74 = .ok (.ldc2_w 110, 3) := by decide +kernel
theorem dX2_sitsDown_77 : decode cX2_sitsDown 77 = .ok (.lcmp, 1) := by decide +kernel
theorem dX2_sitsDown_78 : decode cX2_sitsDown 78 = .ok (.ifCond .ne 5, 3) := by decide +kernel
theorem dX2_sitsDown_81 : decode cX2_sitsDown 81 = .ok (.iconst 0, 1) := by decide +kernel
theorem dX2_sitsDown_82 : decode cX2_sitsDown 82 = .ok (.ireturn, 1) := by decide +kernel
theorem dX2_sitsDown_83 : decode cX2_sitsDown 83 = .ok (.aload_n 1, 1) := by decide +kernel
theorem dX2_sitsDown_84 : decode cX2_sitsDown 84 = .ok (.iload_n 2, 1) := by decide +kernel
theorem dX2_sitsDown_85 : decode cX2_sitsDown 85 = .ok (.iconst 1, 1) := by decide +kernel
theorem dX2_sitsDown_86 : decode cX2_sitsDown 86 = .ok (.invokevirtual 102, 3) := by decide +kernel
theorem dX2_sitsDown_89 : decode cX2_sitsDown 89 = .ok (.iconst 1, 1) := by decide +kernel
theorem dX2_sitsDown_90 : decode cX2_sitsDown 90 = .ok (.ireturn, 1) := by decide +kernel
theorem hd_X2_sitsDown : yX2_sitsDown.cls = xCn 2 ∧ yX2_sitsDown.cls ≠ "java/lang/invoke/MethodHandle" ∧ yX2_sitsDown.cls ≠ "java/lang/invoke/VarHandle" ∧ (parseMethodDescriptor yX2_sitsDown.desc).map (fun d => d.parameters.length) = some 3 := by decide +kernel
def k_X2_sitsDown_81 (sh : List xSh) (d : xD) : Option (Int32 × xD) :=
  some ((0 : Int32), d)
def f_X2_sitsDown (sh : List xSh) (q0 : Nat) (q1 : Nat) (x2 : Int32) (x3 : Int32) (d : xD) : Option (Int32 × xD) :=
  (xgR 2 sh d q0 0).bind fun v1 => (xgR 3 sh d v1 6).bind fun v2 => (xaI .int sh d v2 x3).bind fun v3 => (xon 4 sh q1 (f_X4_seatFree sh q1 x3 v3 d)).bind fun z4 => if z4.1 = 0 then (some ((0 : Int32), z4.2)) else ((xon 4 sh q1 (f_X4_restNotTaken sh q1 x2 x3 z4.2)).bind fun z5 => if z5.1 = (-1 : Int32) then ((xon 2 sh q0 (f_X2_worth sh q0 q1 (0 : Int32) x2 x3 z5.2)).bind fun z6 => if (lg_cmp z6.1 (0 : Int64)) = 0 then (k_X2_sitsDown_81 sh z6.2) else (if (lg_cmp z6.1 (-9223372036854775808 : Int64)) = 0 then (k_X2_sitsDown_81 sh z6.2) else ((xon 4 sh q1 (f_X4_seat sh q1 x2 (1 : Int32) z6.2)).bind fun d7 => some ((1 : Int32), d7)))) else ((xgR 4 sh z5.2 q1 18).bind fun v8 => (xsI .int sh z5.2 v8 z5.1 (1 : Int32)).bind fun d9 => (xgR 4 sh d9 q1 17).bind fun v10 => (xaI .int sh d9 v10 z5.1).bind fun v11 => (xon 4 sh q1 (f_X4_seat sh q1 x2 v11 d9)).bind fun d12 => some ((1 : Int32), d12)))
set_option maxHeartbeats 4000000 in
set_option maxRecDepth 100000 in
theorem mt_X2_sitsDown (l : Launch) (D : va_G) (cid : FieldType → ClassId) (b : Nat) (ex : Bool) (sa sv B0 : Nat) (sh : List xSh) (q0 : Nat) (q1 : Nat) (x2 : Int32) (x3 : Int32) (d : xD) (r : Int32) (dz : xD) (hf : f_X2_sitsDown sh q0 q1 x2 x3 d = some (r, dz)) : xMet l yX2_sitsDown cX2_sitsDown 7 (some .boolean) 3 0 0 D cid b ex sa sv B0 [.ref (b + q0), .ref (b + q1), .int x2, .int x3] sh d (some (.int r)) sh dz := by
  refine xMet.of (by decide) (Nat.le_of_ble_eq_true rfl) ?_
  intro p e s m below meth c ls A S hr hin G hl
  have hl : lv_has ls 7 [(0, .ref (b + q0)), (1, .ref (b + q1)), (2, .int x2), (3, .int x3)] := hl
  generalize ([.ref (b + q0), .ref (b + q1), .int x2, .int x3] : List Value).toArray = av at S ⊢
  have hx := S.1
  have hb := S.2.1
  have hml := S.2.2.1
  have hown := S.2.2.2.1
  have hts := S.2.2.2.2.1
  have K81 : ∀ (d : xD), k_X2_sitsDown_81 sh d = some (r, dz) → ∀ (H : Heap) (locs : List Loc) (ls : Array Slot), lv_has ls 7 [] → xG D cid b A sh d s H locs → W p l e (xRm 3 0 0) s m av below meth c H locs 0 0 (MQ below (xQ D cid b ex A (some (.int r)) sh dz) av s 0 0 A) (F0 m 81 ls []) := by
    intro d hf H locs ls hl G
    unfold k_X2_sitsDown_81 at hf
    refine lv_iconst (v := (0 : Int32)) hx hb dX2_sitsDown_81 (by decide) ?_
    cases hf
    exact xr_zret S G (fun _ => rfl) hr (by decide) dX2_sitsDown_82
  unfold f_X2_sitsDown at hf
  refine lv_aload_n hx hb dX2_sitsDown_0 rfl (lv_at hl 1 rfl) ?_
  refine lv_iload_n hx hb dX2_sitsDown_1 rfl (lv_at hl 3 rfl) ?_
  refine lv_aload_n hx hb dX2_sitsDown_2 rfl (lv_at hl 0 rfl) ?_
  obtain ⟨v1, hv1, hf⟩ := x_ob hf
  refine xr_getR (ci := 2) (k := 0) S G hv1 rfl kw_410 dX2_sitsDown_3 ?_
  obtain ⟨v2, hv2, hf⟩ := x_ob hf
  refine xr_getR (ci := 3) (k := 6) S G hv2 rfl kw_97 dX2_sitsDown_6 ?_
  refine lv_iload_n hx hb dX2_sitsDown_9 rfl (lv_at hl 3 rfl) ?_
  obtain ⟨v3, hv3, hf⟩ := x_ob hf
  refine xr_iald S G hv3 dX2_sitsDown_10 ?_
  obtain ⟨z4, hz4, hf⟩ := x_ob hf
  obtain ⟨hqz4, hz4⟩ := xon_of hz4
  refine xr_callV (ci := 4) (As := [.int x3, .int v3]) (rest := []) (st1 := [.int z4.1]) S G hl.1 (fun _ => rfl) (mt_X4_seatFree l D cid b ex sa sv B0 sh q1 x3 v3 d _ _ hz4) hqz4 (by decide) kw_848 kw_793 kw_794 kw_12 kw_795 hd_X4_seatFree ⟨Nat.le_of_ble_eq_true rfl, Nat.le_of_ble_eq_true rfl⟩ rfl rfl rfl (Nat.le_of_ble_eq_true rfl) ⟨Nat.le_of_ble_eq_true rfl, Nat.le_of_ble_eq_true rfl⟩ dX2_sitsDown_11 (fun H locs G => ?_)
  refine lv_if_ne (tgt := 19) hx hb dX2_sitsDown_14 (by decide) (fun c => ?_) (fun c => ?_)
  · have hf := x_neg c hf
    refine lv_aload_n hx hb dX2_sitsDown_19 rfl (lv_at hl 1 rfl) ?_
    refine lv_iload_n hx hb dX2_sitsDown_20 rfl (lv_at hl 2 rfl) ?_
    refine lv_iload_n hx hb dX2_sitsDown_21 rfl (lv_at hl 3 rfl) ?_
    obtain ⟨z5, hz5, hf⟩ := x_ob hf
    obtain ⟨hqz5, hz5⟩ := xon_of hz5
    refine xr_callV (ci := 4) (As := [.int x2, .int x3]) (rest := []) (st1 := [.int z5.1]) S G hl.1 (fun _ => rfl) (mt_X4_restNotTaken l D cid b ex sa sv B0 sh q1 x2 x3 z4.2 _ _ hz5) hqz5 (by decide) kw_849 kw_850 kw_851 kw_12 kw_852 hd_X4_restNotTaken ⟨Nat.le_of_ble_eq_true rfl, Nat.le_of_ble_eq_true rfl⟩ rfl rfl rfl (Nat.le_of_ble_eq_true rfl) ⟨Nat.le_of_ble_eq_true rfl, Nat.le_of_ble_eq_true rfl⟩ dX2_sitsDown_22 (fun H locs G => ?_)
    refine lv_istore (lv' := [(4, .int z5.1), (0, .ref (b + q0)), (1, .ref (b + q1)), (2, .int x2), (3, .int x3)]) hx hb dX2_sitsDown_25 hl (by decide) rfl (fun ls hl => ?_)
    refine lv_iload hx hb dX2_sitsDown_27 (lv_at hl 0 rfl) ?_
    refine lv_iconst (v := (-1 : Int32)) hx hb dX2_sitsDown_29 (by decide) ?_
    refine lv_icmp_eq (tgt := 55) hx hb dX2_sitsDown_30 (by decide) (fun c => ?_) (fun c => ?_)
    · have hf := x_pos c hf
      refine lv_aload_n hx hb dX2_sitsDown_55 rfl (lv_at hl 1 rfl) ?_
      refine lv_aload_n hx hb dX2_sitsDown_56 rfl (lv_at hl 2 rfl) ?_
      refine lv_iconst (v := (0 : Int32)) hx hb dX2_sitsDown_57 (by decide) ?_
      refine lv_iload_n hx hb dX2_sitsDown_58 rfl (lv_at hl 3 rfl) ?_
      refine lv_iload_n hx hb dX2_sitsDown_59 rfl (lv_at hl 4 rfl) ?_
      obtain ⟨z6, hz6, hf⟩ := x_ob hf
      obtain ⟨hqz6, hz6⟩ := xon_of hz6
      refine xr_callV (ci := 2) (As := [.ref (b + q1), .int (0 : Int32), .int x2, .int x3]) (rest := []) (st1 := [.long z6.1]) S G hl.1 (fun _ => rfl) (mt_X2_worth l D cid b ex sa sv B0 sh q0 q1 (0 : Int32) x2 x3 z5.2 _ _ hz6) hqz6 (by decide) kw_854 kw_764 kw_765 kw_13 kw_766 hd_X2_worth ⟨Nat.le_of_ble_eq_true rfl, Nat.le_of_ble_eq_true rfl⟩ rfl rfl rfl (Nat.le_of_ble_eq_true rfl) ⟨Nat.le_of_ble_eq_true rfl, Nat.le_of_ble_eq_true rfl⟩ dX2_sitsDown_60 (fun H locs G => ?_)
      refine lv_lstore (lv' := [(5, .long z6.1), (4, .int z5.1), (0, .ref (b + q0)), (1, .ref (b + q1)), (2, .int x2), (3, .int x3)]) hx hb dX2_sitsDown_63 hl (by decide) rfl (fun ls hl => ?_)
      refine lv_lload hx hb dX2_sitsDown_65 (lv_at hl 0 rfl) ?_
      refine lv_lconst (v := (0 : Int64)) hx hb dX2_sitsDown_67 (by decide) ?_
      refine W.lcmp hx hb dX2_sitsDown_68 ?_
      refine lv_if_eq (tgt := 81) hx hb dX2_sitsDown_69 (by decide) (fun c => ?_) (fun c => ?_)
      · have hf := x_pos c hf
        exact K81 z6.2 hf _ _ ls (lv_sub hl [] rfl) G
      · have hf := x_neg c hf
        refine lv_lload hx hb dX2_sitsDown_72 (lv_at hl 0 rfl) ?_
        refine lv_ldc2 (v := (-9223372036854775808 : Int64)) hx hb hown (hts _ kw_771) dX2_sitsDown_74 ?_
        refine W.lcmp hx hb dX2_sitsDown_77 ?_
        refine lv_if_ne (tgt := 83) hx hb dX2_sitsDown_78 (by decide) (fun c => ?_) (fun c => ?_)
        · have hf := x_neg c hf
          refine lv_aload_n hx hb dX2_sitsDown_83 rfl (lv_at hl 3 rfl) ?_
          refine lv_iload_n hx hb dX2_sitsDown_84 rfl (lv_at hl 4 rfl) ?_
          refine lv_iconst (v := (1 : Int32)) hx hb dX2_sitsDown_85 (by decide) ?_
          obtain ⟨d7, hd7, hf⟩ := x_ob hf
          obtain ⟨hqd7, hd7⟩ := xon_of hd7
          refine xr_callV (ci := 4) (As := [.int x2, .int (1 : Int32)]) (rest := []) (st1 := []) S G hl.1 (fun _ => rfl) (mt_X4_seat l D cid b ex sa sv B0 sh q1 x2 (1 : Int32) z6.2 _ hd7) hqd7 (by decide) kw_853 kw_804 kw_805 kw_12 kw_806 hd_X4_seat ⟨Nat.le_of_ble_eq_true rfl, Nat.le_of_ble_eq_true rfl⟩ rfl rfl rfl (Nat.le_of_ble_eq_true rfl) ⟨Nat.le_of_ble_eq_true rfl, Nat.le_of_ble_eq_true rfl⟩ dX2_sitsDown_86 (fun H locs G => ?_)
          refine lv_iconst (v := (1 : Int32)) hx hb dX2_sitsDown_89 (by decide) ?_
          cases hf
          exact xr_zret S G (fun _ => rfl) hr (by decide) dX2_sitsDown_90
        · have hf := x_pos c hf
          exact K81 z6.2 hf _ _ ls (lv_sub hl [] rfl) G
    · have hf := x_neg c hf
      refine lv_aload_n hx hb dX2_sitsDown_33 rfl (lv_at hl 2 rfl) ?_
      obtain ⟨v8, hv8, hf⟩ := x_ob hf
      refine xr_getR (ci := 4) (k := 18) S G hv8 rfl kw_363 dX2_sitsDown_34 ?_
      refine lv_iload hx hb dX2_sitsDown_37 (lv_at hl 0 rfl) ?_
      refine lv_iconst (v := (1 : Int32)) hx hb dX2_sitsDown_39 (by decide) ?_
      obtain ⟨d9, hd9, hf⟩ := x_ob hf
      refine xr_iast S G hd9 dX2_sitsDown_40 (fun H locs G => ?_)
      refine lv_aload_n hx hb dX2_sitsDown_41 rfl (lv_at hl 2 rfl) ?_
      refine lv_iload_n hx hb dX2_sitsDown_42 rfl (lv_at hl 3 rfl) ?_
      refine lv_aload_n hx hb dX2_sitsDown_43 rfl (lv_at hl 2 rfl) ?_
      obtain ⟨v10, hv10, hf⟩ := x_ob hf
      refine xr_getR (ci := 4) (k := 17) S G hv10 rfl kw_360 dX2_sitsDown_44 ?_
      refine lv_iload hx hb dX2_sitsDown_47 (lv_at hl 0 rfl) ?_
      obtain ⟨v11, hv11, hf⟩ := x_ob hf
      refine xr_iald S G hv11 dX2_sitsDown_49 ?_
      obtain ⟨d12, hd12, hf⟩ := x_ob hf
      obtain ⟨hqd12, hd12⟩ := xon_of hd12
      refine xr_callV (ci := 4) (As := [.int x2, .int v11]) (rest := []) (st1 := []) S G hl.1 (fun _ => rfl) (mt_X4_seat l D cid b ex sa sv B0 sh q1 x2 v11 d9 _ hd12) hqd12 (by decide) kw_853 kw_804 kw_805 kw_12 kw_806 hd_X4_seat ⟨Nat.le_of_ble_eq_true rfl, Nat.le_of_ble_eq_true rfl⟩ rfl rfl rfl (Nat.le_of_ble_eq_true rfl) ⟨Nat.le_of_ble_eq_true rfl, Nat.le_of_ble_eq_true rfl⟩ dX2_sitsDown_50 (fun H locs G => ?_)
      refine lv_iconst (v := (1 : Int32)) hx hb dX2_sitsDown_53 (by decide) ?_
      cases hf
      exact xr_zret S G (fun _ => rfl) hr (by decide) dX2_sitsDown_54
  · have hf := x_pos c hf
    refine lv_iconst (v := (0 : Int32)) hx hb dX2_sitsDown_17 (by decide) ?_
    cases hf
    exact xr_zret S G (fun _ => rfl) hr (by decide) dX2_sitsDown_18

/-! the law: its code, its links, its calls -/
theorem dl_0 : decode code 0 = .ok (.new 13, 3) := by decide +kernel
theorem dl_3 : decode code 3 = .ok (.dup, 1) := by decide +kernel
theorem dl_4 : decode code 4 = .ok (.invokespecial 74, 3) := by decide +kernel
theorem dl_7 : decode code 7 = .ok (.astore_n 1, 1) := by decide +kernel
theorem dl_8 : decode code 8 = .ok (.aload_n 1, 1) := by decide +kernel
theorem dl_9 : decode code 9 = .ok (.invokevirtual 75, 3) := by decide +kernel
theorem dl_12 : decode code 12 = .ok (.bipush (-5), 2) := by decide +kernel
theorem dl_14 : decode code 14 = .ok (.if_icmp .ne 28, 3) := by decide +kernel
theorem dl_17 : decode code 17 = .ok (.aload_n 1, 1) := by decide +kernel
theorem dl_18 : decode code 18 = .ok (.invokevirtual 61, 3) := by decide +kernel
theorem dl_21 : decode code 21 = .ok (.bipush (-5), 2) := by decide +kernel
theorem dl_23 : decode code 23 = .ok (.if_icmp .ne 19, 3) := by decide +kernel
theorem dl_26 : decode code 26 = .ok (.aload_n 1, 1) := by decide +kernel
theorem dl_27 : decode code 27 = .ok (.invokevirtual 78, 3) := by decide +kernel
theorem dl_30 : decode code 30 = .ok (.ifCond .ne 12, 3) := by decide +kernel
theorem dl_33 : decode code 33 = .ok (.aload_n 1, 1) := by decide +kernel
theorem dl_34 : decode code 34 = .ok (.invokevirtual 81, 3) := by decide +kernel
theorem dl_37 : decode code 37 = .ok (.fconst 0, 1) := by decide +kernel
theorem dl_38 : decode code 38 = .ok (.fcmp .l, 1) := by decide +kernel
theorem dl_39 : decode code 39 = .ok (.ifCond .eq 5, 3) := by decide +kernel
theorem dl_42 : decode code 42 = .ok (.iconst 0, 1) := by decide +kernel
theorem dl_43 : decode code 43 = .ok (.ireturn, 1) := by decide +kernel
theorem dl_44 : decode code 44 = .ok (.iconst 0, 1) := by decide +kernel
theorem dl_45 : decode code 45 = .ok (.istore_n 2, 1) := by decide +kernel
theorem dl_46 : decode code 46 = .ok (.iload_n 2, 1) := by decide +kernel
theorem dl_47 : decode code 47 = .ok (.bipush 34, 2) := by decide +kernel
theorem dl_49 : decode code 49 = .ok (.if_icmp .ge 287, 3) := by decide +kernel
theorem dl_52 : decode code 52 = .ok (.iload_n 2, 1) := by decide +kernel
theorem dl_53 : decode code 53 = .ok (.iconst 2, 1) := by decide +kernel
theorem dl_54 : decode code 54 = .ok (.if_icmp .ge 7, 3) := by decide +kernel
theorem dl_57 : decode code 57 = .ok (.iconst 0, 1) := by decide +kernel
theorem dl_58 : decode code 58 = .ok (.goto 19, 3) := by decide +kernel
theorem dl_61 : decode code 61 = .ok (.iload_n 2, 1) := by decide +kernel
theorem dl_62 : decode code 62 = .ok (.iconst 5, 1) := by decide +kernel
theorem dl_63 : decode code 63 = .ok (.if_icmp .ge 7, 3) := by decide +kernel
theorem dl_66 : decode code 66 = .ok (.iconst 2, 1) := by decide +kernel
theorem dl_67 : decode code 67 = .ok (.goto 10, 3) := by decide +kernel
theorem dl_70 : decode code 70 = .ok (.aload_n 0, 1) := by decide +kernel
theorem dl_71 : decode code 71 = .ok (.iconst 2, 1) := by decide +kernel
theorem dl_72 : decode code 72 = .ok (.iload_n 2, 1) := by decide +kernel
theorem dl_73 : decode code 73 = .ok (.imul, 1) := by decide +kernel
theorem dl_74 : decode code 74 = .ok (.invokestatic 85, 3) := by decide +kernel
theorem dl_77 : decode code 77 = .ok (.istore_n 3, 1) := by decide +kernel
theorem dl_78 : decode code 78 = .ok (.iload_n 2, 1) := by decide +kernel
theorem dl_79 : decode code 79 = .ok (.iconst 2, 1) := by decide +kernel
theorem dl_80 : decode code 80 = .ok (.if_icmp .ge 7, 3) := by decide +kernel
theorem dl_83 : decode code 83 = .ok (.iload_n 2, 1) := by decide +kernel
theorem dl_84 : decode code 84 = .ok (.goto 12, 3) := by decide +kernel
theorem dl_87 : decode code 87 = .ok (.aload_n 0, 1) := by decide +kernel
theorem dl_88 : decode code 88 = .ok (.iconst 2, 1) := by decide +kernel
theorem dl_89 : decode code 89 = .ok (.iload_n 2, 1) := by decide +kernel
theorem dl_90 : decode code 90 = .ok (.imul, 1) := by decide +kernel
theorem dl_91 : decode code 91 = .ok (.iconst 1, 1) := by decide +kernel
theorem dl_92 : decode code 92 = .ok (.iadd, 1) := by decide +kernel
theorem dl_93 : decode code 93 = .ok (.invokestatic 85, 3) := by decide +kernel
theorem dl_96 : decode code 96 = .ok (.istore 4, 2) := by decide +kernel
theorem dl_98 : decode code 98 = .ok (.aload_n 1, 1) := by decide +kernel
theorem dl_99 : decode code 99 = .ok (.invokestatic 89, 3) := by decide +kernel
theorem dl_102 : decode code 102 = .ok (.lstore 5, 2) := by decide +kernel
theorem dl_104 : decode code 104 = .ok (.aload_n 1, 1) := by decide +kernel
theorem dl_105 : decode code 105 = .ok (.bipush 17, 2) := by decide +kernel
theorem dl_107 : decode code 107 = .ok (.invokevirtual 12, 3) := by decide +kernel
theorem dl_110 : decode code 110 = .ok (.istore 7, 2) := by decide +kernel
theorem dl_112 : decode code 112 = .ok (.aload_n 1, 1) := by decide +kernel
theorem dl_113 : decode code 113 = .ok (.iload_n 3, 1) := by decide +kernel
theorem dl_114 : decode code 114 = .ok (.iload 4, 2) := by decide +kernel
theorem dl_116 : decode code 116 = .ok (.invokestatic 93, 3) := by decide +kernel
theorem dl_119 : decode code 119 = .ok (.istore 8, 2) := by decide +kernel
theorem dl_121 : decode code 121 = .ok (.aload_n 1, 1) := by decide +kernel
theorem dl_122 : decode code 122 = .ok (.invokestatic 89, 3) := by decide +kernel
theorem dl_125 : decode code 125 = .ok (.lstore 9, 2) := by decide +kernel
theorem dl_127 : decode code 127 = .ok (.iload 8, 2) := by decide +kernel
theorem dl_129 : decode code 129 = .ok (.ifCond .ge 25, 3) := by decide +kernel
theorem dl_132 : decode code 132 = .ok (.lload 9, 2) := by decide +kernel
theorem dl_134 : decode code 134 = .ok (.lload 5, 2) := by decide +kernel
theorem dl_136 : decode code 136 = .ok (.lcmp, 1) := by decide +kernel
theorem dl_137 : decode code 137 = .ok (.ifCond .ne 40, 3) := by decide +kernel
theorem dl_140 : decode code 140 = .ok (.aload_n 1, 1) := by decide +kernel
theorem dl_141 : decode code 141 = .ok (.bipush 17, 2) := by decide +kernel
theorem dl_143 : decode code 143 = .ok (.invokevirtual 12, 3) := by decide +kernel
theorem dl_146 : decode code 146 = .ok (.iload 7, 2) := by decide +kernel
theorem dl_148 : decode code 148 = .ok (.if_icmp .eq 31, 3) := by decide +kernel
theorem dl_151 : decode code 151 = .ok (.goto 26, 3) := by decide +kernel
theorem dl_154 : decode code 154 = .ok (.aload_n 1, 1) := by decide +kernel
theorem dl_155 : decode code 155 = .ok (.bipush 17, 2) := by decide +kernel
theorem dl_157 : decode code 157 = .ok (.invokevirtual 12, 3) := by decide +kernel
theorem dl_160 : decode code 160 = .ok (.iload 7, 2) := by decide +kernel
theorem dl_162 : decode code 162 = .ok (.iconst 4, 1) := by decide +kernel
theorem dl_163 : decode code 163 = .ok (.if_icmp .ge 10, 3) := by decide +kernel
theorem dl_166 : decode code 166 = .ok (.iload 7, 2) := by decide +kernel
theorem dl_168 : decode code 168 = .ok (.iconst 1, 1) := by decide +kernel
theorem dl_169 : decode code 169 = .ok (.iadd, 1) := by decide +kernel
theorem dl_170 : decode code 170 = .ok (.goto 4, 3) := by decide +kernel
theorem dl_173 : decode code 173 = .ok (.iconst 4, 1) := by decide +kernel
theorem dl_174 : decode code 174 = .ok (.if_icmp .eq 5, 3) := by decide +kernel
theorem dl_177 : decode code 177 = .ok (.iconst 0, 1) := by decide +kernel
theorem dl_178 : decode code 178 = .ok (.ireturn, 1) := by decide +kernel
theorem dl_179 : decode code 179 = .ok (.iload 8, 2) := by decide +kernel
theorem dl_181 : decode code 181 = .ok (.ifCond .lt 65, 3) := by decide +kernel
theorem dl_184 : decode code 184 = .ok (.iload_n 3, 1) := by decide +kernel
theorem dl_185 : decode code 185 = .ok (.bipush 10, 2) := by decide +kernel
theorem dl_187 : decode code 187 = .ok (.ishr, 1) := by decide +kernel
theorem dl_188 : decode code 188 = .ok (.iconst 1, 1) := by decide +kernel
theorem dl_189 : decode code 189 = .ok (.iand, 1) := by decide +kernel
theorem dl_190 : decode code 190 = .ok (.ifCond .ne 56, 3) := by decide +kernel
theorem dl_193 : decode code 193 = .ok (.aload_n 1, 1) := by decide +kernel
theorem dl_194 : decode code 194 = .ok (.bipush 17, 2) := by decide +kernel
theorem dl_196 : decode code 196 = .ok (.invokevirtual 12, 3) := by decide +kernel
theorem dl_199 : decode code 199 = .ok (.iconst 1, 1) := by decide +kernel
theorem dl_200 : decode code 200 = .ok (.isub, 1) := by decide +kernel
theorem dl_201 : decode code 201 = .ok (.istore 11, 2) := by decide +kernel
theorem dl_203 : decode code 203 = .ok (.aload_n 1, 1) := by decide +kernel
theorem dl_204 : decode code 204 = .ok (.invokevirtual 75, 3) := by decide +kernel
theorem dl_207 : decode code 207 = .ok (.iload 11, 2) := by decide +kernel
theorem dl_209 : decode code 209 = .ok (.if_icmp .ne 35, 3) := by decide +kernel
theorem dl_212 : decode code 212 = .ok (.aload_n 1, 1) := by decide +kernel
theorem dl_213 : decode code 213 = .ok (.invokestatic 89, 3) := by decide +kernel
theorem dl_216 : decode code 216 = .ok (.lload 5, 2) := by decide +kernel
theorem dl_218 : decode code 218 = .ok (.lcmp, 1) := by decide +kernel
theorem dl_219 : decode code 219 = .ok (.ifCond .ne 25, 3) := by decide +kernel
theorem dl_222 : decode code 222 = .ok (.aload_n 1, 1) := by decide +kernel
theorem dl_223 : decode code 223 = .ok (.iload_n 3, 1) := by decide +kernel
theorem dl_224 : decode code 224 = .ok (.iload 4, 2) := by decide +kernel
theorem dl_226 : decode code 226 = .ok (.invokestatic 93, 3) := by decide +kernel
theorem dl_229 : decode code 229 = .ok (.iload 8, 2) := by decide +kernel
theorem dl_231 : decode code 231 = .ok (.if_icmp .ne 13, 3) := by decide +kernel
theorem dl_234 : decode code 234 = .ok (.aload_n 1, 1) := by decide +kernel
theorem dl_235 : decode code 235 = .ok (.invokestatic 89, 3) := by decide +kernel
theorem dl_238 : decode code 238 = .ok (.lload 9, 2) := by decide +kernel
theorem dl_240 : decode code 240 = .ok (.lcmp, 1) := by decide +kernel
theorem dl_241 : decode code 241 = .ok (.ifCond .eq 5, 3) := by decide +kernel
theorem dl_244 : decode code 244 = .ok (.iconst 0, 1) := by decide +kernel
theorem dl_245 : decode code 245 = .ok (.ireturn, 1) := by decide +kernel
theorem dl_246 : decode code 246 = .ok (.aload_n 1, 1) := by decide +kernel
theorem dl_247 : decode code 247 = .ok (.invokestatic 97, 3) := by decide +kernel
theorem dl_250 : decode code 250 = .ok (.ifCond .ne 5, 3) := by decide +kernel
theorem dl_253 : decode code 253 = .ok (.iconst 0, 1) := by decide +kernel
theorem dl_254 : decode code 254 = .ok (.ireturn, 1) := by decide +kernel
theorem dl_255 : decode code 255 = .ok (.iconst 1, 1) := by decide +kernel
theorem dl_256 : decode code 256 = .ok (.iload 4, 2) := by decide +kernel
theorem dl_258 : decode code 258 = .ok (.iconst 3, 1) := by decide +kernel
theorem dl_259 : decode code 259 = .ok (.ishr, 1) := by decide +kernel
theorem dl_260 : decode code 260 = .ok (.bipush 90, 2) := by decide +kernel
theorem dl_262 : decode code 262 = .ok (.invokestatic 34, 3) := by decide +kernel
theorem dl_265 : decode code 265 = .ok (.iadd, 1) := by decide +kernel
theorem dl_266 : decode code 266 = .ok (.istore 11, 2) := by decide +kernel
theorem dl_268 : decode code 268 = .ok (.aload_n 1, 1) := by decide +kernel
theorem dl_269 : decode code 269 = .ok (.aload_n 1, 1) := by decide +kernel
theorem dl_270 : decode code 270 = .ok (.bipush 19, 2) := by decide +kernel
theorem dl_272 : decode code 272 = .ok (.invokevirtual 12, 3) := by decide +kernel
theorem dl_275 : decode code 275 = .ok (.iload 11, 2) := by decide +kernel
theorem dl_277 : decode code 277 = .ok (.iconst 0, 1) := by decide +kernel
theorem dl_278 : decode code 278 = .ok (.invokevirtual 101, 3) := by decide +kernel
theorem dl_281 : decode code 281 = .ok (.istore 12, 2) := by decide +kernel
theorem dl_283 : decode code 283 = .ok (.iload_n 2, 1) := by decide +kernel
theorem dl_284 : decode code 284 = .ok (.iconst 4, 1) := by decide +kernel
theorem dl_285 : decode code 285 = .ok (.irem, 1) := by decide +kernel
theorem dl_286 : decode code 286 = .ok (.iconst 3, 1) := by decide +kernel
theorem dl_287 : decode code 287 = .ok (.if_icmp .ne 43, 3) := by decide +kernel
theorem dl_290 : decode code 290 = .ok (.aload_n 1, 1) := by decide +kernel
theorem dl_291 : decode code 291 = .ok (.bipush 14, 2) := by decide +kernel
theorem dl_293 : decode code 293 = .ok (.invokevirtual 12, 3) := by decide +kernel
theorem dl_296 : decode code 296 = .ok (.istore 13, 2) := by decide +kernel
theorem dl_298 : decode code 298 = .ok (.aload_n 1, 1) := by decide +kernel
theorem dl_299 : decode code 299 = .ok (.iload 11, 2) := by decide +kernel
theorem dl_301 : decode code 301 = .ok (.invokevirtual 55, 3) := by decide +kernel
theorem dl_304 : decode code 304 = .ok (.iload 12, 2) := by decide +kernel
theorem dl_306 : decode code 306 = .ok (.if_icmp .ne 17, 3) := by decide +kernel
theorem dl_309 : decode code 309 = .ok (.aload_n 1, 1) := by decide +kernel
theorem dl_310 : decode code 310 = .ok (.bipush 14, 2) := by decide +kernel
theorem dl_312 : decode code 312 = .ok (.invokevirtual 12, 3) := by decide +kernel
theorem dl_315 : decode code 315 = .ok (.iload 13, 2) := by decide +kernel
theorem dl_317 : decode code 317 = .ok (.isub, 1) := by decide +kernel
theorem dl_318 : decode code 318 = .ok (.iload 11, 2) := by decide +kernel
theorem dl_320 : decode code 320 = .ok (.if_icmp .le 5, 3) := by decide +kernel
theorem dl_323 : decode code 323 = .ok (.iconst 0, 1) := by decide +kernel
theorem dl_324 : decode code 324 = .ok (.ireturn, 1) := by decide +kernel
theorem dl_325 : decode code 325 = .ok (.aload_n 1, 1) := by decide +kernel
theorem dl_326 : decode code 326 = .ok (.invokevirtual 75, 3) := by decide +kernel
theorem dl_329 : decode code 329 = .ok (.pop, 1) := by decide +kernel
theorem dl_330 : decode code 330 = .ok (.iinc 2 1, 3) := by decide +kernel
theorem dl_333 : decode code 333 = .ok (.goto (-287), 3) := by decide +kernel
theorem dl_336 : decode code 336 = .ok (.iconst 1, 1) := by decide +kernel
theorem dl_337 : decode code 337 = .ok (.ireturn, 1) := by decide +kernel
def ltL : List (Nat × Nat × Nat) := [(12, 112, 454), (18, 107, 513), (22, 110, 534), (25, 108, 546), (28, 109, 563), (31, 111, 588), (39, 90, 599), (42, 91, 607), (45, 92, 611), (49, 94, 658), (52, 95, 669), (55, 96, 328), (58, 98, 678), (61, 106, 450), (65, 99, 688), (68, 100, 692), (71, 97, 702), (75, 104, 437), (78, 105, 445), (81, 113, 489), (101, 114, 493)]
def ltJ : List (Nat × Nat × Nat) := [(74, 89, 19)]
def ltS : List (Nat × Nat × Nat) := [(34, 123, 504), (89, 124, 508), (93, 125, 596), (97, 126, 737)]
theorem dc_0 : decode cL_cell 0 = .ok (.iload_n 1, 1) := by decide +kernel
theorem dc_1 : decode cL_cell 1 = .ok (.aload_n 0, 1) := by decide +kernel
theorem dc_2 : decode cL_cell 2 = .ok (.arraylength, 1) := by decide +kernel
theorem dc_3 : decode cL_cell 3 = .ok (.if_icmp .ge 9, 3) := by decide +kernel
theorem dc_6 : decode cL_cell 6 = .ok (.aload_n 0, 1) := by decide +kernel
theorem dc_7 : decode cL_cell 7 = .ok (.iload_n 1, 1) := by decide +kernel
theorem dc_8 : decode cL_cell 8 = .ok (.iaload, 1) := by decide +kernel
theorem dc_9 : decode cL_cell 9 = .ok (.goto 15, 3) := by decide +kernel
theorem dc_12 : decode cL_cell 12 = .ok (.sipush 7919, 3) := by decide +kernel
theorem dc_15 : decode cL_cell 15 = .ok (.iload_n 1, 1) := by decide +kernel
theorem dc_16 : decode cL_cell 16 = .ok (.iconst 3, 1) := by decide +kernel
theorem dc_17 : decode cL_cell 17 = .ok (.iadd, 1) := by decide +kernel
theorem dc_18 : decode cL_cell 18 = .ok (.imul, 1) := by decide +kernel
theorem dc_19 : decode cL_cell 19 = .ok (.iload_n 1, 1) := by decide +kernel
theorem dc_20 : decode cL_cell 20 = .ok (.bipush 11, 2) := by decide +kernel
theorem dc_22 : decode cL_cell 22 = .ok (.iadd, 1) := by decide +kernel
theorem dc_23 : decode cL_cell 23 = .ok (.imul, 1) := by decide +kernel
theorem dc_24 : decode cL_cell 24 = .ok (.ireturn, 1) := by decide +kernel
set_option maxRecDepth 100000 in
theorem cell_w : Cond.methodLink RL 85 yL_cell ∈ gw ∧ Cond.static yL_cell ∈ gw ∧ Cond.code yL_cell cL_cell 2 (some .int) ∈ gw ∧ Cond.initialized RL ∈ gw := ⟨lw_at (show lw_tbl[501]? = some _ by decide +kernel) rfl, lw_at (show lw_tbl[502]? = some _ by decide +kernel) rfl, lw_at (show lw_tbl[503]? = some _ from rfl) rfl, lw_at (show lw_tbl[3]? = some _ by decide +kernel) rfl⟩
def ltN : List (Nat × Nat × Nat) := [(13, 10, 17)]
def npL : List Nat := [27, 33, 68, 129, 148, 167, 194, 265, 279, 620]
-- {'AI': 58, 'AC': 308, 'O0': 66, 'O9': 264, 'S_HANGERS_TAKEN': 402, 'S_MINUTES': 425, 'S_MINUTES_A_DEGREE': 427, 'S_WEIGHTS': 643}
set_option maxRecDepth 100000 in
theorem ltL_ok : ltL.all (fun e => decide (e.2.1 < mtab.length) && decide ((mP e.2.1).1 = 0) && decide (lw_tbl[e.2.2]? = some (Cond.methodLink RL e.1 (mN e.2.1)))) = true := by decide +kernel
set_option maxRecDepth 100000 in
theorem ltJ_ok : ltJ.all (fun e => decide (e.2.1 < mtab.length) && decide ((mP e.2.1).1 = 1) && decide (lw_tbl[e.2.2]? = some (Cond.methodLink RL e.1 (mN e.2.1)))) = true := by decide +kernel
set_option maxRecDepth 100000 in
theorem ltN_ok : ltN.all (fun e => decide (e.2.1 < 12) && decide (lw_tbl[e.2.2]? = some (Cond.classLink RL e.1 (fR e.2.1)))) = true := by decide +kernel
set_option maxRecDepth 100000 in
theorem ltS_ok : ltS.all (fun e => decide (e.2.1 < mtab.length) && decide ((mP e.2.1).1 = 2) && decide (lw_tbl[e.2.2]? = some (Cond.methodLink RL e.1 (mN e.2.1)))) = true := by decide +kernel
theorem ltS_at {i j q : Nat} (h : (i, j, q) ∈ ltS) : j < mtab.length ∧ (mP j).1 = 2 ∧ Cond.methodLink RL i (mN j) ∈ gw := by
  have := List.all_eq_true.mp ltS_ok _ h
  simp only [Bool.and_eq_true, decide_eq_true_eq] at this
  exact ⟨this.1.1, this.1.2, lw_at this.2 rfl⟩
theorem ltL_at {i j q : Nat} (h : (i, j, q) ∈ ltL) : j < mtab.length ∧ (mP j).1 = 0 ∧ Cond.methodLink RL i (mN j) ∈ gw := by
  have := List.all_eq_true.mp ltL_ok _ h
  simp only [Bool.and_eq_true, decide_eq_true_eq] at this
  exact ⟨this.1.1, this.1.2, lw_at this.2 rfl⟩
theorem ltJ_at {i j q : Nat} (h : (i, j, q) ∈ ltJ) : j < mtab.length ∧ (mP j).1 = 1 ∧ Cond.methodLink RL i (mN j) ∈ gw := by
  have := List.all_eq_true.mp ltJ_ok _ h
  simp only [Bool.and_eq_true, decide_eq_true_eq] at this
  exact ⟨this.1.1, this.1.2, lw_at this.2 rfl⟩
theorem ltN_at {i ci q : Nat} (h : (i, ci, q) ∈ ltN) : ci < 12 ∧ Cond.classLink RL i (fR ci) ∈ gw := by
  have := List.all_eq_true.mp ltN_ok _ h
  simp only [Bool.and_eq_true, decide_eq_true_eq] at this
  exact ⟨this.1, lw_at this.2 rfl⟩
/-- the law at work: the machine, its code, the words, the world -/
def LC (b : Nat) (t : Nat → Nat) (ac : Nat → ClassId) (D : va_G) (p : Program) (s : State) (m : MethodId) (args : Array Value) (c : Code) : Prop :=
  p.tables.exec = Jvm.exec ∧ c.code = code ∧ c.maxLocals = 14 ∧ s.vm.findClass RL = some m.cls ∧ (∀ w ∈ gw, w.before args s = true) ∧ EV b t ac D s ∧ b ≤ s.heap.size
theorem EV.dr {b : Nat} {t : Nat → Nat} {ac : Nat → ClassId} {D : va_G} {U : State} (h : EV b t ac D U) (d : Drawn) : EV b t ac D (U.setDrawn d) := by
  obtain ⟨h1, h2, h3, h4, h5⟩ := h
  exact ⟨va_K.moved (u := U) (U := U.setDrawn d) (Vm.Alike.refl U.vm) h1, fun q hq => va_Nw.same rfl (u := U) rfl (h2 q hq), fun k hk => ⟨(h3 k hk).1.moved (u := U) (U := U.setDrawn d) (Vm.Alike.refl U.vm), (h3 k hk).2.moved (u := U) (U := U.setDrawn d) (Vm.Alike.refl U.vm)⟩, h4.moved (u := U) (U := U.setDrawn d) (Vm.Alike.refl U.vm), h5.moved (u := U) (U := U.setDrawn d) (Vm.Alike.refl U.vm)⟩
theorem LC.dr {b : Nat} {t : Nat → Nat} {ac : Nat → ClassId} {D : va_G} {p : Program} {s : State} {m : MethodId} {args : Array Value} {c : Code} (h : LC b t ac D p s m args c) (d : Drawn) : LC b t ac D p (s.setDrawn d) m args c := ⟨h.1, h.2.1, h.2.2.1, h.2.2.2.1, dr_words h.2.2.2.2.1 d, h.2.2.2.2.2.1.dr d, h.2.2.2.2.2.2⟩
section LCALL
variable {p : Program} {l : Launch} {e : Env} {s : State} {m : MethodId} {args : Array Value} {below : List Frame} {meth : Method} {c : Code} {H : Heap} {locs : List Loc} {cells slots : Nat} {Q : State → Prop} {b : Nat} {t : Nat → Nat} {ac : Nat → ClassId} {D : va_G} {pc : Nat} {ls : Array Slot} {h h' : List hC}
/-- a call out of the law -/
theorem L_callM {i j q a : Nat} {as : List Value} {rest : List Value} {v : Option Value} {fs : List Value} (hl : (i, j, q) ∈ ltL) (C : LC b t ac D p s m args c) (hd : decode code pc = .ok (.invokevirtual i, 3)) (hM : Met l (mN j) (wsm j) (rmm j 0 0) (Pm b t ac D (.ref a :: as) h) (Qm b t ac D v h') 0 0 (fun q => b ≤ q)) (hcell : h[a]? = some (.inl (mC j, fs))) (hlen : as.length + 1 = mA j) (hroom : mF j + 1 ≤ room_1.frames ∧ 8 + (mL j + 11) + mW j ≤ room_1.locals) (hls : ls.size = 14) (hrest : (rest.map fun v => v.category).sum ≤ 8) (hW : WH b t ac D h H) (hS : va_S (fun q => b ≤ q) s.heap H locs) (hsz : s.heap.size + cells ≤ b + h.length) (hcs : cells ≤ room_1.cells ∧ slots ≤ room_1.slots)
    (k : ∀ (H' : Heap) (locs' : List Loc), WH b t ac D h' H' → va_S (fun q => b ≤ q) s.heap H' locs' → W p l e room_1 s m args below meth c H' locs' cells slots Q (F0 m (pc + 3) ls ((v.map (cv (ad b t))).toList ++ rest))) :
    W p l e room_1 s m args below meth c H locs cells slots Q (F0 m pc ls ((as.map (cv (ad b t))).reverse ++ (.ref (ad b t a) :: rest))) := by
  obtain ⟨hx0, hb, hml0, hown, hts, hE, hbs⟩ := C
  obtain ⟨hj, hP0, hlink⟩ := ltL_at hl
  obtain ⟨w1, w2, w3, w4, w5, w6, w7, -, -⟩ := mrow_at hj
  obtain ⟨q1, q2, q3⟩ := w7 hP0
  have hn : (parseMethodDescriptor (mN j).desc).map (fun d => d.parameters.length) = some as.length := desc_n (by rw [q3, hlen])
  have hfix : CallFix p m c code 14 s args gw RL := ⟨hx0, hb, hml0, hown, hts⟩
  intro T hT X0
  have hTs : H.size ≤ b + h.length := by
    have := X0.heapSize
    rw [hT] at this
    omega
  have hb2 : b ≤ H.size := Nat.le_trans hbs hS.1
  have hPm : ∀ U : State, U.heap = H → s.WarmedH U.vm → Pm b t ac D (.ref a :: as) h (((Value.ref a :: as).map (cv (ad b t))).toArray) U := fun U hU hWm => ⟨rfl, by rw [hU]; exact hW, hE.to hS hWm hU, by rw [hU]; exact hb2, by rw [hU]; exact hTs⟩
  refine W_call (v := v) (h1 := h') (va_runV (C := (mN j).cls) (As := as.map (cv (ad b t))) (rest := rest) (b := ad b t a) hfix hM (cwV as.length hts (gw_all (fun w hw => ?_)) rfl rfl rfl ⟨rfl, w5, w6, hn⟩ hroom) ⟨Pm_blind, ?_, fun U hU hWm => hPm U hU hWm⟩ rfl (by rw [List.length_map]) hls rfl (lv_room hrest) hd hcs) hS (fun H' locs' g1 g2 => k H' locs' g1 g2) T hT X0
  · rcases List.mem_append.mp hw with hw | hw
    · simp only [List.mem_cons, List.not_mem_nil, or_false] at hw
      rcases hw with rfl | rfl | rfl | rfl
      · exact hlink
      · exact q1
      · exact q2
      · exact w1
    · exact wsm_in hj w hw
  · rw [w2]
    exact va_recv hE.1 hW (vw_at (w3.resolve_right (fun q => by rw [hP0] at q; cases q))) (wz_at hcell)
/-- a call out of the law -/
theorem L_call {i j q a : Nat} {as : List Value} {rest : List Value} {v : Option Value} {fs : List Value} (hl : (i, j, q) ∈ ltL) (C : LC b t ac D p s m args c) (hd : decode code pc = .ok (.invokevirtual i, 3)) (hz : mZ j = false) (hx : X j 0 (pad j (.ref a :: as)) [] h = some (v, h')) (hcell : h[a]? = some (.inl (mC j, fs))) (hc : (Value.ref a :: as).all cat1 = true) (hlen : as.length + 1 = mA j) (hml : mA j ≤ mL j) (hroom : mF j + 1 ≤ room_1.frames ∧ 8 + (mL j + 11) + mW j ≤ room_1.locals) (hls : ls.size = 14) (hrest : (rest.map fun v => v.category).sum ≤ 8) (hW : WH b t ac D h H) (hS : va_S (fun q => b ≤ q) s.heap H locs) (hhl : h.length ≤ sB) (hsz : s.heap.size + cells ≤ b + h.length) (hcs : cells ≤ room_1.cells ∧ slots ≤ room_1.slots)
    (k : ∀ (H' : Heap) (locs' : List Loc), WH b t ac D h' H' → va_S (fun q => b ≤ q) s.heap H' locs' → W p l e room_1 s m args below meth c H' locs' cells slots Q (F0 m (pc + 3) ls ((v.map (cv (ad b t))).toList ++ rest))) :
    W p l e room_1 s m args below meth c H locs cells slots Q (F0 m pc ls ((as.map (cv (ad b t))).reverse ++ (.ref (ad b t a) :: rest))) := by
  obtain ⟨hj, -, -⟩ := ltL_at hl
  exact L_callM hl C hd (met_X l (b := b) (t := t) (ac := ac) (D := D) hj hz hx hc (by rw [List.length_cons]; omega) hhl) hcell hlen hroom hls hrest hW hS hsz hcs k
/-- a static call out of the law -/
theorem L_callS {i j q : Nat} {as : List Value} {rest : List Value} {v : Option Value} (hl : (i, j, q) ∈ ltS) (C : LC b t ac D p s m args c) (hd : decode code pc = .ok (.invokestatic i, 3)) (hz : mZ j = false) (hx : X j 0 (pad j as) [] h = some (v, h')) (hc : as.all cat1 = true) (hlen : as.length = mA j) (hml : mA j ≤ mL j) (hroom : mF j + 1 ≤ room_1.frames ∧ 8 + (mL j + 11) + mW j ≤ room_1.locals) (hls : ls.size = 14) (hrest : (rest.map fun v => v.category).sum ≤ 8) (hW : WH b t ac D h H) (hS : va_S (fun q => b ≤ q) s.heap H locs) (hhl : h.length ≤ sB) (hsz : s.heap.size + cells ≤ b + h.length) (hcs : cells ≤ room_1.cells ∧ slots ≤ room_1.slots)
    (k : ∀ (H' : Heap) (locs' : List Loc), WH b t ac D h' H' → va_S (fun q => b ≤ q) s.heap H' locs' → W p l e room_1 s m args below meth c H' locs' cells slots Q (F0 m (pc + 3) ls ((v.map (cv (ad b t))).toList ++ rest))) :
    W p l e room_1 s m args below meth c H locs cells slots Q (F0 m pc ls ((as.map (cv (ad b t))).reverse ++ rest)) := by
  obtain ⟨hx0, hb, hml0, hown, hts, hE, hbs⟩ := C
  obtain ⟨hj, hP0, hlink⟩ := ltS_at hl
  have hM := met_X l (b := b) (t := t) (ac := ac) (D := D) hj hz hx hc (by omega) hhl
  obtain ⟨w1, w2, w3, w4, w5, w6, -, -, w7⟩ := mrow_at hj
  obtain ⟨q1, q3⟩ := w7 hP0
  have hn : (parseMethodDescriptor (mN j).desc).map (fun d => d.parameters.length) = some as.length := by rw [q3, hlen]
  have hfix : CallFix p m c code 14 s args gw RL := ⟨hx0, hb, hml0, hown, hts⟩
  intro T hT X0
  have hTs : H.size ≤ b + h.length := by
    have := X0.heapSize
    rw [hT] at this
    omega
  have hb2 : b ≤ H.size := Nat.le_trans hbs hS.1
  have hPm : ∀ U : State, U.heap = H → s.WarmedH U.vm → Pm b t ac D as h ((as.map (cv (ad b t))).toArray) U := fun U hU hWm => ⟨rfl, by rw [hU]; exact hW, hE.to hS hWm hU, by rw [hU]; exact hb2, by rw [hU]; exact hTs⟩
  refine W_call (v := v) (h1 := h') (va_runS (As := as.map (cv (ad b t))) (rest := rest) hfix hM (va_cwS as.length hts (gw_all (fun w hw => ?_)) rfl rfl rfl ⟨w5, w6, hn⟩ hroom) ⟨Pm_blind, fun U hU hWm => hPm U hU hWm⟩ rfl (by rw [List.length_map]) hls rfl (lv_room hrest) hd hcs) hS (fun H' locs' g1 g2 => k H' locs' g1 g2) T hT X0
  rcases List.mem_append.mp hw with hw | hw
  · simp only [List.mem_cons, List.not_mem_nil, or_false] at hw
    rcases hw with rfl | rfl | rfl
    · exact hlink
    · exact q1
    · exact w1
  · exact wsm_in hj w hw
/-- the script's numbers, and those behind its end -/
def celV (xs : Nat → Int32) (L : Nat) (k : Int32) : Int32 := if k < Int32.ofNat L then xs k.toNatClampNeg else 7919 * (k + 3) * (k + 11)
def PmC (b : Nat) (t : Nat → Nat) (ac : Nat → ClassId) (D : va_G) (b0 L : Nat) (xs : Nat → Int32) (k : Int32) (h : List hC) : Array Value → State → Prop := va_Pc [.ref b0, .int k] (fun U => WH b t ac D h U.heap ∧ b ≤ U.heap.size ∧ va_X b0 L xs U U.heap ∧ b0 < b)
theorem PmC_blind {b0 L : Nat} {xs : Nat → Int32} {k : Int32} : FrameBlind (PmC b t ac D b0 L xs k h) := by
  intro a U g mk hp
  obtain ⟨h1, h2, h3, h4, h5⟩ := hp
  exact ⟨h1, h2, h3, h4.moved (u := U) (U := U.calling g mk a) (Vm.Alike.refl U.vm), h5⟩
theorem met_cell (l : Launch) {b0 L ka : Nat} {xs : Nat → Int32} {k : Int32} (hk : k = nI ka) (hka : ka < 2 ^ 31) (hL : L < 2 ^ 31) : Met l yL_cell (Cond.code yL_cell cL_cell 2 (some .int) :: gw) { frames := 0, cells := 0, slots := 0, locals := 0 } (PmC b t ac D b0 L xs k h) (Qm b t ac D (some (.int (celV xs L k))) h) 0 0 (fun q => b ≤ q) := by
  refine Met.ofW (cc := cL_cell) (maxL := 2) (ret := some .int) (by decide +kernel) rfl ?_
  intro p e s m args below meth c s₁ B hml hv
  obtain ⟨rfl, hW, hb0, hX, hlt⟩ := hv
  have hx := B.exec
  have hb := B.bytes
  have hrt : meth.sig.returnType = some .int := B.returns
  have hl := lv_entry ([.ref b0, .int k]) (n := 2) (Nat.le_of_ble_eq_true rfl)
  rw [lg_entry_eq]
  generalize (lg_sl ([.ref b0, .int k]) ++ List.replicate (2 - (lg_sl ([.ref b0, .int k])).length) Slot.unset).toArray = ls at hl ⊢
  have hl : lv_has ls 2 [(0, .ref b0), (1, .int k)] := hl
  have hS : va_S (fun q => b ≤ q) s.heap s.heap [] := va_S.rf
  have hbl : b0 < s.heap.size := by omega
  have hbA : ¬ (fun q : Nat => b ≤ q) b0 := Nat.not_le.mpr hlt
  have hge : (Int32.ofNat L ≤ k) ↔ ¬ ka < L := by
    rw [hk, show Int32.ofNat L = nI L from rfl, Int32.le_iff_toInt_le, nI_toInt hL, nI_toInt hka]
    omega
  have hklt : (k < Int32.ofNat L) ↔ ka < L := by
    rw [hk, show Int32.ofNat L = nI L from rfl, nI_ltp hka hL]
  refine lv_iload_n hx hb dc_0 rfl (lv_at hl 1 rfl) ?_
  refine lv_aload_n hx hb dc_1 rfl (lv_at hl 0 rfl) ?_
  refine va_slen hx hb hX hbl hbA hS dc_2 ?_
  refine lv_icmp_ge (tgt := 12) hx hb dc_3 (by decide) (fun h1 => ?_) (fun h1 => ?_)
  · refine lv_sipush (v := 7919) hx hb dc_12 (by decide) ?_
    refine lv_iload_n hx hb dc_15 rfl (lv_at hl 1 rfl) ?_
    refine lv_iconst (v := 3) hx hb dc_16 (by decide) ?_
    refine lv_iadd hx hb dc_17 ?_
    refine lv_imul hx hb dc_18 ?_
    refine lv_iload_n hx hb dc_19 rfl (lv_at hl 1 rfl) ?_
    refine lv_bipush (v := 11) hx hb dc_20 (by decide) ?_
    refine lv_iadd hx hb dc_22 ?_
    refine lv_imul hx hb dc_23 ?_
    exact W.zret (ty := .int) hx hb hrt rfl (fun u hu _ => ⟨by unfold celV; rw [if_neg (fun z => hge.mp h1 (hklt.mp z))]; rfl, by rw [hu]; exact hW, hS.F hu⟩) (fun q hq => hS.2.2 q hq) dc_24 B.notSynchronized
  · have hkl : ka < L := Decidable.not_not.mp (fun z => h1 (hge.mpr z))
    refine lv_aload_n hx hb dc_6 rfl (lv_at hl 0 rfl) ?_
    refine lv_iload_n hx hb dc_7 rfl (lv_at hl 1 rfl) ?_
    refine va_sld hx hb hX hbl hbA hS (by rw [hk]; exact vp_in_nI hkl hL) dc_8 ?_
    refine lv_goto (tgt := 24) hx hb dc_9 (by decide) ?_
    exact W.zret (ty := .int) hx hb hrt rfl (fun u hu _ => ⟨by unfold celV; rw [if_pos (hklt.mpr hkl)]; rfl, by rw [hu]; exact hW, hS.F hu⟩) (fun q hq => hS.2.2 q hq) dc_24 B.notSynchronized
theorem L_cell {b0 L ka : Nat} {xs : Nat → Int32} {k : Int32} (C : LC s.heap.size t ac D p s m args c) (hX : va_X b0 L xs s s.heap) (hbl : b0 < s.heap.size) (hd : decode code pc = .ok (.invokestatic 85, 3)) (hk : k = nI ka) (hka : ka < 1000) (hls : ls.size = 14) (hW : WH s.heap.size t ac D h H) (hS : va_S (fun q => s.heap.size ≤ q) s.heap H locs) (hsz : s.heap.size + cells ≤ s.heap.size + h.length) (hcs : cells ≤ room_1.cells ∧ slots ≤ room_1.slots) (hL : L < 2 ^ 31)
    (kk : ∀ (z : Int32) (H' : Heap) (locs' : List Loc), WH s.heap.size t ac D h H' → va_S (fun q => s.heap.size ≤ q) s.heap H' locs' → W p l e room_1 s m args below meth c H' locs' cells slots Q (F0 m (pc + 3) ls [.int z])) :
    W p l e room_1 s m args below meth c H locs cells slots Q (F0 m pc ls [.int k, .ref b0]) := by
  obtain ⟨hx0, hb, hml0, hown, hts, hE, hbs⟩ := C
  obtain ⟨g1, g2, g3, g4⟩ := cell_w
  have hM := met_cell l (b := s.heap.size) (t := t) (ac := ac) (D := D) (h := h) (b0 := b0) (L := L) (xs := xs) hk (by omega) hL
  have hfix : CallFix p m c code 14 s args gw RL := ⟨hx0, hb, hml0, hown, hts⟩
  have hbA : ¬ (fun q : Nat => s.heap.size ≤ q) b0 := Nat.not_le.mpr hbl
  refine W_call (v := some (.int (celV xs L k))) (h1 := h) (va_runS (As := [.ref b0, .int k]) (rest := []) hfix hM (va_cwS 2 hts (gw_all (fun w hw => ?_)) rfl rfl rfl ⟨by decide +kernel, by decide +kernel, by decide +kernel⟩ (by decide)) ⟨PmC_blind, fun U hU hWm => ⟨rfl, by rw [hU]; exact hW, by rw [hU]; exact hS.1, by rw [hU]; exact ((hX.moved hWm.alike).kept (hS.2.1 b0 hbl hbA)), hbl⟩⟩ rfl rfl hls rfl (lv_room (by decide)) hd hcs) hS (fun H' locs' a1 a2 => kk _ H' locs' a1 a2)
  rcases List.mem_append.mp hw with hw | hw
  · simp only [List.mem_cons, List.not_mem_nil, or_false] at hw
    rcases hw with rfl | rfl | rfl
    · exact g1
    · exact g2
    · exact g4
  · rcases List.mem_cons.mp hw with rfl | hw
    · exact g3
    · exact hw
/-- a constructor, called out of the law -/
theorem L_init {i j q a n a1 b1 : Nat} {rest : List Value} (hl : (i, j, q) ∈ ltJ) (C : LC b t ac D p s m args c) (hd : decode code pc = .ok (.invokespecial i, 3)) (hx : exec n j 0 (pad j [.ref a]) [] h = some (none, h', a1, b1)) (hlen : 1 = mA j) (hml : mA j ≤ mL j) (hroom : mF j + 1 ≤ room_1.frames ∧ 8 + (mL j + 11) + mW j ≤ room_1.locals) (hls : ls.size = 14) (hrest : (rest.map fun v => v.category).sum ≤ 8) (hW : WH b t ac D h H) (hS : va_S (fun q => b ≤ q) s.heap H locs) (hhl : h.length + a1 ≤ sB) (hsz : s.heap.size + cells ≤ b + h.length) (hcs : cells + a1 ≤ room_1.cells ∧ slots + b1 ≤ room_1.slots)
    (k : ∀ (H' : Heap) (locs' : List Loc), WH b t ac D h' H' → va_S (fun q => b ≤ q) s.heap H' locs' → W p l e room_1 s m args below meth c H' locs' (cells + a1) (slots + b1) Q (F0 m (pc + 3) ls rest)) :
    W p l e room_1 s m args below meth c H locs cells slots Q (F0 m pc ls (.ref (ad b t a) :: rest)) := by
  obtain ⟨hx0, hb, hml0, hown, hts, hE, hbs⟩ := C
  obtain ⟨hj, hP0, hlink⟩ := ltJ_at hl
  have hM := met_of (snd l n) (b := b) (t := t) (ac := ac) (D := D) hj hx (show ([.ref a] : List Value).all cat1 = true from rfl) (by rw [List.length_singleton]; omega) hhl
  obtain ⟨w1, w2, w3, w4, w5, w6, -, w7, -⟩ := mrow_at hj
  obtain ⟨q1, q2, q4, q3⟩ := w7 hP0
  have hn : (parseMethodDescriptor (mN j).desc).map (fun d => d.parameters.length) = some 0 := desc_n (by rw [q3, ← hlen])
  have hwr : wsm j = Cond.code (mN j) (mB j) (mL j) none :: gw := by unfold wsm; rw [q4]
  have hfix : CallFix p m c code 14 s args gw RL := ⟨hx0, hb, hml0, hown, hts⟩
  intro T hT X0
  have hTs : H.size ≤ b + h.length := by
    have := X0.heapSize
    rw [hT] at this
    omega
  have hb2 : b ≤ H.size := Nat.le_trans hbs hS.1
  have hPm : ∀ U : State, U.heap = H → s.WarmedH U.vm → Pm b t ac D [.ref a] h ((([.ref a] : List Value).map (cv (ad b t))).toArray) U := fun U hU hWm => ⟨rfl, by rw [hU]; exact hW, hE.to hS hWm hU, by rw [hU]; exact hb2, by rw [hU]; exact hTs⟩
  exact W_call (v := none) (h1 := h') (va_runI (As := []) (rest := rest) (b := ad b t a) hfix hM (cwI 0 hts (gw_all (fun w hw => wsm_in hj w hw)) hwr rfl rfl (hts _ w1) (hts _ hlink) (hts _ q1) q2 ⟨w5, w6, hn⟩ hroom) ⟨Pm_blind, fun U hU hWm => hPm U hU hWm⟩ rfl rfl hls rfl (lv_room hrest) hd hcs) hS (fun H' locs' g1 g2 => k H' locs' g1 g2) T hT X0
/-- a new object, made by the law -/
theorem L_new {i ci q : Nat} {st : List Value} (hl : (i, ci, q) ∈ ltN) (C : LC b t ac D p s m args c) (hd : decode code pc = .ok (.new i, 3)) (hW : WH b t ac D h H) (hS : va_S (fun q => b ≤ q) s.heap H locs) (hlen : h.length < sB) (hsz : s.heap.size + cells ≤ b + h.length) (hcs : cells + 1 ≤ room_1.cells ∧ slots + fN ci ≤ room_1.slots)
    (k : ∀ H' : Heap, WH b t ac D (h ++ [.inl (ci, (List.range (fN ci)).map (fun k => dfl (fty ci k)))]) H' → va_S (fun q => b ≤ q) s.heap H' locs → W p l e room_1 s m args below meth c H' locs (cells + 1) (slots + fN ci) Q (F0 m (pc + 3) ls (.ref (ad b t h.length) :: st))) : W p l e room_1 s m args below meth c H locs cells slots Q (F0 m pc ls st) := by
  obtain ⟨hx0, hb, hml0, hown, hts, hE, hbs⟩ := C
  obtain ⟨h12, hlink⟩ := ltN_at hl
  have hA : ∀ q : Nat, s.heap.size ≤ q → b ≤ q := fun q hq => Nat.le_trans hbs hq
  have key : ∀ (q : Nat) (H1 : Heap), va_P D vwCl (wz (ad b t) ac h ++ [(q, ce (ad b t) ac (.inl (ci, (List.range (fN ci)).map (fun k => dfl (fty ci k)))))]) H1 → va_D (fun q => b ≤ q) (wz (ad b t) ac h ++ [(q, ce (ad b t) ac (.inl (ci, (List.range (fN ci)).map (fun k => dfl (fty ci k)))))]) → va_S (fun q => b ≤ q) s.heap H1 locs →
      W p l e room_1 s m args below meth c H1 locs (cells + 1) (slots + fN ci) Q (F0 m (pc + 3) ls (.ref q :: st)) := by
    intro q H1 hP1 hD1 hS1 T hT X0
    have hlw : (wz (ad b t) ac h).length = h.length := by simp [wz]
    have hlast : (wz (ad b t) ac h ++ [(q, ce (ad b t) ac (.inl (ci, (List.range (fN ci)).map (fun k => dfl (fty ci k)))))])[h.length]? = some (q, ce (ad b t) ac (.inl (ci, (List.range (fN ci)).map (fun k => dfl (fty ci k))))) := by
      rw [List.getElem?_append_right (by omega), hlw, Nat.sub_self]; rfl
    have h1 : q < H1.size := (hP1 _ _ hlast).lt
    have h2 : H1.size ≤ s.heap.size + (cells + 1) := by rw [← hT]; exact X0.heapSize
    have h3 : b ≤ q := hD1.2 _ _ hlast
    have h4 : ¬ q < b + h.length := by
      intro hq
      have hk : q - b < h.length := by omega
      have hat := wz_at (r := ad b t) (ac := ac) (h := h) (k := q - b) (x := h[q - b]) (List.getElem?_eq_getElem hk)
      have hat2 : (wz (ad b t) ac h ++ [(q, ce (ad b t) ac (.inl (ci, (List.range (fN ci)).map (fun k => dfl (fty ci k)))))])[q - b]? = some (ad b t (q - b), ce (ad b t) ac h[q - b]) := by
        rw [List.getElem?_append_left (by omega)]; exact hat
      have := hD1.1 _ _ _ _ hat2 hlast (by
        show ad b t (q - b) = q
        rw [ad_lt (by omega)]; omega)
      omega
    have hq : q = ad b t h.length := by rw [ad_lt hlen]; omega
    subst hq
    rw [← wz_push] at hP1
    exact k H1 hP1 hS1 T hT X0
  refine va_new (ci := ci) (fs := ((List.range (fN ci)).map (fun k => dfl (fty ci k))).map (cv (ad b t))) hx0 hb hts (cls_at h12).2.2 (fty ci) (fun k hk => fty_ok h12 hk) hown (hts _ hlink) (hts _ (cls_at h12).1) (hts _ (cls_at h12).2.1) hE.1 hW (wz_D (Nat.le_of_lt hlen)) hS hA (vw_at h12) (fun j hj => ?_) hcs.1 hcs.2 hd (fun q H1 hP1 hD1 hS1 => key q H1 hP1 hD1 hS1)
  have := of_decide_eq_true (List.all_eq_true.mp (List.all_eq_true.mp dfl_ok ci (List.mem_range.mpr h12)) j (List.mem_range.mpr hj))
  rw [this]
  simp [vp_V, hj, dfl_cv]
end LCALL


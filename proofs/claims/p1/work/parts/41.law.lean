/-! THE CLAIM OUT OF ONE WALK OF THE LAW'S BODY. Your part is whole_start (and what it stands on); all else here is the same for every law, but numbers. -/
def R_law : String := "TypedDescentLaw"
def lw_P (b : Addr) (xs : List Int32) (args : Array Value) (s : State) : Prop := args = #[.ref b] ∧ s.IntsAt b xs ∧ xs.length ≤ 6 ∧ (Jvm.Cond.and given_1 narrow_1).before args s = true
def lw_Q (_ : Array Value) (s : State) (o : Outcome) (t : State) : Prop := o = .returned (some (.int 1)) ∧ Framed s o t [] 600000 7302249
def lw_Z (below : List Frame) (a : Array Value) (s : State) : State → Prop := fun t => ∃ o, t.status = .running ∧ Ended t below o ∧ lw_Q a s o t
/-- the law's own end, with 1 on the stack, nothing written that was there before, its room as the claim has it -/
theorem lw_ret {p : Program} {l : Launch} {e : Env} {s : State} {m : MethodId} {below : List Frame} {meth : Method} {c : Code} {b : Nat} (hx : p.tables.exec = Jvm.exec) (hb : c.code = code) (hr : meth.sig.returnType = ret) (hlocks : meth.locks = false) {pc : Nat} {H : Heap} {ls : Array Slot} (hdg : decode code pc = .ok (.ireturn, 1)) : W p l e room_1 s m #[Value.ref b] below meth c H [] 600000 7302249 (lw_Z below #[Value.ref b] s) (F0 m pc ls [.int 1]) := by
  intro T hT X
  obtain ⟨fs, hret, hrun, hended, hW, hframe⟩ := X.leave (v := some (.int 1)) (hlocks := hlocks) (fun h => by rw [hr] at h; cases h)
  have hmeth' : T.vm.method? m = some meth := X.method'
  refine ⟨T.setFrames fs, ?_, .returned (some (.int 1)), hrun, hended, rfl, ⟨_, rfl⟩, hW, hframe⟩
  jvm_step X.here [X.here.top, hx, hb, hdg, hmeth', hr, ret, narrow_b1]
  (try refine ⟨rfl, ?_⟩); (try refine ⟨rfl, ?_⟩)
  first | (intro acts; rw [hret _ acts rfl rfl rfl]) | rw [hret _ _ rfl rfl rfl]
  exact Steps.refl _
/-- what holds at the law's entry: the machine, the code, the tables' words (any of lw_tbl by 'hts w (by decide +kernel)'), the script of L ints xs at the cell b, what the Statement gives of the start (any of its parts by flat_of_before) -/
def lw_At (p : Program) (s : State) (m : MethodId) (meth : Method) (c : Code) (b L : Nat) (xs : Nat → Int32) : Prop :=
  p.tables.exec = Jvm.exec ∧ c.code = code ∧ meth.sig.returnType = ret ∧ c.maxLocals = 4 ∧ s.vm.findClass R_law = some m.cls ∧ (∀ w ∈ lw_tbl, w.before #[Value.ref b] s = true) ∧ va_X b L xs s s.heap ∧ b < s.heap.size ∧ meth.locks = false ∧ (Jvm.Cond.and given_1 narrow_1).before #[Value.ref b] s = true

theorem dl_0 : decode code 0 = .ok (.new 7, 3) := by decide +kernel
theorem dl_3 : decode code 3 = .ok (.dup, 1) := by decide +kernel
theorem dl_4 : decode code 4 = .ok (.invokespecial 9, 3) := by decide +kernel
theorem dl_7 : decode code 7 = .ok (.astore_n 1, 1) := by decide +kernel
theorem dl_8 : decode code 8 = .ok (.new 10, 3) := by decide +kernel
theorem dl_11 : decode code 11 = .ok (.dup, 1) := by decide +kernel
theorem dl_12 : decode code 12 = .ok (.invokespecial 12, 3) := by decide +kernel
theorem dl_15 : decode code 15 = .ok (.astore_n 2, 1) := by decide +kernel
theorem dl_16 : decode code 16 = .ok (.iconst 0, 1) := by decide +kernel
theorem dl_17 : decode code 17 = .ok (.istore_n 3, 1) := by decide +kernel
theorem dl_18 : decode code 18 = .ok (.iload_n 3, 1) := by decide +kernel
theorem dl_19 : decode code 19 = .ok (.aload_n 0, 1) := by decide +kernel
theorem dl_20 : decode code 20 = .ok (.arraylength, 1) := by decide +kernel
theorem dl_21 : decode code 21 = .ok (.bipush 6, 2) := by decide +kernel
theorem dl_23 : decode code 23 = .ok (.isub, 1) := by decide +kernel
theorem dl_24 : decode code 24 = .ok (.if_icmp .gt 384, 3) := by decide +kernel
theorem dl_27 : decode code 27 = .ok (.aload_n 0, 1) := by decide +kernel
theorem dl_28 : decode code 28 = .ok (.iload_n 3, 1) := by decide +kernel
theorem dl_29 : decode code 29 = .ok (.iaload, 1) := by decide +kernel
theorem dl_30 : decode code 30 = .ok (.bipush 15, 2) := by decide +kernel
theorem dl_32 : decode code 32 = .ok (.iand, 1) := by decide +kernel
theorem dl_33 : decode code 33 = .ok (.tableswitch 369 0 11 #[63, 126, 149, 172, 185, 208, 231, 254, 287, 300, 323, 346], 63) := by decide +kernel
theorem dl_96 : decode code 96 = .ok (.aload_n 1, 1) := by decide +kernel
theorem dl_97 : decode code 97 = .ok (.aload_n 0, 1) := by decide +kernel
theorem dl_98 : decode code 98 = .ok (.iload_n 3, 1) := by decide +kernel
theorem dl_99 : decode code 99 = .ok (.iconst 1, 1) := by decide +kernel
theorem dl_100 : decode code 100 = .ok (.iadd, 1) := by decide +kernel
theorem dl_101 : decode code 101 = .ok (.iaload, 1) := by decide +kernel
theorem dl_102 : decode code 102 = .ok (.aload_n 0, 1) := by decide +kernel
theorem dl_103 : decode code 103 = .ok (.iload_n 3, 1) := by decide +kernel
theorem dl_104 : decode code 104 = .ok (.iconst 2, 1) := by decide +kernel
theorem dl_105 : decode code 105 = .ok (.iadd, 1) := by decide +kernel
theorem dl_106 : decode code 106 = .ok (.iaload, 1) := by decide +kernel
theorem dl_107 : decode code 107 = .ok (.aload_n 0, 1) := by decide +kernel
theorem dl_108 : decode code 108 = .ok (.iload_n 3, 1) := by decide +kernel
theorem dl_109 : decode code 109 = .ok (.iconst 3, 1) := by decide +kernel
theorem dl_110 : decode code 110 = .ok (.iadd, 1) := by decide +kernel
theorem dl_111 : decode code 111 = .ok (.iaload, 1) := by decide +kernel
theorem dl_112 : decode code 112 = .ok (.aload_n 0, 1) := by decide +kernel
theorem dl_113 : decode code 113 = .ok (.iload_n 3, 1) := by decide +kernel
theorem dl_114 : decode code 114 = .ok (.iconst 4, 1) := by decide +kernel
theorem dl_115 : decode code 115 = .ok (.iadd, 1) := by decide +kernel
theorem dl_116 : decode code 116 = .ok (.iaload, 1) := by decide +kernel
theorem dl_117 : decode code 117 = .ok (.aload_n 0, 1) := by decide +kernel
theorem dl_118 : decode code 118 = .ok (.iload_n 3, 1) := by decide +kernel
theorem dl_119 : decode code 119 = .ok (.iconst 5, 1) := by decide +kernel
theorem dl_120 : decode code 120 = .ok (.iadd, 1) := by decide +kernel
theorem dl_121 : decode code 121 = .ok (.iaload, 1) := by decide +kernel
theorem dl_122 : decode code 122 = .ok (.invokevirtual 13, 3) := by decide +kernel
theorem dl_125 : decode code 125 = .ok (.aload_n 2, 1) := by decide +kernel
theorem dl_126 : decode code 126 = .ok (.aload_n 0, 1) := by decide +kernel
theorem dl_127 : decode code 127 = .ok (.iload_n 3, 1) := by decide +kernel
theorem dl_128 : decode code 128 = .ok (.iconst 1, 1) := by decide +kernel
theorem dl_129 : decode code 129 = .ok (.iadd, 1) := by decide +kernel
theorem dl_130 : decode code 130 = .ok (.iaload, 1) := by decide +kernel
theorem dl_131 : decode code 131 = .ok (.aload_n 0, 1) := by decide +kernel
theorem dl_132 : decode code 132 = .ok (.iload_n 3, 1) := by decide +kernel
theorem dl_133 : decode code 133 = .ok (.iconst 2, 1) := by decide +kernel
theorem dl_134 : decode code 134 = .ok (.iadd, 1) := by decide +kernel
theorem dl_135 : decode code 135 = .ok (.iaload, 1) := by decide +kernel
theorem dl_136 : decode code 136 = .ok (.aload_n 0, 1) := by decide +kernel
theorem dl_137 : decode code 137 = .ok (.iload_n 3, 1) := by decide +kernel
theorem dl_138 : decode code 138 = .ok (.iconst 3, 1) := by decide +kernel
theorem dl_139 : decode code 139 = .ok (.iadd, 1) := by decide +kernel
theorem dl_140 : decode code 140 = .ok (.iaload, 1) := by decide +kernel
theorem dl_141 : decode code 141 = .ok (.aload_n 0, 1) := by decide +kernel
theorem dl_142 : decode code 142 = .ok (.iload_n 3, 1) := by decide +kernel
theorem dl_143 : decode code 143 = .ok (.iconst 4, 1) := by decide +kernel
theorem dl_144 : decode code 144 = .ok (.iadd, 1) := by decide +kernel
theorem dl_145 : decode code 145 = .ok (.iaload, 1) := by decide +kernel
theorem dl_146 : decode code 146 = .ok (.aload_n 0, 1) := by decide +kernel
theorem dl_147 : decode code 147 = .ok (.iload_n 3, 1) := by decide +kernel
theorem dl_148 : decode code 148 = .ok (.iconst 5, 1) := by decide +kernel
theorem dl_149 : decode code 149 = .ok (.iadd, 1) := by decide +kernel
theorem dl_150 : decode code 150 = .ok (.iaload, 1) := by decide +kernel
theorem dl_151 : decode code 151 = .ok (.invokevirtual 17, 3) := by decide +kernel
theorem dl_154 : decode code 154 = .ok (.if_icmp .eq 248, 3) := by decide +kernel
theorem dl_157 : decode code 157 = .ok (.iconst 0, 1) := by decide +kernel
theorem dl_158 : decode code 158 = .ok (.ireturn, 1) := by decide +kernel
theorem dl_159 : decode code 159 = .ok (.aload_n 1, 1) := by decide +kernel
theorem dl_160 : decode code 160 = .ok (.aload_n 0, 1) := by decide +kernel
theorem dl_161 : decode code 161 = .ok (.iload_n 3, 1) := by decide +kernel
theorem dl_162 : decode code 162 = .ok (.iconst 1, 1) := by decide +kernel
theorem dl_163 : decode code 163 = .ok (.iadd, 1) := by decide +kernel
theorem dl_164 : decode code 164 = .ok (.iaload, 1) := by decide +kernel
theorem dl_165 : decode code 165 = .ok (.invokevirtual 18, 3) := by decide +kernel
theorem dl_168 : decode code 168 = .ok (.aload_n 2, 1) := by decide +kernel
theorem dl_169 : decode code 169 = .ok (.aload_n 0, 1) := by decide +kernel
theorem dl_170 : decode code 170 = .ok (.iload_n 3, 1) := by decide +kernel
theorem dl_171 : decode code 171 = .ok (.iconst 1, 1) := by decide +kernel
theorem dl_172 : decode code 172 = .ok (.iadd, 1) := by decide +kernel
theorem dl_173 : decode code 173 = .ok (.iaload, 1) := by decide +kernel
theorem dl_174 : decode code 174 = .ok (.invokevirtual 22, 3) := by decide +kernel
theorem dl_177 : decode code 177 = .ok (.if_icmp .eq 225, 3) := by decide +kernel
theorem dl_180 : decode code 180 = .ok (.iconst 0, 1) := by decide +kernel
theorem dl_181 : decode code 181 = .ok (.ireturn, 1) := by decide +kernel
theorem dl_182 : decode code 182 = .ok (.aload_n 1, 1) := by decide +kernel
theorem dl_183 : decode code 183 = .ok (.aload_n 0, 1) := by decide +kernel
theorem dl_184 : decode code 184 = .ok (.iload_n 3, 1) := by decide +kernel
theorem dl_185 : decode code 185 = .ok (.iconst 1, 1) := by decide +kernel
theorem dl_186 : decode code 186 = .ok (.iadd, 1) := by decide +kernel
theorem dl_187 : decode code 187 = .ok (.iaload, 1) := by decide +kernel
theorem dl_188 : decode code 188 = .ok (.invokevirtual 23, 3) := by decide +kernel
theorem dl_191 : decode code 191 = .ok (.aload_n 2, 1) := by decide +kernel
theorem dl_192 : decode code 192 = .ok (.aload_n 0, 1) := by decide +kernel
theorem dl_193 : decode code 193 = .ok (.iload_n 3, 1) := by decide +kernel
theorem dl_194 : decode code 194 = .ok (.iconst 1, 1) := by decide +kernel
theorem dl_195 : decode code 195 = .ok (.iadd, 1) := by decide +kernel
theorem dl_196 : decode code 196 = .ok (.iaload, 1) := by decide +kernel
theorem dl_197 : decode code 197 = .ok (.invokevirtual 26, 3) := by decide +kernel
theorem dl_200 : decode code 200 = .ok (.if_icmp .eq 202, 3) := by decide +kernel
theorem dl_203 : decode code 203 = .ok (.iconst 0, 1) := by decide +kernel
theorem dl_204 : decode code 204 = .ok (.ireturn, 1) := by decide +kernel
theorem dl_205 : decode code 205 = .ok (.aload_n 1, 1) := by decide +kernel
theorem dl_206 : decode code 206 = .ok (.invokevirtual 27, 3) := by decide +kernel
theorem dl_209 : decode code 209 = .ok (.aload_n 2, 1) := by decide +kernel
theorem dl_210 : decode code 210 = .ok (.invokevirtual 31, 3) := by decide +kernel
theorem dl_213 : decode code 213 = .ok (.if_icmp .eq 189, 3) := by decide +kernel
theorem dl_216 : decode code 216 = .ok (.iconst 0, 1) := by decide +kernel
theorem dl_217 : decode code 217 = .ok (.ireturn, 1) := by decide +kernel
theorem dl_218 : decode code 218 = .ok (.aload_n 1, 1) := by decide +kernel
theorem dl_219 : decode code 219 = .ok (.aload_n 0, 1) := by decide +kernel
theorem dl_220 : decode code 220 = .ok (.iload_n 3, 1) := by decide +kernel
theorem dl_221 : decode code 221 = .ok (.iconst 1, 1) := by decide +kernel
theorem dl_222 : decode code 222 = .ok (.iadd, 1) := by decide +kernel
theorem dl_223 : decode code 223 = .ok (.iaload, 1) := by decide +kernel
theorem dl_224 : decode code 224 = .ok (.invokevirtual 32, 3) := by decide +kernel
theorem dl_227 : decode code 227 = .ok (.aload_n 2, 1) := by decide +kernel
theorem dl_228 : decode code 228 = .ok (.aload_n 0, 1) := by decide +kernel
theorem dl_229 : decode code 229 = .ok (.iload_n 3, 1) := by decide +kernel
theorem dl_230 : decode code 230 = .ok (.iconst 1, 1) := by decide +kernel
theorem dl_231 : decode code 231 = .ok (.iadd, 1) := by decide +kernel
theorem dl_232 : decode code 232 = .ok (.iaload, 1) := by decide +kernel
theorem dl_233 : decode code 233 = .ok (.invokevirtual 35, 3) := by decide +kernel
theorem dl_236 : decode code 236 = .ok (.if_icmp .eq 166, 3) := by decide +kernel
theorem dl_239 : decode code 239 = .ok (.iconst 0, 1) := by decide +kernel
theorem dl_240 : decode code 240 = .ok (.ireturn, 1) := by decide +kernel
theorem dl_241 : decode code 241 = .ok (.aload_n 1, 1) := by decide +kernel
theorem dl_242 : decode code 242 = .ok (.aload_n 0, 1) := by decide +kernel
theorem dl_243 : decode code 243 = .ok (.iload_n 3, 1) := by decide +kernel
theorem dl_244 : decode code 244 = .ok (.iconst 1, 1) := by decide +kernel
theorem dl_245 : decode code 245 = .ok (.iadd, 1) := by decide +kernel
theorem dl_246 : decode code 246 = .ok (.iaload, 1) := by decide +kernel
theorem dl_247 : decode code 247 = .ok (.invokevirtual 36, 3) := by decide +kernel
theorem dl_250 : decode code 250 = .ok (.aload_n 2, 1) := by decide +kernel
theorem dl_251 : decode code 251 = .ok (.aload_n 0, 1) := by decide +kernel
theorem dl_252 : decode code 252 = .ok (.iload_n 3, 1) := by decide +kernel
theorem dl_253 : decode code 253 = .ok (.iconst 1, 1) := by decide +kernel
theorem dl_254 : decode code 254 = .ok (.iadd, 1) := by decide +kernel
theorem dl_255 : decode code 255 = .ok (.iaload, 1) := by decide +kernel
theorem dl_256 : decode code 256 = .ok (.invokevirtual 39, 3) := by decide +kernel
theorem dl_259 : decode code 259 = .ok (.if_icmp .eq 143, 3) := by decide +kernel
theorem dl_262 : decode code 262 = .ok (.iconst 0, 1) := by decide +kernel
theorem dl_263 : decode code 263 = .ok (.ireturn, 1) := by decide +kernel
theorem dl_264 : decode code 264 = .ok (.aload_n 1, 1) := by decide +kernel
theorem dl_265 : decode code 265 = .ok (.aload_n 0, 1) := by decide +kernel
theorem dl_266 : decode code 266 = .ok (.iload_n 3, 1) := by decide +kernel
theorem dl_267 : decode code 267 = .ok (.iconst 1, 1) := by decide +kernel
theorem dl_268 : decode code 268 = .ok (.iadd, 1) := by decide +kernel
theorem dl_269 : decode code 269 = .ok (.iaload, 1) := by decide +kernel
theorem dl_270 : decode code 270 = .ok (.invokevirtual 40, 3) := by decide +kernel
theorem dl_273 : decode code 273 = .ok (.aload_n 2, 1) := by decide +kernel
theorem dl_274 : decode code 274 = .ok (.aload_n 0, 1) := by decide +kernel
theorem dl_275 : decode code 275 = .ok (.iload_n 3, 1) := by decide +kernel
theorem dl_276 : decode code 276 = .ok (.iconst 1, 1) := by decide +kernel
theorem dl_277 : decode code 277 = .ok (.iadd, 1) := by decide +kernel
theorem dl_278 : decode code 278 = .ok (.iaload, 1) := by decide +kernel
theorem dl_279 : decode code 279 = .ok (.invokevirtual 43, 3) := by decide +kernel
theorem dl_282 : decode code 282 = .ok (.if_icmp .eq 120, 3) := by decide +kernel
theorem dl_285 : decode code 285 = .ok (.iconst 0, 1) := by decide +kernel
theorem dl_286 : decode code 286 = .ok (.ireturn, 1) := by decide +kernel
theorem dl_287 : decode code 287 = .ok (.aload_n 1, 1) := by decide +kernel
theorem dl_288 : decode code 288 = .ok (.aload_n 0, 1) := by decide +kernel
theorem dl_289 : decode code 289 = .ok (.iload_n 3, 1) := by decide +kernel
theorem dl_290 : decode code 290 = .ok (.iconst 1, 1) := by decide +kernel
theorem dl_291 : decode code 291 = .ok (.iadd, 1) := by decide +kernel
theorem dl_292 : decode code 292 = .ok (.iaload, 1) := by decide +kernel
theorem dl_293 : decode code 293 = .ok (.aload_n 0, 1) := by decide +kernel
theorem dl_294 : decode code 294 = .ok (.iload_n 3, 1) := by decide +kernel
theorem dl_295 : decode code 295 = .ok (.iconst 2, 1) := by decide +kernel
theorem dl_296 : decode code 296 = .ok (.iadd, 1) := by decide +kernel
theorem dl_297 : decode code 297 = .ok (.iaload, 1) := by decide +kernel
theorem dl_298 : decode code 298 = .ok (.invokevirtual 44, 3) := by decide +kernel
theorem dl_301 : decode code 301 = .ok (.aload_n 2, 1) := by decide +kernel
theorem dl_302 : decode code 302 = .ok (.aload_n 0, 1) := by decide +kernel
theorem dl_303 : decode code 303 = .ok (.iload_n 3, 1) := by decide +kernel
theorem dl_304 : decode code 304 = .ok (.iconst 1, 1) := by decide +kernel
theorem dl_305 : decode code 305 = .ok (.iadd, 1) := by decide +kernel
theorem dl_306 : decode code 306 = .ok (.iaload, 1) := by decide +kernel
theorem dl_307 : decode code 307 = .ok (.aload_n 0, 1) := by decide +kernel
theorem dl_308 : decode code 308 = .ok (.iload_n 3, 1) := by decide +kernel
theorem dl_309 : decode code 309 = .ok (.iconst 2, 1) := by decide +kernel
theorem dl_310 : decode code 310 = .ok (.iadd, 1) := by decide +kernel
theorem dl_311 : decode code 311 = .ok (.iaload, 1) := by decide +kernel
theorem dl_312 : decode code 312 = .ok (.invokevirtual 48, 3) := by decide +kernel
theorem dl_315 : decode code 315 = .ok (.if_icmp .eq 87, 3) := by decide +kernel
theorem dl_318 : decode code 318 = .ok (.iconst 0, 1) := by decide +kernel
theorem dl_319 : decode code 319 = .ok (.ireturn, 1) := by decide +kernel
theorem dl_320 : decode code 320 = .ok (.aload_n 1, 1) := by decide +kernel
theorem dl_321 : decode code 321 = .ok (.invokevirtual 49, 3) := by decide +kernel
theorem dl_324 : decode code 324 = .ok (.aload_n 2, 1) := by decide +kernel
theorem dl_325 : decode code 325 = .ok (.invokevirtual 52, 3) := by decide +kernel
theorem dl_328 : decode code 328 = .ok (.if_icmp .eq 74, 3) := by decide +kernel
theorem dl_331 : decode code 331 = .ok (.iconst 0, 1) := by decide +kernel
theorem dl_332 : decode code 332 = .ok (.ireturn, 1) := by decide +kernel
theorem dl_333 : decode code 333 = .ok (.aload_n 1, 1) := by decide +kernel
theorem dl_334 : decode code 334 = .ok (.aload_n 0, 1) := by decide +kernel
theorem dl_335 : decode code 335 = .ok (.iload_n 3, 1) := by decide +kernel
theorem dl_336 : decode code 336 = .ok (.iconst 1, 1) := by decide +kernel
theorem dl_337 : decode code 337 = .ok (.iadd, 1) := by decide +kernel
theorem dl_338 : decode code 338 = .ok (.iaload, 1) := by decide +kernel
theorem dl_339 : decode code 339 = .ok (.invokevirtual 53, 3) := by decide +kernel
theorem dl_342 : decode code 342 = .ok (.aload_n 2, 1) := by decide +kernel
theorem dl_343 : decode code 343 = .ok (.aload_n 0, 1) := by decide +kernel
theorem dl_344 : decode code 344 = .ok (.iload_n 3, 1) := by decide +kernel
theorem dl_345 : decode code 345 = .ok (.iconst 1, 1) := by decide +kernel
theorem dl_346 : decode code 346 = .ok (.iadd, 1) := by decide +kernel
theorem dl_347 : decode code 347 = .ok (.iaload, 1) := by decide +kernel
theorem dl_348 : decode code 348 = .ok (.invokevirtual 56, 3) := by decide +kernel
theorem dl_351 : decode code 351 = .ok (.if_icmp .eq 51, 3) := by decide +kernel
theorem dl_354 : decode code 354 = .ok (.iconst 0, 1) := by decide +kernel
theorem dl_355 : decode code 355 = .ok (.ireturn, 1) := by decide +kernel
theorem dl_356 : decode code 356 = .ok (.aload_n 1, 1) := by decide +kernel
theorem dl_357 : decode code 357 = .ok (.aload_n 0, 1) := by decide +kernel
theorem dl_358 : decode code 358 = .ok (.iload_n 3, 1) := by decide +kernel
theorem dl_359 : decode code 359 = .ok (.iconst 1, 1) := by decide +kernel
theorem dl_360 : decode code 360 = .ok (.iadd, 1) := by decide +kernel
theorem dl_361 : decode code 361 = .ok (.iaload, 1) := by decide +kernel
theorem dl_362 : decode code 362 = .ok (.invokevirtual 57, 3) := by decide +kernel
theorem dl_365 : decode code 365 = .ok (.aload_n 2, 1) := by decide +kernel
theorem dl_366 : decode code 366 = .ok (.aload_n 0, 1) := by decide +kernel
theorem dl_367 : decode code 367 = .ok (.iload_n 3, 1) := by decide +kernel
theorem dl_368 : decode code 368 = .ok (.iconst 1, 1) := by decide +kernel
theorem dl_369 : decode code 369 = .ok (.iadd, 1) := by decide +kernel
theorem dl_370 : decode code 370 = .ok (.iaload, 1) := by decide +kernel
theorem dl_371 : decode code 371 = .ok (.invokevirtual 60, 3) := by decide +kernel
theorem dl_374 : decode code 374 = .ok (.if_icmp .eq 28, 3) := by decide +kernel
theorem dl_377 : decode code 377 = .ok (.iconst 0, 1) := by decide +kernel
theorem dl_378 : decode code 378 = .ok (.ireturn, 1) := by decide +kernel
theorem dl_379 : decode code 379 = .ok (.aload_n 1, 1) := by decide +kernel
theorem dl_380 : decode code 380 = .ok (.aload_n 0, 1) := by decide +kernel
theorem dl_381 : decode code 381 = .ok (.iload_n 3, 1) := by decide +kernel
theorem dl_382 : decode code 382 = .ok (.iconst 1, 1) := by decide +kernel
theorem dl_383 : decode code 383 = .ok (.iadd, 1) := by decide +kernel
theorem dl_384 : decode code 384 = .ok (.iaload, 1) := by decide +kernel
theorem dl_385 : decode code 385 = .ok (.invokevirtual 61, 3) := by decide +kernel
theorem dl_388 : decode code 388 = .ok (.aload_n 2, 1) := by decide +kernel
theorem dl_389 : decode code 389 = .ok (.aload_n 0, 1) := by decide +kernel
theorem dl_390 : decode code 390 = .ok (.iload_n 3, 1) := by decide +kernel
theorem dl_391 : decode code 391 = .ok (.iconst 1, 1) := by decide +kernel
theorem dl_392 : decode code 392 = .ok (.iadd, 1) := by decide +kernel
theorem dl_393 : decode code 393 = .ok (.iaload, 1) := by decide +kernel
theorem dl_394 : decode code 394 = .ok (.invokevirtual 64, 3) := by decide +kernel
theorem dl_397 : decode code 397 = .ok (.if_icmp .eq 5, 3) := by decide +kernel
theorem dl_400 : decode code 400 = .ok (.iconst 0, 1) := by decide +kernel
theorem dl_401 : decode code 401 = .ok (.ireturn, 1) := by decide +kernel
theorem dl_402 : decode code 402 = .ok (.iinc 3 6, 3) := by decide +kernel
theorem dl_405 : decode code 405 = .ok (.goto (-387), 3) := by decide +kernel
theorem dl_408 : decode code 408 = .ok (.iconst 1, 1) := by decide +kernel
theorem dl_409 : decode code 409 = .ok (.ireturn, 1) := by decide +kernel
def lwT : List (Nat × Nat × Nat × Nat × Nat × Nat × Nat) := [(25, 13, 2024, 2025, 2026, 5, 0), (315, 17, 9051, 9052, 9053, 5, 12), (27, 18, 2032, 2033, 2034, 1, 0), (317, 22, 9059, 9060, 9061, 1, 12), (176, 23, 4196, 4197, 4198, 1, 0), (398, 26, 10146, 10147, 10148, 1, 12), (250, 27, 6054, 6055, 6056, 0, 0), (460, 31, 11155, 11156, 11157, 0, 12), (252, 32, 6062, 6063, 6064, 1, 0), (391, 35, 10118, 10119, 10120, 1, 12), (254, 36, 6070, 6071, 6072, 1, 0), (443, 39, 11086, 11087, 11088, 1, 12), (256, 40, 6078, 6079, 6080, 1, 0), (444, 43, 11090, 11091, 11092, 1, 12), (257, 44, 6083, 6084, 6085, 2, 0), (445, 48, 11094, 11095, 11096, 2, 12), (300, 49, 7029, 7030, 7031, 0, 0), (461, 52, 11159, 11160, 11161, 0, 12), (302, 53, 7038, 7039, 7040, 1, 0), (462, 56, 11163, 11164, 11165, 1, 12), (312, 57, 7078, 7079, 7080, 1, 0), (463, 60, 11167, 11168, 11169, 1, 12), (313, 61, 7082, 7083, 7084, 1, 0), (464, 64, 11171, 11172, 11173, 1, 12)]
def lwK (e : Nat × Nat × Nat × Nat × Nat × Nat × Nat) : Bool := match xMf e.1 with
  | none => false
  | some M => xis e.2.2.1 (.methodLink R_law e.2.1 (xy M)) && xis e.2.2.2.1 (.instanceMethod (xy M)) && xis e.2.2.2.2.1 (.selects (xy M).cls (xy M) (xy M)) && decide (xa M = e.2.2.2.2.2.1) && decide (xo M = e.2.2.2.2.2.2) && decide (xmc M = 0) && decide (xms M = 0) && decide (e.2.2.2.2.2.1 + 1 ≤ xn M)
theorem lwT_ok : lwT.all lwK = true := by decide +kernel
def xbr (b : Bool) (f d j : Nat) (hp : List x_E) (avs : List Value) : Option (Option Value × List x_E) := match xMf j with
  | none => none
  | some M => brun xZ (xY (xfm b)) f d M 0 (lv_args 0 avs) [] hp 0 0
theorem xTs_sub {w : Cond} (h : w ∈ xTs) : w ∈ lw_tbl := (List.mem_filter.mp h).1
theorem xfm_ok (b : Bool) : xfm b = .null ∨ xfm b = .ref 2000000 := by cases b <;> first | exact Or.inl rfl | exact Or.inr rfl
/-- what the law's walk stands on -/
def lwC (p : Program) (s : State) (m : MethodId) (c : Code) (args : Array Value) (D : va_G) (cA : Nat → ClassId) (b : Bool) (ρ0 : Nat → Nat) : Prop :=
  p.tables.exec = Jvm.exec ∧ c.code = code ∧ c.maxLocals = 4 ∧ s.vm.findClass R_law = some m.cls ∧ (∀ w ∈ lw_tbl, w.before args s = true) ∧ va_K D xcl (x_tys cA) s ∧ xEnv xZ (xY (xfm b)) ρ0 (fun q => s.heap.size ≤ q) s s.heap
/-- the world of the law's walk -/
def lwW (s : State) (D : va_G) (cA : Nat → ClassId) (ρ0 ρ : Nat → Nat) (hp : List x_E) (H : Heap) (locs : List Loc) : Prop :=
  va_P D xcl (xw ρ cA hp) H ∧ va_D (fun q => s.heap.size ≤ q) (xw ρ cA hp) ∧ va_S (fun q => s.heap.size ≤ q) s.heap H locs ∧ ∀ i, 1000000 ≤ i → ρ i = ρ0 i
theorem xsl_len (v : Nat) (as : List Int32) : (lg_sl (.ref v :: as.map Value.int)).length = as.length + 1 := by
  have : ∀ as : List Int32, (lg_sl (as.map Value.int)).length = as.length := by
    intro as
    induction as with
    | nil => rfl
    | cons a r ih => simp only [lg_sl, List.map_cons, List.flatMap_cons, List.length_append] at ih ⊢; rw [ih]; simp [Value.category]; omega
  have h := this as
  simp only [lg_sl, List.flatMap_cons, List.length_append] at h ⊢
  rw [h]
  simp [Value.category]
  omega
theorem xall_range {α : Type} (l : List α) : (List.range l.length).map (fun i => l[i]?) = l.map some := by
  apply List.ext_getElem?
  intro q
  rw [List.getElem?_map, List.getElem?_map]
  by_cases hq : q < l.length
  · rw [List.getElem?_range hq]
    simp [hq]
  · rw [List.getElem?_eq_none (by simpa using hq), List.getElem?_eq_none (by simpa using hq)]
    rfl
section LW
variable {p : Program} {l : Launch} {e : Env} {s : State} {m : MethodId} {args : Array Value} {below : List Frame} {meth : Method} {c : Code} {H : Heap} {locs : List Loc} {cells slots : Nat} {Q : State → Prop}
set_option maxHeartbeats 4000000 in
/-- a call from the law -/
theorem lw_v {D : va_G} {cA : Nat → ClassId} {b : Bool} {ρ0 ρ : Nat → Nat} {hp hp1 : List x_E} (C : lwC p s m c args D cA b ρ0) (hw : lwW s D cA ρ0 ρ hp H locs) {ls : Array Slot} {pc f d v : Nat} {as : List Int32} {r : Int32} {rest : List Value} (hls : ls.size = 4) (k : Nat) {j idx i1 i2 i3 na own : Nat} (hk : lwT[k]? = some (j, idx, i1, i2, i3, na, own)) (hna : as.length = na) (hd : d ≤ 1000) (hrun : xbr b f d j hp (.ref v :: as.map .int) = some (some (.int r), hp1)) {fs : List Value} (hv : hp[v]? = some (.inr (own, fs))) (hcells : cells ≤ 600000) (hslots : slots ≤ 7302249) (hcat : (rest.map fun v => v.category).sum ≤ 8) (hdg : decode code pc = .ok (.invokevirtual idx, 3))
    (kk : ∀ (ρ1 : Nat → Nat) (H1 : Heap) (locs1 : List Loc), (∀ i, i < hp.length → ρ1 i = ρ i) → lwW s D cA ρ0 ρ1 hp1 H1 locs1 → W p l e room_1 s m args below meth c H1 locs1 cells slots Q (F0 m (pc + 3) ls (.int r :: rest))) : W p l e room_1 s m args below meth c H locs cells slots Q (F0 m pc ls ((as.map Value.int).reverse ++ .ref (ρ v) :: rest)) := by
  obtain ⟨hx, hb, hml, hown, hts, hK, hE⟩ := C
  obtain ⟨hP, hD, hS, hag⟩ := hw
  have hc := List.all_eq_true.mp lwT_ok _ (List.mem_of_getElem? hk)
  unfold lwK at hc
  unfold xbr at hrun
  cases hj : xMf j with
  | none => rw [hj] at hrun; cases hrun
  | some M =>
    rw [hj] at hrun
    dsimp only at hc hrun
    rw [hj] at hc
    simp only [Bool.and_eq_true, decide_eq_true_eq] at hc
    obtain ⟨⟨⟨⟨⟨⟨⟨g1, g2⟩, g3⟩, g4⟩, g5⟩, g6⟩, g7⟩, g8⟩ := hc
    have hZ := xZ_ok (xfm_ok b)
    obtain ⟨c1, c2, c3, c4, c5, c6⟩ := hZ.2.2.2.2.2.1 j M hj
    have hMet : xMet xZ (xY (xfm b)) xTs l D cA d M hp (.ref v :: as.map .int) (some (.int r)) hp1 := xMet_of hZ (xWst_all hZ l D cA f) hj hrun (by rw [xsl_len, hna]; exact g8)
    have hG : GoodIn lw_tbl (Cond.code (xy M) (xb M) (xn M) (xr M) :: xTs) := fun w hw => by
      rcases List.mem_cons.mp hw with rfl | h
      · exact ⟨xTs_sub c1, good_of_word (List.mem_filter.mp c1).2⟩
      · exact ⟨xTs_sub h, good_of_word (List.mem_filter.mp h).2⟩
    have hA : ∀ q : Nat, s.heap.size ≤ q → (fun q : Nat => s.heap.size ≤ q) q := fun _ h => h
    have hFc := va_free (wc := xw ρ cA hp) hD hS hA (List.range (xw ρ cA hp).length) (xall_range _)
    have hR : (xrm d (xmc M) (xms M)).frames + 1 ≤ room_1.frames ∧ 8 + (xn M + 11) + (xrm d (xmc M) (xms M)).locals ≤ room_1.locals := ⟨by show d + 1 ≤ 2048; omega, by show 8 + (xn M + 11) + 64 * d ≤ 84000; omega⟩
    have hmap : (as.map Value.int).map (xv ρ) = as.map Value.int := by
      rw [List.map_map]
      rfl
    have he : (xw ρ cA hp)[v]? = some (ρ v, .inr (xo M, fs.map (xv ρ))) := by rw [xw_get, hv, g5]; rfl
    obtain ⟨q, hq, -⟩ := hP v _ he
    have hrec := va_recv hK hP hq he
    have hNm := hZ.2.2.2.2.2.2.2.2.2.2.2.2.1 (xo M) q hq
    rw [hNm] at hrec
    have c4' : (xy M).cls = xnmF (xo M) := c4
    have hrec' : ∃ cell : Cell, H[ρ v]? = some cell ∧ cell.vm.isStatics = false ∧ s.vm.findClass (xy M).cls = some cell.cls := by rw [c4']; exact hrec
    have hpre : ∀ U : State, U.heap = H → s.WarmedH U.vm → xPc xZ (xY (xfm b)) D xcl cA ρ hp (.ref v :: as.map .int) H.size (Value.ref (ρ v) :: as.map Value.int).toArray U := fun U hU hW => ⟨by rw [List.map_cons, hmap]; rfl, by rw [hU], by rw [hU]; exact hP, va_K.moved hW.alike hK, hD.weaken (fun _ _ _ _ => trivial), xEnv_go (fun o idx g hg => (hZ.2.2.2.2.2.2.2.2.2.2.2.2.2.2 o idx g hg).2) hE hS hFc hag hW hU⟩
    have hrn := va_runV (e := e) (below := below) (meth := meth) (locs := locs) (cells := cells) (slots := slots) (g := F0 m pc ls ((as.map Value.int).reverse ++ .ref (ρ v) :: rest)) (rest := rest) (C := (xy M).cls) (b := ρ v) (As := as.map Value.int) (R := room_1) (nL := 4) ⟨hx, hb, hml, hown, hts⟩ (hMet ρ H.size) ⟨callB_of (xa M) hts hG rfl rfl rfl (hts _ (xTs_sub c2)) (hts _ (xTs_sub (xis_mem g1))) c5 hR, hts _ (xTs_sub (xis_mem g2)), hts _ (xTs_sub (xis_mem g3))⟩ ⟨xBlind, hrec', hpre⟩ rfl (by rw [List.length_map, hna, g4]) hls rfl (lv_room hcat) hdg ⟨by rw [g6]; exact hcells, by rw [g7]; exact hslots⟩
    refine x_call hrn hS (fun q _ z => hFc q z) hFc (fun ρ1 t H1 locs1 ht hvm hag1 hP1 hK1 hD1 hS1 => ?_)
    rw [g6, g7]
    exact kk ρ1 H1 locs1 (fun i hi => hag1 i (Or.inl hi)) ⟨by rw [← ht]; exact hP1, hD1.weaken (fun _ q _ z => hFc q.1 z), hS1, fun i hi => (hag1 i (Or.inr hi)).trans (hag i hi)⟩
end LW

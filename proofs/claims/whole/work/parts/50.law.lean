/-! THE CLAIM OUT OF ONE WALK OF THE LAW'S BODY. Your part is whole_start (and what it stands on); all else here is the same for every law, but numbers. -/
def R_law : String := "MappedProcessorLaw"
def lw_P (b : Addr) (xs : List Int32) (args : Array Value) (s : State) : Prop := args = #[.ref b] ∧ s.IntsAt b xs ∧ xs.length ≤ 1536 ∧ (Jvm.Cond.and given_1 narrow_1).before args s = true
def lw_Q (_ : Array Value) (s : State) (o : Outcome) (t : State) : Prop := o = .returned (some (.int 1)) ∧ Framed s o t [] 18 32994
def lw_Z (below : List Frame) (a : Array Value) (s : State) : State → Prop := fun t => ∃ o, t.status = .running ∧ Ended t below o ∧ lw_Q a s o t
/-- the law's own end, with 1 on the stack, nothing written that was there before, its room as the claim has it -/
theorem lw_ret {p : Program} {l : Launch} {e : Env} {s : State} {m : MethodId} {below : List Frame} {meth : Method} {c : Code} {b : Nat} (hx : p.tables.exec = Jvm.exec) (hb : c.code = code) (hr : meth.sig.returnType = ret) (hlocks : meth.locks = false) {pc : Nat} {H : Heap} {ls : Array Slot} (hdg : decode code pc = .ok (.ireturn, 1)) : W p l e room_1 s m #[Value.ref b] below meth c H [] 18 32994 (lw_Z below #[Value.ref b] s) (F0 m pc ls [.int 1]) := by
  intro T hT X
  obtain ⟨fs, hret, hrun, hended, hW, hframe⟩ := X.leave (v := some (.int 1)) (hlocks := hlocks) (fun h => by rw [hr] at h; cases h)
  have hmeth' : T.vm.method? m = some meth := X.method'
  refine ⟨T.setFrames fs, ?_, .returned (some (.int 1)), hrun, hended, rfl, ⟨_, rfl⟩, hW, hframe⟩
  jvm_step X.here [X.here.top, hx, hb, hdg, hmeth', hr, ret, narrow_b1]
  (try refine ⟨rfl, ?_⟩); (try refine ⟨rfl, ?_⟩)
  first | (intro acts; rw [hret _ acts rfl rfl rfl]) | rw [hret _ _ rfl rfl rfl]
  exact Steps.refl _
/-- what holds at the law's entry: the machine, the code, the tables' words (any of lw_tbl by 'hts w (by decide +kernel)'), the script of L ints xs at the cell b, what the Statement gives of the start (any of its parts by flat_of_before) -/
def lw_At (p : Program) (s : State) (m : MethodId) (meth : Method) (c : Code) (b L : Nat) (xs : Nat → Int32) : Prop :=
  p.tables.exec = Jvm.exec ∧ c.code = code ∧ meth.sig.returnType = ret ∧ c.maxLocals = 4 ∧ s.vm.findClass R_law = some m.cls ∧ (∀ w ∈ lw_tbl, w.before #[Value.ref b] s = true) ∧ va_X b L xs s s.heap ∧ b < s.heap.size ∧ meth.locks = false ∧ (Jvm.Cond.and given_1 narrow_1).before #[Value.ref b] s = true
theorem d_law_0 : decode code 0 = .ok (.new 7, 3) := by decide +kernel
theorem d_law_3 : decode code 3 = .ok (.dup, 1) := by decide +kernel
theorem d_law_4 : decode code 4 = .ok (.invokespecial 9, 3) := by decide +kernel
theorem d_law_7 : decode code 7 = .ok (.astore_n 1, 1) := by decide +kernel
theorem d_law_8 : decode code 8 = .ok (.new 10, 3) := by decide +kernel
theorem d_law_11 : decode code 11 = .ok (.dup, 1) := by decide +kernel
theorem d_law_12 : decode code 12 = .ok (.invokespecial 12, 3) := by decide +kernel
theorem d_law_15 : decode code 15 = .ok (.astore_n 2, 1) := by decide +kernel
theorem d_law_16 : decode code 16 = .ok (.iconst 0, 1) := by decide +kernel
theorem d_law_17 : decode code 17 = .ok (.istore_n 3, 1) := by decide +kernel
theorem d_law_18 : decode code 18 = .ok (.iload_n 3, 1) := by decide +kernel
theorem d_law_19 : decode code 19 = .ok (.aload_n 0, 1) := by decide +kernel
theorem d_law_20 : decode code 20 = .ok (.arraylength, 1) := by decide +kernel
theorem d_law_21 : decode code 21 = .ok (.iconst 3, 1) := by decide +kernel
theorem d_law_22 : decode code 22 = .ok (.isub, 1) := by decide +kernel
theorem d_law_23 : decode code 23 = .ok (.if_icmp .gt 321, 3) := by decide +kernel
theorem d_law_26 : decode code 26 = .ok (.aload_n 0, 1) := by decide +kernel
theorem d_law_27 : decode code 27 = .ok (.iload_n 3, 1) := by decide +kernel
theorem d_law_28 : decode code 28 = .ok (.iaload, 1) := by decide +kernel
theorem d_law_29 : decode code 29 = .ok (.bipush 15, 2) := by decide +kernel
theorem d_law_31 : decode code 31 = .ok (.iand, 1) := by decide +kernel
theorem d_law_32 : decode code 32 = .ok (.tableswitch 306 0 9 #[56, 89, 112, 145, 168, 201, 224, 247, 280, 293], 56) := by decide +kernel
theorem d_law_88 : decode code 88 = .ok (.aload_n 1, 1) := by decide +kernel
theorem d_law_89 : decode code 89 = .ok (.aload_n 0, 1) := by decide +kernel
theorem d_law_90 : decode code 90 = .ok (.iload_n 3, 1) := by decide +kernel
theorem d_law_91 : decode code 91 = .ok (.iconst 1, 1) := by decide +kernel
theorem d_law_92 : decode code 92 = .ok (.iadd, 1) := by decide +kernel
theorem d_law_93 : decode code 93 = .ok (.iaload, 1) := by decide +kernel
theorem d_law_94 : decode code 94 = .ok (.aload_n 0, 1) := by decide +kernel
theorem d_law_95 : decode code 95 = .ok (.iload_n 3, 1) := by decide +kernel
theorem d_law_96 : decode code 96 = .ok (.iconst 2, 1) := by decide +kernel
theorem d_law_97 : decode code 97 = .ok (.iadd, 1) := by decide +kernel
theorem d_law_98 : decode code 98 = .ok (.iaload, 1) := by decide +kernel
theorem d_law_99 : decode code 99 = .ok (.invokevirtual 13, 3) := by decide +kernel
theorem d_law_102 : decode code 102 = .ok (.aload_n 2, 1) := by decide +kernel
theorem d_law_103 : decode code 103 = .ok (.aload_n 0, 1) := by decide +kernel
theorem d_law_104 : decode code 104 = .ok (.iload_n 3, 1) := by decide +kernel
theorem d_law_105 : decode code 105 = .ok (.iconst 1, 1) := by decide +kernel
theorem d_law_106 : decode code 106 = .ok (.iadd, 1) := by decide +kernel
theorem d_law_107 : decode code 107 = .ok (.iaload, 1) := by decide +kernel
theorem d_law_108 : decode code 108 = .ok (.aload_n 0, 1) := by decide +kernel
theorem d_law_109 : decode code 109 = .ok (.iload_n 3, 1) := by decide +kernel
theorem d_law_110 : decode code 110 = .ok (.iconst 2, 1) := by decide +kernel
theorem d_law_111 : decode code 111 = .ok (.iadd, 1) := by decide +kernel
theorem d_law_112 : decode code 112 = .ok (.iaload, 1) := by decide +kernel
theorem d_law_113 : decode code 113 = .ok (.invokevirtual 17, 3) := by decide +kernel
theorem d_law_116 : decode code 116 = .ok (.if_icmp .eq 222, 3) := by decide +kernel
theorem d_law_119 : decode code 119 = .ok (.iconst 0, 1) := by decide +kernel
theorem d_law_120 : decode code 120 = .ok (.ireturn, 1) := by decide +kernel
theorem d_law_121 : decode code 121 = .ok (.aload_n 1, 1) := by decide +kernel
theorem d_law_122 : decode code 122 = .ok (.aload_n 0, 1) := by decide +kernel
theorem d_law_123 : decode code 123 = .ok (.iload_n 3, 1) := by decide +kernel
theorem d_law_124 : decode code 124 = .ok (.iconst 1, 1) := by decide +kernel
theorem d_law_125 : decode code 125 = .ok (.iadd, 1) := by decide +kernel
theorem d_law_126 : decode code 126 = .ok (.iaload, 1) := by decide +kernel
theorem d_law_127 : decode code 127 = .ok (.invokevirtual 18, 3) := by decide +kernel
theorem d_law_130 : decode code 130 = .ok (.aload_n 2, 1) := by decide +kernel
theorem d_law_131 : decode code 131 = .ok (.aload_n 0, 1) := by decide +kernel
theorem d_law_132 : decode code 132 = .ok (.iload_n 3, 1) := by decide +kernel
theorem d_law_133 : decode code 133 = .ok (.iconst 1, 1) := by decide +kernel
theorem d_law_134 : decode code 134 = .ok (.iadd, 1) := by decide +kernel
theorem d_law_135 : decode code 135 = .ok (.iaload, 1) := by decide +kernel
theorem d_law_136 : decode code 136 = .ok (.invokevirtual 22, 3) := by decide +kernel
theorem d_law_139 : decode code 139 = .ok (.if_icmp .eq 199, 3) := by decide +kernel
theorem d_law_142 : decode code 142 = .ok (.iconst 0, 1) := by decide +kernel
theorem d_law_143 : decode code 143 = .ok (.ireturn, 1) := by decide +kernel
theorem d_law_144 : decode code 144 = .ok (.aload_n 1, 1) := by decide +kernel
theorem d_law_145 : decode code 145 = .ok (.aload_n 0, 1) := by decide +kernel
theorem d_law_146 : decode code 146 = .ok (.iload_n 3, 1) := by decide +kernel
theorem d_law_147 : decode code 147 = .ok (.iconst 1, 1) := by decide +kernel
theorem d_law_148 : decode code 148 = .ok (.iadd, 1) := by decide +kernel
theorem d_law_149 : decode code 149 = .ok (.iaload, 1) := by decide +kernel
theorem d_law_150 : decode code 150 = .ok (.aload_n 0, 1) := by decide +kernel
theorem d_law_151 : decode code 151 = .ok (.iload_n 3, 1) := by decide +kernel
theorem d_law_152 : decode code 152 = .ok (.iconst 2, 1) := by decide +kernel
theorem d_law_153 : decode code 153 = .ok (.iadd, 1) := by decide +kernel
theorem d_law_154 : decode code 154 = .ok (.iaload, 1) := by decide +kernel
theorem d_law_155 : decode code 155 = .ok (.invokevirtual 23, 3) := by decide +kernel
theorem d_law_158 : decode code 158 = .ok (.aload_n 2, 1) := by decide +kernel
theorem d_law_159 : decode code 159 = .ok (.aload_n 0, 1) := by decide +kernel
theorem d_law_160 : decode code 160 = .ok (.iload_n 3, 1) := by decide +kernel
theorem d_law_161 : decode code 161 = .ok (.iconst 1, 1) := by decide +kernel
theorem d_law_162 : decode code 162 = .ok (.iadd, 1) := by decide +kernel
theorem d_law_163 : decode code 163 = .ok (.iaload, 1) := by decide +kernel
theorem d_law_164 : decode code 164 = .ok (.aload_n 0, 1) := by decide +kernel
theorem d_law_165 : decode code 165 = .ok (.iload_n 3, 1) := by decide +kernel
theorem d_law_166 : decode code 166 = .ok (.iconst 2, 1) := by decide +kernel
theorem d_law_167 : decode code 167 = .ok (.iadd, 1) := by decide +kernel
theorem d_law_168 : decode code 168 = .ok (.iaload, 1) := by decide +kernel
theorem d_law_169 : decode code 169 = .ok (.invokevirtual 26, 3) := by decide +kernel
theorem d_law_172 : decode code 172 = .ok (.if_icmp .eq 166, 3) := by decide +kernel
theorem d_law_175 : decode code 175 = .ok (.iconst 0, 1) := by decide +kernel
theorem d_law_176 : decode code 176 = .ok (.ireturn, 1) := by decide +kernel
theorem d_law_177 : decode code 177 = .ok (.aload_n 1, 1) := by decide +kernel
theorem d_law_178 : decode code 178 = .ok (.aload_n 0, 1) := by decide +kernel
theorem d_law_179 : decode code 179 = .ok (.iload_n 3, 1) := by decide +kernel
theorem d_law_180 : decode code 180 = .ok (.iconst 1, 1) := by decide +kernel
theorem d_law_181 : decode code 181 = .ok (.iadd, 1) := by decide +kernel
theorem d_law_182 : decode code 182 = .ok (.iaload, 1) := by decide +kernel
theorem d_law_183 : decode code 183 = .ok (.invokevirtual 27, 3) := by decide +kernel
theorem d_law_186 : decode code 186 = .ok (.aload_n 2, 1) := by decide +kernel
theorem d_law_187 : decode code 187 = .ok (.aload_n 0, 1) := by decide +kernel
theorem d_law_188 : decode code 188 = .ok (.iload_n 3, 1) := by decide +kernel
theorem d_law_189 : decode code 189 = .ok (.iconst 1, 1) := by decide +kernel
theorem d_law_190 : decode code 190 = .ok (.iadd, 1) := by decide +kernel
theorem d_law_191 : decode code 191 = .ok (.iaload, 1) := by decide +kernel
theorem d_law_192 : decode code 192 = .ok (.invokevirtual 30, 3) := by decide +kernel
theorem d_law_195 : decode code 195 = .ok (.if_icmp .eq 143, 3) := by decide +kernel
theorem d_law_198 : decode code 198 = .ok (.iconst 0, 1) := by decide +kernel
theorem d_law_199 : decode code 199 = .ok (.ireturn, 1) := by decide +kernel
theorem d_law_200 : decode code 200 = .ok (.aload_n 1, 1) := by decide +kernel
theorem d_law_201 : decode code 201 = .ok (.aload_n 0, 1) := by decide +kernel
theorem d_law_202 : decode code 202 = .ok (.iload_n 3, 1) := by decide +kernel
theorem d_law_203 : decode code 203 = .ok (.iconst 1, 1) := by decide +kernel
theorem d_law_204 : decode code 204 = .ok (.iadd, 1) := by decide +kernel
theorem d_law_205 : decode code 205 = .ok (.iaload, 1) := by decide +kernel
theorem d_law_206 : decode code 206 = .ok (.aload_n 0, 1) := by decide +kernel
theorem d_law_207 : decode code 207 = .ok (.iload_n 3, 1) := by decide +kernel
theorem d_law_208 : decode code 208 = .ok (.iconst 2, 1) := by decide +kernel
theorem d_law_209 : decode code 209 = .ok (.iadd, 1) := by decide +kernel
theorem d_law_210 : decode code 210 = .ok (.iaload, 1) := by decide +kernel
theorem d_law_211 : decode code 211 = .ok (.invokevirtual 31, 3) := by decide +kernel
theorem d_law_214 : decode code 214 = .ok (.aload_n 2, 1) := by decide +kernel
theorem d_law_215 : decode code 215 = .ok (.aload_n 0, 1) := by decide +kernel
theorem d_law_216 : decode code 216 = .ok (.iload_n 3, 1) := by decide +kernel
theorem d_law_217 : decode code 217 = .ok (.iconst 1, 1) := by decide +kernel
theorem d_law_218 : decode code 218 = .ok (.iadd, 1) := by decide +kernel
theorem d_law_219 : decode code 219 = .ok (.iaload, 1) := by decide +kernel
theorem d_law_220 : decode code 220 = .ok (.aload_n 0, 1) := by decide +kernel
theorem d_law_221 : decode code 221 = .ok (.iload_n 3, 1) := by decide +kernel
theorem d_law_222 : decode code 222 = .ok (.iconst 2, 1) := by decide +kernel
theorem d_law_223 : decode code 223 = .ok (.iadd, 1) := by decide +kernel
theorem d_law_224 : decode code 224 = .ok (.iaload, 1) := by decide +kernel
theorem d_law_225 : decode code 225 = .ok (.invokevirtual 34, 3) := by decide +kernel
theorem d_law_228 : decode code 228 = .ok (.if_icmp .eq 110, 3) := by decide +kernel
theorem d_law_231 : decode code 231 = .ok (.iconst 0, 1) := by decide +kernel
theorem d_law_232 : decode code 232 = .ok (.ireturn, 1) := by decide +kernel
theorem d_law_233 : decode code 233 = .ok (.aload_n 1, 1) := by decide +kernel
theorem d_law_234 : decode code 234 = .ok (.aload_n 0, 1) := by decide +kernel
theorem d_law_235 : decode code 235 = .ok (.iload_n 3, 1) := by decide +kernel
theorem d_law_236 : decode code 236 = .ok (.iconst 1, 1) := by decide +kernel
theorem d_law_237 : decode code 237 = .ok (.iadd, 1) := by decide +kernel
theorem d_law_238 : decode code 238 = .ok (.iaload, 1) := by decide +kernel
theorem d_law_239 : decode code 239 = .ok (.invokevirtual 35, 3) := by decide +kernel
theorem d_law_242 : decode code 242 = .ok (.aload_n 2, 1) := by decide +kernel
theorem d_law_243 : decode code 243 = .ok (.aload_n 0, 1) := by decide +kernel
theorem d_law_244 : decode code 244 = .ok (.iload_n 3, 1) := by decide +kernel
theorem d_law_245 : decode code 245 = .ok (.iconst 1, 1) := by decide +kernel
theorem d_law_246 : decode code 246 = .ok (.iadd, 1) := by decide +kernel
theorem d_law_247 : decode code 247 = .ok (.iaload, 1) := by decide +kernel
theorem d_law_248 : decode code 248 = .ok (.invokevirtual 38, 3) := by decide +kernel
theorem d_law_251 : decode code 251 = .ok (.if_icmp .eq 87, 3) := by decide +kernel
theorem d_law_254 : decode code 254 = .ok (.iconst 0, 1) := by decide +kernel
theorem d_law_255 : decode code 255 = .ok (.ireturn, 1) := by decide +kernel
theorem d_law_256 : decode code 256 = .ok (.aload_n 1, 1) := by decide +kernel
theorem d_law_257 : decode code 257 = .ok (.aload_n 0, 1) := by decide +kernel
theorem d_law_258 : decode code 258 = .ok (.iload_n 3, 1) := by decide +kernel
theorem d_law_259 : decode code 259 = .ok (.iconst 1, 1) := by decide +kernel
theorem d_law_260 : decode code 260 = .ok (.iadd, 1) := by decide +kernel
theorem d_law_261 : decode code 261 = .ok (.iaload, 1) := by decide +kernel
theorem d_law_262 : decode code 262 = .ok (.invokevirtual 39, 3) := by decide +kernel
theorem d_law_265 : decode code 265 = .ok (.aload_n 2, 1) := by decide +kernel
theorem d_law_266 : decode code 266 = .ok (.aload_n 0, 1) := by decide +kernel
theorem d_law_267 : decode code 267 = .ok (.iload_n 3, 1) := by decide +kernel
theorem d_law_268 : decode code 268 = .ok (.iconst 1, 1) := by decide +kernel
theorem d_law_269 : decode code 269 = .ok (.iadd, 1) := by decide +kernel
theorem d_law_270 : decode code 270 = .ok (.iaload, 1) := by decide +kernel
theorem d_law_271 : decode code 271 = .ok (.invokevirtual 42, 3) := by decide +kernel
theorem d_law_274 : decode code 274 = .ok (.if_icmp .eq 64, 3) := by decide +kernel
theorem d_law_277 : decode code 277 = .ok (.iconst 0, 1) := by decide +kernel
theorem d_law_278 : decode code 278 = .ok (.ireturn, 1) := by decide +kernel
theorem d_law_279 : decode code 279 = .ok (.aload_n 1, 1) := by decide +kernel
theorem d_law_280 : decode code 280 = .ok (.aload_n 0, 1) := by decide +kernel
theorem d_law_281 : decode code 281 = .ok (.iload_n 3, 1) := by decide +kernel
theorem d_law_282 : decode code 282 = .ok (.iconst 1, 1) := by decide +kernel
theorem d_law_283 : decode code 283 = .ok (.iadd, 1) := by decide +kernel
theorem d_law_284 : decode code 284 = .ok (.iaload, 1) := by decide +kernel
theorem d_law_285 : decode code 285 = .ok (.aload_n 0, 1) := by decide +kernel
theorem d_law_286 : decode code 286 = .ok (.iload_n 3, 1) := by decide +kernel
theorem d_law_287 : decode code 287 = .ok (.iconst 2, 1) := by decide +kernel
theorem d_law_288 : decode code 288 = .ok (.iadd, 1) := by decide +kernel
theorem d_law_289 : decode code 289 = .ok (.iaload, 1) := by decide +kernel
theorem d_law_290 : decode code 290 = .ok (.invokevirtual 43, 3) := by decide +kernel
theorem d_law_293 : decode code 293 = .ok (.aload_n 2, 1) := by decide +kernel
theorem d_law_294 : decode code 294 = .ok (.aload_n 0, 1) := by decide +kernel
theorem d_law_295 : decode code 295 = .ok (.iload_n 3, 1) := by decide +kernel
theorem d_law_296 : decode code 296 = .ok (.iconst 1, 1) := by decide +kernel
theorem d_law_297 : decode code 297 = .ok (.iadd, 1) := by decide +kernel
theorem d_law_298 : decode code 298 = .ok (.iaload, 1) := by decide +kernel
theorem d_law_299 : decode code 299 = .ok (.aload_n 0, 1) := by decide +kernel
theorem d_law_300 : decode code 300 = .ok (.iload_n 3, 1) := by decide +kernel
theorem d_law_301 : decode code 301 = .ok (.iconst 2, 1) := by decide +kernel
theorem d_law_302 : decode code 302 = .ok (.iadd, 1) := by decide +kernel
theorem d_law_303 : decode code 303 = .ok (.iaload, 1) := by decide +kernel
theorem d_law_304 : decode code 304 = .ok (.invokevirtual 47, 3) := by decide +kernel
theorem d_law_307 : decode code 307 = .ok (.if_icmp .eq 31, 3) := by decide +kernel
theorem d_law_310 : decode code 310 = .ok (.iconst 0, 1) := by decide +kernel
theorem d_law_311 : decode code 311 = .ok (.ireturn, 1) := by decide +kernel
theorem d_law_312 : decode code 312 = .ok (.aload_n 1, 1) := by decide +kernel
theorem d_law_313 : decode code 313 = .ok (.invokevirtual 48, 3) := by decide +kernel
theorem d_law_316 : decode code 316 = .ok (.aload_n 2, 1) := by decide +kernel
theorem d_law_317 : decode code 317 = .ok (.invokevirtual 52, 3) := by decide +kernel
theorem d_law_320 : decode code 320 = .ok (.if_icmp .eq 18, 3) := by decide +kernel
theorem d_law_323 : decode code 323 = .ok (.iconst 0, 1) := by decide +kernel
theorem d_law_324 : decode code 324 = .ok (.ireturn, 1) := by decide +kernel
theorem d_law_325 : decode code 325 = .ok (.aload_n 1, 1) := by decide +kernel
theorem d_law_326 : decode code 326 = .ok (.invokevirtual 53, 3) := by decide +kernel
theorem d_law_329 : decode code 329 = .ok (.aload_n 2, 1) := by decide +kernel
theorem d_law_330 : decode code 330 = .ok (.invokevirtual 56, 3) := by decide +kernel
theorem d_law_333 : decode code 333 = .ok (.if_icmp .eq 5, 3) := by decide +kernel
theorem d_law_336 : decode code 336 = .ok (.iconst 0, 1) := by decide +kernel
theorem d_law_337 : decode code 337 = .ok (.ireturn, 1) := by decide +kernel
theorem d_law_338 : decode code 338 = .ok (.iinc 3 3, 3) := by decide +kernel
theorem d_law_341 : decode code 341 = .ok (.goto (-323), 3) := by decide +kernel
theorem d_law_344 : decode code 344 = .ok (.iconst 1, 1) := by decide +kernel
theorem d_law_345 : decode code 345 = .ok (.ireturn, 1) := by decide +kernel
def lwW (aP aM aW aS aG aX aQ aI aC aR aL aB aK aZ aT bG bS bM : Nat) (cW cG cX dG dS dM : ClassId) (w g sp : Nat → Int32) (nx lt sm ex en iw io id ia ib ii is iu rr re rc rd ra rb rn rf rw : Int32) : va_W := [(aP, .inr (10, [.ref aM, .ref aS, .ref aQ, .ref aI, .ref aC, .ref aR, .ref aL, .ref aB, .ref aK, .ref aZ])), (aM, .inr (8, [.ref aW])), (aW, .inl (cW, 16384, .inl w)), (aS, .inr (9, [.ref aG, .ref aX, .int nx, .int lt, .int sm, .int ex])), (aG, .inl (cG, 32, .inl g)), (aX, .inl (cX, 64, .inl sp)), (aQ, .inr (7, [.ref aM, .ref aS, .int en])), (aI, .inr (5, [.int iw, .int io, .int id, .int ia, .int ib, .int ii, .int is, .int iu])), (aC, .inr (3, [.ref aS])), (aR, .inr (1, [.ref aS])), (aL, .inr (6, [.ref aS])), (aB, .inr (2, [.ref aS])), (aK, .inr (4, [.ref aS])), (aZ, .inr (0, [.ref aM, .ref aS, .ref aQ])), (aT, .inr (11, [.ref bG, .ref bS, .ref bM, .int lt, .int sm, .int rr, .int re, .int rc, .int rd, .int ra, .int rb, .int rn, .int rf, .int rw])), (bG, .inl (dG, 32, .inl g)), (bS, .inl (dS, 48, .inl sp)), (bM, .inl (dM, 16384, .inl w))]
theorem lw_kB {b : Nat} {s : State} (hts : ∀ w ∈ lw_tbl, w.before #[Value.ref b] s = true) : ∀ w ∈ kBw, w.before #[Value.ref b] s = true := fun w hw => hts w (List.mem_filter.mp hw).1
theorem lw_kN {b : Nat} {s : State} (hts : ∀ w ∈ lw_tbl, w.before #[Value.ref b] s = true) : kN s := by
  intro w hw
  have h1 := hts w (List.mem_filter.mp hw).1
  have h2 := (List.mem_filter.mp hw).2
  cases w <;> first | exact va_Nw.of rfl h1 | (simp [k_isNest] at h2; done)
theorem zl_1 : (Jvm.Cond.initialized "MappedProcessor") ∈ kBw := kb_in (kt1 (List.mem_of_getElem? (i := 1) rfl)) rfl
theorem zl_12 : (Jvm.Cond.initialized "MappedProcessorModel") ∈ kBw := kb_in (kt1 (List.mem_of_getElem? (i := 12) rfl)) rfl
theorem zl_14 : (Jvm.Cond.classLink "MappedProcessorLaw" (7 : Nat) "MappedProcessor") ∈ kBw := kb_in (kt1 (List.mem_of_getElem? (i := 14) rfl)) rfl
theorem zl_15 : (Jvm.Cond.instantiable "MappedProcessor" (10 : Nat)) ∈ kBw := kb_in (kt1 (List.mem_of_getElem? (i := 15) rfl)) rfl
theorem zl_16 : (Jvm.Cond.methodLink "MappedProcessorLaw" (9 : Nat) ({ cls := "MappedProcessor", name := "<init>", desc := "()V" } : Jvm.MethodName)) ∈ kBw := kb_in (kt1 (List.mem_of_getElem? (i := 16) rfl)) rfl
theorem zl_23 : (Jvm.Cond.instantiable "MappedProcessor$Memory" (1 : Nat)) ∈ kBw := kb_in (kt1 (List.mem_of_getElem? (i := 23) rfl)) rfl
theorem zl_34 : (Jvm.Cond.instantiable "MappedProcessor$State" (6 : Nat)) ∈ kBw := kb_in (kt1 (List.mem_of_getElem? (i := 34) rfl)) rfl
theorem zl_59 : (Jvm.Cond.instantiable "MappedProcessor$Mapper" (3 : Nat)) ∈ kBw := kb_in (kt1 (List.mem_of_getElem? (i := 59) rfl)) rfl
theorem zl_75 : (Jvm.Cond.instantiable "MappedProcessor$Instruction" (8 : Nat)) ∈ kBw := kb_in (kt1 (List.mem_of_getElem? (i := 75) rfl)) rfl
theorem zl_144 : (Jvm.Cond.instantiable "MappedProcessor$Comparisons" (1 : Nat)) ∈ kBw := kb_in (kt1 (List.mem_of_getElem? (i := 144) rfl)) rfl
theorem zl_154 : (Jvm.Cond.instantiable "MappedProcessor$Arithmetic" (1 : Nat)) ∈ kBw := kb_in (kt1 (List.mem_of_getElem? (i := 154) rfl)) rfl
theorem zl_164 : (Jvm.Cond.instantiable "MappedProcessor$Logic" (1 : Nat)) ∈ kBw := kb_in (kt1 (List.mem_of_getElem? (i := 164) rfl)) rfl
theorem zl_174 : (Jvm.Cond.instantiable "MappedProcessor$Branches" (1 : Nat)) ∈ kBw := kb_in (kt1 (List.mem_of_getElem? (i := 174) rfl)) rfl
theorem zl_184 : (Jvm.Cond.instantiable "MappedProcessor$Control" (1 : Nat)) ∈ kBw := kb_in (kt1 (List.mem_of_getElem? (i := 184) rfl)) rfl
theorem zl_194 : (Jvm.Cond.instantiable "MappedProcessor$Accesses" (3 : Nat)) ∈ kBw := kb_in (kt1 (List.mem_of_getElem? (i := 194) rfl)) rfl
theorem zl_240 : (Jvm.Cond.methodLink "MappedProcessorLaw" (13 : Nat) ({ cls := "MappedProcessor", name := "write", desc := "(II)Z" } : Jvm.MethodName)) ∈ kBw := kb_in (kt2 (List.mem_of_getElem? (i := 0) rfl)) rfl
theorem zl_249 : (Jvm.Cond.methodLink "MappedProcessorLaw" (18 : Nat) ({ cls := "MappedProcessor", name := "word", desc := "(I)I" } : Jvm.MethodName)) ∈ kBw := kb_in (kt2 (List.mem_of_getElem? (i := 9) rfl)) rfl
theorem zl_257 : (Jvm.Cond.methodLink "MappedProcessorLaw" (23 : Nat) ({ cls := "MappedProcessor", name := "put", desc := "(II)Z" } : Jvm.MethodName)) ∈ kBw := kb_in (kt2 (List.mem_of_getElem? (i := 17) rfl)) rfl
theorem zl_265 : (Jvm.Cond.methodLink "MappedProcessorLaw" (27 : Nat) ({ cls := "MappedProcessor", name := "general", desc := "(I)I" } : Jvm.MethodName)) ∈ kBw := kb_in (kt2 (List.mem_of_getElem? (i := 25) rfl)) rfl
theorem zl_273 : (Jvm.Cond.methodLink "MappedProcessorLaw" (31 : Nat) ({ cls := "MappedProcessor", name := "set", desc := "(II)Z" } : Jvm.MethodName)) ∈ kBw := kb_in (kt2 (List.mem_of_getElem? (i := 33) rfl)) rfl
theorem zl_284 : (Jvm.Cond.methodLink "MappedProcessorLaw" (35 : Nat) ({ cls := "MappedProcessor", name := "special", desc := "(I)I" } : Jvm.MethodName)) ∈ kBw := kb_in (kt2 (List.mem_of_getElem? (i := 44) rfl)) rfl
theorem zl_292 : (Jvm.Cond.methodLink "MappedProcessorLaw" (39 : Nat) ({ cls := "MappedProcessor", name := "step", desc := "(I)I" } : Jvm.MethodName)) ∈ kBw := kb_in (kt2 (List.mem_of_getElem? (i := 52) rfl)) rfl
theorem zl_617 : (Jvm.Cond.methodLink "MappedProcessorLaw" (43 : Nat) ({ cls := "MappedProcessor", name := "translate", desc := "(II)I" } : Jvm.MethodName)) ∈ kBw := kb_in (kt3 (List.mem_of_getElem? (i := 137) rfl)) rfl
theorem zl_621 : (Jvm.Cond.methodLink "MappedProcessorLaw" (48 : Nat) ({ cls := "MappedProcessor", name := "vector", desc := "()I" } : Jvm.MethodName)) ∈ kBw := kb_in (kt3 (List.mem_of_getElem? (i := 141) rfl)) rfl
theorem zl_629 : (Jvm.Cond.methodLink "MappedProcessorLaw" (53 : Nat) ({ cls := "MappedProcessor", name := "steps", desc := "()I" } : Jvm.MethodName)) ∈ kBw := kb_in (kt3 (List.mem_of_getElem? (i := 149) rfl)) rfl
theorem zl_637 : (Jvm.Cond.classLink "MappedProcessorLaw" (10 : Nat) "MappedProcessorModel") ∈ kBw := kb_in (kt3 (List.mem_of_getElem? (i := 157) rfl)) rfl
theorem zl_638 : (Jvm.Cond.instantiable "MappedProcessorModel" (14 : Nat)) ∈ kBw := kb_in (kt3 (List.mem_of_getElem? (i := 158) rfl)) rfl
theorem zl_639 : (Jvm.Cond.methodLink "MappedProcessorLaw" (12 : Nat) ({ cls := "MappedProcessorModel", name := "<init>", desc := "()V" } : Jvm.MethodName)) ∈ kBw := kb_in (kt3 (List.mem_of_getElem? (i := 159) rfl)) rfl
theorem zl_686 : (Jvm.Cond.methodLink "MappedProcessorLaw" (17 : Nat) ({ cls := "MappedProcessorModel", name := "write", desc := "(II)Z" } : Jvm.MethodName)) ∈ kBw := kb_in (kt3 (List.mem_of_getElem? (i := 206) rfl)) rfl
theorem zl_690 : (Jvm.Cond.methodLink "MappedProcessorLaw" (22 : Nat) ({ cls := "MappedProcessorModel", name := "word", desc := "(I)I" } : Jvm.MethodName)) ∈ kBw := kb_in (kt3 (List.mem_of_getElem? (i := 210) rfl)) rfl
theorem zl_694 : (Jvm.Cond.methodLink "MappedProcessorLaw" (26 : Nat) ({ cls := "MappedProcessorModel", name := "put", desc := "(II)Z" } : Jvm.MethodName)) ∈ kBw := kb_in (kt3 (List.mem_of_getElem? (i := 214) rfl)) rfl
theorem zl_698 : (Jvm.Cond.methodLink "MappedProcessorLaw" (30 : Nat) ({ cls := "MappedProcessorModel", name := "general", desc := "(I)I" } : Jvm.MethodName)) ∈ kBw := kb_in (kt3 (List.mem_of_getElem? (i := 218) rfl)) rfl
theorem zl_702 : (Jvm.Cond.methodLink "MappedProcessorLaw" (34 : Nat) ({ cls := "MappedProcessorModel", name := "set", desc := "(II)Z" } : Jvm.MethodName)) ∈ kBw := kb_in (kt3 (List.mem_of_getElem? (i := 222) rfl)) rfl
theorem zl_709 : (Jvm.Cond.methodLink "MappedProcessorLaw" (38 : Nat) ({ cls := "MappedProcessorModel", name := "special", desc := "(I)I" } : Jvm.MethodName)) ∈ kBw := kb_in (kt3 (List.mem_of_getElem? (i := 229) rfl)) rfl
theorem zl_713 : (Jvm.Cond.methodLink "MappedProcessorLaw" (42 : Nat) ({ cls := "MappedProcessorModel", name := "step", desc := "(I)I" } : Jvm.MethodName)) ∈ kBw := kb_in (kt3 (List.mem_of_getElem? (i := 233) rfl)) rfl
theorem zl_912 : (Jvm.Cond.methodLink "MappedProcessorLaw" (47 : Nat) ({ cls := "MappedProcessorModel", name := "translate", desc := "(II)I" } : Jvm.MethodName)) ∈ kBw := kb_in (kt4 (List.mem_of_getElem? (i := 192) rfl)) rfl
theorem zl_916 : (Jvm.Cond.methodLink "MappedProcessorLaw" (52 : Nat) ({ cls := "MappedProcessorModel", name := "vector", desc := "()I" } : Jvm.MethodName)) ∈ kBw := kb_in (kt4 (List.mem_of_getElem? (i := 196) rfl)) rfl
theorem zl_920 : (Jvm.Cond.methodLink "MappedProcessorLaw" (56 : Nat) ({ cls := "MappedProcessorModel", name := "steps", desc := "()I" } : Jvm.MethodName)) ∈ kBw := kb_in (kt4 (List.mem_of_getElem? (i := 200) rfl)) rfl

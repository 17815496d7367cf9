def R_law : String := "WhatWasSaidLaw"
def lw_P (b : Addr) (xs : List Int32) (args : Array Value) (s : State) : Prop := args = #[.ref b] ∧ s.IntsAt b xs ∧ xs.length ≤ 384 ∧ (Jvm.Cond.and given_1 narrow_1).before args s = true
def lw_Q (_ : Array Value) (s : State) (o : Outcome) (t : State) : Prop := o = .returned (some (.int 1)) ∧ Framed s o t [] 600000 7302250
def lw_Z (below : List Frame) (a : Array Value) (s : State) : State → Prop := fun t => ∃ o, t.status = .running ∧ Ended t below o ∧ lw_Q a s o t
/-- the law's own end, with 1 on the stack, nothing written that was there before, its room as the claim has it -/
theorem lw_ret {p : Program} {l : Launch} {e : Env} {s : State} {m : MethodId} {below : List Frame} {meth : Method} {c : Code} {b : Nat} (hx : p.tables.exec = Jvm.exec) (hb : c.code = code) (hr : meth.sig.returnType = ret) (hlocks : meth.locks = false) {pc : Nat} {H : Heap} {ls : Array Slot} (hdg : decode code pc = .ok (.ireturn, 1)) : W p l e room_1 s m #[Value.ref b] below meth c H [] 600000 7302250 (lw_Z below #[Value.ref b] s) (F0 m pc ls [.int 1]) := by
  intro T hT X
  obtain ⟨fs, hret, hrun, hended, hW, hframe⟩ := X.leave (v := some (.int 1)) (hlocks := hlocks) (fun h => by rw [hr] at h; cases h)
  have hmeth' : T.vm.method? m = some meth := X.method'
  refine ⟨T.setFrames fs, ?_, .returned (some (.int 1)), hrun, hended, rfl, ⟨_, rfl⟩, hW, hframe⟩
  jvm_step X.here [X.here.top, hx, hb, hdg, hmeth', hr, ret, narrow_b1]
  (try refine ⟨rfl, ?_⟩); (try refine ⟨rfl, ?_⟩)
  first | (intro acts; rw [hret _ acts rfl rfl rfl]) | rw [hret _ _ rfl rfl rfl]
  exact Steps.refl _
/-- what holds at the law's entry: the machine, the code, the tables' words (any of lw_tbl by 'hts w (by decide +kernel)'), the script of L ints xs at the cell b, what the Statement gives of the start (any of its parts by flat_of_before) -/
def lw_At (p : Program) (s : State) (m : MethodId) (meth : Method) (c : Code) (b L : Nat) (xs : Nat → Int32) : Prop :=
  p.tables.exec = Jvm.exec ∧ c.code = code ∧ meth.sig.returnType = ret ∧ c.maxLocals = 4 ∧ s.vm.findClass R_law = some m.cls ∧ (∀ w ∈ lw_tbl, w.before #[Value.ref b] s = true) ∧ va_X b L xs s s.heap ∧ b < s.heap.size ∧ meth.locks = false ∧ (Jvm.Cond.and given_1 narrow_1).before #[Value.ref b] s = true
section ZLAW
variable {G : Prop} {p : Program} {l : Launch} {e : Env} {R : Room} {s : State} {m : MethodId} {args : Array Value} {below : List Frame} {meth : Method} {c : Code} {w : zW} {own : String} {cc : ByteArray} {nL n0 D b : Nat} {rt : Option FieldType} {Q : Int → zMem → State → Prop} {pc pc' : Nat} {la : List (Nat × zV)} {st : List zV} {μ : zMem} {t : zRs} {L : Nat} {xs : Nat → Int32}
def zsld (L : Nat) (xs : Nat → Int32) (j : Int) (k : Int → zRs) : zRs := if 0 ≤ j ∧ j < (L : Int) then k (xs j.toNat).toInt else none
def zslen (L : Nat) (k : Int → zRs) : zRs := k (L : Int)
theorem zscr {v : Value} {H : Heap} (hX : va_X (w.2.1 0) L xs s w.2.2.2.2 ∧ L < 1000 ∧ w.2.1 0 < w.1) (hR : zRep w μ H) (hv : zrv w (znc μ) (zR 0) v) : ∃ cell, v = .ref (w.2.1 0) ∧ H[w.2.1 0]? = some cell ∧ s.isArrayOf cell .int ∧ cell.vm ≠ .unknown ∧ cell.slots.size = L ∧ ∀ j : Nat, j < L → cell.slots[j]? = some (.int (xs j)) := by
  obtain ⟨⟨cell, h1, h2⟩, h3, h4⟩ := hX
  refine ⟨cell, ?_, by rw [hR.2.1 _ h4]; exact h1, h2⟩
  rcases hv with ⟨h, -⟩ | ⟨q, h, -, rfl⟩
  · omega
  · have : q = 0 := by omega
    subst this
    rfl
theorem z_sld {j : Int} {k : Int → zRs} (C : G → zCx w own cc nL rt D R p s m args meth c) (hX : G → va_X (w.2.1 0) L xs s w.2.2.2.2 ∧ L < 1000 ∧ w.2.1 0 < w.1) (hd : decode cc pc = .ok (.iaload, 1)) (hpc : pc + 1 = pc')
    (K : ∀ x, zSim G p l e R s m args below meth c w nL n0 Q pc' la (zI x :: st) μ (k x)) : zSim G p l e R s m args below meth c w nL n0 Q pc la (zI j :: zR 0 :: st) μ (zsld L xs j k) := by
  subst hpc
  unfold zsld
  split
  · rename_i hc
    intro r μ' ht
    obtain ⟨h1, h2⟩ := K _ r μ' ht
    refine ⟨h1, fun hG H locs ls sc hR hL hS h3 h4 h5 h6 => ?_⟩
    obtain ⟨_, sc, rfl, ⟨i, rfl, rfl⟩, hU⟩ := zsR_cons hS
    obtain ⟨v, sc, rfl, hv, hT⟩ := zsR_cons hU
    obtain ⟨cell, rfl, g1, g2, g3, g4, g5⟩ := zscr (hX hG) hR hv
    obtain ⟨i1, i2, i3⟩ := zidx hc.1 hc.2
    refine W.iald (C hG).1 (C hG).2.1 g1 g2 g3 (i1 _ (by omega)) (g5 _ i3) rfl rfl hd ?_
    exact h2 hG H locs ls _ hR hL ⟨⟨_, rfl, rfl⟩, hT⟩ h3 h4 h5 h6
  · exact znone
theorem z_slen {k : Int → zRs} (C : G → zCx w own cc nL rt D R p s m args meth c) (hX : G → va_X (w.2.1 0) L xs s w.2.2.2.2 ∧ L < 1000 ∧ w.2.1 0 < w.1) (hd : decode cc pc = .ok (.arraylength, 1)) (hpc : pc + 1 = pc')
    (K : ∀ x, zSim G p l e R s m args below meth c w nL n0 Q pc' la (zI x :: st) μ (k x)) : zSim G p l e R s m args below meth c w nL n0 Q pc la (zR 0 :: st) μ (zslen L k) := by
  subst hpc
  intro r μ' ht
  obtain ⟨h1, h2⟩ := K _ r μ' ht
  refine ⟨h1, fun hG H locs ls sc hR hL hS h3 h4 h5 h6 => ?_⟩
  obtain ⟨v, sc, rfl, hv, hT⟩ := zsR_cons hS
  obtain ⟨cell, rfl, g1, g2, g3, g4, g5⟩ := zscr (hX hG) hR hv
  refine W.alen (C hG).1 (C hG).2.1 g1 g2 rfl rfl rfl hd ?_
  refine h2 hG H locs ls _ hR hL ⟨⟨_, rfl, ?_⟩, hT⟩ h3 h4 h5 h6
  rw [g4]
  have := (hX hG).2.1
  exact Int32.toInt_ofNat_of_lt (by omega)
theorem z_lawret (C : G → zCx w own code nL ret D R p s m args meth c) (hRm : G → R = room_1) (hA : G → args = #[.ref b] ∧ w.1 = s.heap.size) (hd : decode code pc = .ok (.ireturn, 1)) :
    zSim G p l e R s m args below meth c w nL 0 (fun _ _ => lw_Z below args s) pc la [zI 1] μ (some (1, μ)) := by
  intro r μ' ht
  cases ht
  refine ⟨Nat.le_refl _, fun hG H locs ls sc hR hL hS h3 h4 h5 h6 => ?_⟩
  obtain ⟨_, sc, rfl, ⟨i, rfl, hi⟩, hT⟩ := zsR_cons hS
  cases zsR_nil hT
  have hi1 : i = 1 := Int32.toInt_inj.mp (hi.trans Int32.toInt_one.symm)
  subst hi1
  obtain ⟨rfl, hsz⟩ := hA hG
  have hr := hRm hG
  subst hr
  refine va_forget (fun q hq => by rw [← hsz]; exact h3 q hq) ?_
  exact W.widen h5 h6 (lw_ret (C hG).1 (C hG).2.1 (C hG).2.2.2.2.2.1 (C hG).2.2.2.2.2.2.1 hd)
end ZLAW
theorem dL_law_0 : decode cL_law 0 = .ok (.new 7, 3) := by decide +kernel
theorem dL_law_3 : decode cL_law 3 = .ok (.dup, 1) := by decide +kernel
theorem dL_law_4 : decode cL_law 4 = .ok (.invokespecial 9, 3) := by decide +kernel
theorem dL_law_7 : decode cL_law 7 = .ok (.astore_n 1, 1) := by decide +kernel
theorem dL_law_8 : decode cL_law 8 = .ok (.new 10, 3) := by decide +kernel
theorem dL_law_11 : decode cL_law 11 = .ok (.dup, 1) := by decide +kernel
theorem dL_law_12 : decode cL_law 12 = .ok (.invokespecial 12, 3) := by decide +kernel
theorem dL_law_15 : decode cL_law 15 = .ok (.astore_n 2, 1) := by decide +kernel
theorem dL_law_16 : decode cL_law 16 = .ok (.iconst 0, 1) := by decide +kernel
theorem dL_law_17 : decode cL_law 17 = .ok (.istore_n 3, 1) := by decide +kernel
theorem dL_law_18 : decode cL_law 18 = .ok (.iload_n 3, 1) := by decide +kernel
theorem dL_law_19 : decode cL_law 19 = .ok (.aload_n 0, 1) := by decide +kernel
theorem dL_law_20 : decode cL_law 20 = .ok (.arraylength, 1) := by decide +kernel
theorem dL_law_21 : decode cL_law 21 = .ok (.bipush 6, 2) := by decide +kernel
theorem dL_law_23 : decode cL_law 23 = .ok (.isub, 1) := by decide +kernel
theorem dL_law_24 : decode cL_law 24 = .ok (.if_icmp .gt 1401, 3) := by decide +kernel
theorem dL_law_27 : decode cL_law 27 = .ok (.aload_n 0, 1) := by decide +kernel
theorem dL_law_28 : decode cL_law 28 = .ok (.iload_n 3, 1) := by decide +kernel
theorem dL_law_29 : decode cL_law 29 = .ok (.iaload, 1) := by decide +kernel
theorem dL_law_30 : decode cL_law 30 = .ok (.bipush 63, 2) := by decide +kernel
theorem dL_law_32 : decode cL_law 32 = .ok (.iand, 1) := by decide +kernel
theorem dL_law_33 : decode cL_law 33 = .ok (.tableswitch 1386 0 36 #[163, 196, 239, 282, 315, 338, 371, 404, 437, 470, 513, 546, 579, 612, 645, 678, 711, 724, 757, 780, 824, 847, 880, 913, 936, 969, 982, 995, 1018, 1061, 1084, 1117, 1160, 1233, 1267, 1330, 1363], 163) := by decide +kernel
theorem dL_law_196 : decode cL_law 196 = .ok (.aload_n 1, 1) := by decide +kernel
theorem dL_law_197 : decode cL_law 197 = .ok (.aload_n 0, 1) := by decide +kernel
theorem dL_law_198 : decode cL_law 198 = .ok (.iload_n 3, 1) := by decide +kernel
theorem dL_law_199 : decode cL_law 199 = .ok (.iconst 1, 1) := by decide +kernel
theorem dL_law_200 : decode cL_law 200 = .ok (.iadd, 1) := by decide +kernel
theorem dL_law_201 : decode cL_law 201 = .ok (.iaload, 1) := by decide +kernel
theorem dL_law_202 : decode cL_law 202 = .ok (.aload_n 0, 1) := by decide +kernel
theorem dL_law_203 : decode cL_law 203 = .ok (.iload_n 3, 1) := by decide +kernel
theorem dL_law_204 : decode cL_law 204 = .ok (.iconst 2, 1) := by decide +kernel
theorem dL_law_205 : decode cL_law 205 = .ok (.iadd, 1) := by decide +kernel
theorem dL_law_206 : decode cL_law 206 = .ok (.iaload, 1) := by decide +kernel
theorem dL_law_207 : decode cL_law 207 = .ok (.invokevirtual 13, 3) := by decide +kernel
theorem dL_law_210 : decode cL_law 210 = .ok (.aload_n 2, 1) := by decide +kernel
theorem dL_law_211 : decode cL_law 211 = .ok (.aload_n 0, 1) := by decide +kernel
theorem dL_law_212 : decode cL_law 212 = .ok (.iload_n 3, 1) := by decide +kernel
theorem dL_law_213 : decode cL_law 213 = .ok (.iconst 1, 1) := by decide +kernel
theorem dL_law_214 : decode cL_law 214 = .ok (.iadd, 1) := by decide +kernel
theorem dL_law_215 : decode cL_law 215 = .ok (.iaload, 1) := by decide +kernel
theorem dL_law_216 : decode cL_law 216 = .ok (.aload_n 0, 1) := by decide +kernel
theorem dL_law_217 : decode cL_law 217 = .ok (.iload_n 3, 1) := by decide +kernel
theorem dL_law_218 : decode cL_law 218 = .ok (.iconst 2, 1) := by decide +kernel
theorem dL_law_219 : decode cL_law 219 = .ok (.iadd, 1) := by decide +kernel
theorem dL_law_220 : decode cL_law 220 = .ok (.iaload, 1) := by decide +kernel
theorem dL_law_221 : decode cL_law 221 = .ok (.invokevirtual 17, 3) := by decide +kernel
theorem dL_law_224 : decode cL_law 224 = .ok (.if_icmp .eq 1195, 3) := by decide +kernel
theorem dL_law_227 : decode cL_law 227 = .ok (.iconst 0, 1) := by decide +kernel
theorem dL_law_228 : decode cL_law 228 = .ok (.ireturn, 1) := by decide +kernel
theorem dL_law_229 : decode cL_law 229 = .ok (.aload_n 1, 1) := by decide +kernel
theorem dL_law_230 : decode cL_law 230 = .ok (.aload_n 0, 1) := by decide +kernel
theorem dL_law_231 : decode cL_law 231 = .ok (.iload_n 3, 1) := by decide +kernel
theorem dL_law_232 : decode cL_law 232 = .ok (.iconst 1, 1) := by decide +kernel
theorem dL_law_233 : decode cL_law 233 = .ok (.iadd, 1) := by decide +kernel
theorem dL_law_234 : decode cL_law 234 = .ok (.iaload, 1) := by decide +kernel
theorem dL_law_235 : decode cL_law 235 = .ok (.aload_n 0, 1) := by decide +kernel
theorem dL_law_236 : decode cL_law 236 = .ok (.iload_n 3, 1) := by decide +kernel
theorem dL_law_237 : decode cL_law 237 = .ok (.iconst 2, 1) := by decide +kernel
theorem dL_law_238 : decode cL_law 238 = .ok (.iadd, 1) := by decide +kernel
theorem dL_law_239 : decode cL_law 239 = .ok (.iaload, 1) := by decide +kernel
theorem dL_law_240 : decode cL_law 240 = .ok (.aload_n 0, 1) := by decide +kernel
theorem dL_law_241 : decode cL_law 241 = .ok (.iload_n 3, 1) := by decide +kernel
theorem dL_law_242 : decode cL_law 242 = .ok (.iconst 3, 1) := by decide +kernel
theorem dL_law_243 : decode cL_law 243 = .ok (.iadd, 1) := by decide +kernel
theorem dL_law_244 : decode cL_law 244 = .ok (.iaload, 1) := by decide +kernel
theorem dL_law_245 : decode cL_law 245 = .ok (.invokevirtual 18, 3) := by decide +kernel
theorem dL_law_248 : decode cL_law 248 = .ok (.aload_n 2, 1) := by decide +kernel
theorem dL_law_249 : decode cL_law 249 = .ok (.aload_n 0, 1) := by decide +kernel
theorem dL_law_250 : decode cL_law 250 = .ok (.iload_n 3, 1) := by decide +kernel
theorem dL_law_251 : decode cL_law 251 = .ok (.iconst 1, 1) := by decide +kernel
theorem dL_law_252 : decode cL_law 252 = .ok (.iadd, 1) := by decide +kernel
theorem dL_law_253 : decode cL_law 253 = .ok (.iaload, 1) := by decide +kernel
theorem dL_law_254 : decode cL_law 254 = .ok (.aload_n 0, 1) := by decide +kernel
theorem dL_law_255 : decode cL_law 255 = .ok (.iload_n 3, 1) := by decide +kernel
theorem dL_law_256 : decode cL_law 256 = .ok (.iconst 2, 1) := by decide +kernel
theorem dL_law_257 : decode cL_law 257 = .ok (.iadd, 1) := by decide +kernel
theorem dL_law_258 : decode cL_law 258 = .ok (.iaload, 1) := by decide +kernel
theorem dL_law_259 : decode cL_law 259 = .ok (.aload_n 0, 1) := by decide +kernel
theorem dL_law_260 : decode cL_law 260 = .ok (.iload_n 3, 1) := by decide +kernel
theorem dL_law_261 : decode cL_law 261 = .ok (.iconst 3, 1) := by decide +kernel
theorem dL_law_262 : decode cL_law 262 = .ok (.iadd, 1) := by decide +kernel
theorem dL_law_263 : decode cL_law 263 = .ok (.iaload, 1) := by decide +kernel
theorem dL_law_264 : decode cL_law 264 = .ok (.invokevirtual 22, 3) := by decide +kernel
theorem dL_law_267 : decode cL_law 267 = .ok (.if_icmp .eq 1152, 3) := by decide +kernel
theorem dL_law_270 : decode cL_law 270 = .ok (.iconst 0, 1) := by decide +kernel
theorem dL_law_271 : decode cL_law 271 = .ok (.ireturn, 1) := by decide +kernel
theorem dL_law_272 : decode cL_law 272 = .ok (.aload_n 1, 1) := by decide +kernel
theorem dL_law_273 : decode cL_law 273 = .ok (.aload_n 0, 1) := by decide +kernel
theorem dL_law_274 : decode cL_law 274 = .ok (.iload_n 3, 1) := by decide +kernel
theorem dL_law_275 : decode cL_law 275 = .ok (.iconst 1, 1) := by decide +kernel
theorem dL_law_276 : decode cL_law 276 = .ok (.iadd, 1) := by decide +kernel
theorem dL_law_277 : decode cL_law 277 = .ok (.iaload, 1) := by decide +kernel
theorem dL_law_278 : decode cL_law 278 = .ok (.aload_n 0, 1) := by decide +kernel
theorem dL_law_279 : decode cL_law 279 = .ok (.iload_n 3, 1) := by decide +kernel
theorem dL_law_280 : decode cL_law 280 = .ok (.iconst 2, 1) := by decide +kernel
theorem dL_law_281 : decode cL_law 281 = .ok (.iadd, 1) := by decide +kernel
theorem dL_law_282 : decode cL_law 282 = .ok (.iaload, 1) := by decide +kernel
theorem dL_law_283 : decode cL_law 283 = .ok (.aload_n 0, 1) := by decide +kernel
theorem dL_law_284 : decode cL_law 284 = .ok (.iload_n 3, 1) := by decide +kernel
theorem dL_law_285 : decode cL_law 285 = .ok (.iconst 3, 1) := by decide +kernel
theorem dL_law_286 : decode cL_law 286 = .ok (.iadd, 1) := by decide +kernel
theorem dL_law_287 : decode cL_law 287 = .ok (.iaload, 1) := by decide +kernel
theorem dL_law_288 : decode cL_law 288 = .ok (.invokevirtual 23, 3) := by decide +kernel
theorem dL_law_291 : decode cL_law 291 = .ok (.aload_n 2, 1) := by decide +kernel
theorem dL_law_292 : decode cL_law 292 = .ok (.aload_n 0, 1) := by decide +kernel
theorem dL_law_293 : decode cL_law 293 = .ok (.iload_n 3, 1) := by decide +kernel
theorem dL_law_294 : decode cL_law 294 = .ok (.iconst 1, 1) := by decide +kernel
theorem dL_law_295 : decode cL_law 295 = .ok (.iadd, 1) := by decide +kernel
theorem dL_law_296 : decode cL_law 296 = .ok (.iaload, 1) := by decide +kernel
theorem dL_law_297 : decode cL_law 297 = .ok (.aload_n 0, 1) := by decide +kernel
theorem dL_law_298 : decode cL_law 298 = .ok (.iload_n 3, 1) := by decide +kernel
theorem dL_law_299 : decode cL_law 299 = .ok (.iconst 2, 1) := by decide +kernel
theorem dL_law_300 : decode cL_law 300 = .ok (.iadd, 1) := by decide +kernel
theorem dL_law_301 : decode cL_law 301 = .ok (.iaload, 1) := by decide +kernel
theorem dL_law_302 : decode cL_law 302 = .ok (.aload_n 0, 1) := by decide +kernel
theorem dL_law_303 : decode cL_law 303 = .ok (.iload_n 3, 1) := by decide +kernel
theorem dL_law_304 : decode cL_law 304 = .ok (.iconst 3, 1) := by decide +kernel
theorem dL_law_305 : decode cL_law 305 = .ok (.iadd, 1) := by decide +kernel
theorem dL_law_306 : decode cL_law 306 = .ok (.iaload, 1) := by decide +kernel
theorem dL_law_307 : decode cL_law 307 = .ok (.invokevirtual 26, 3) := by decide +kernel
theorem dL_law_310 : decode cL_law 310 = .ok (.if_icmp .eq 1109, 3) := by decide +kernel
theorem dL_law_313 : decode cL_law 313 = .ok (.iconst 0, 1) := by decide +kernel
theorem dL_law_314 : decode cL_law 314 = .ok (.ireturn, 1) := by decide +kernel
theorem dL_law_315 : decode cL_law 315 = .ok (.aload_n 1, 1) := by decide +kernel
theorem dL_law_316 : decode cL_law 316 = .ok (.aload_n 0, 1) := by decide +kernel
theorem dL_law_317 : decode cL_law 317 = .ok (.iload_n 3, 1) := by decide +kernel
theorem dL_law_318 : decode cL_law 318 = .ok (.iconst 1, 1) := by decide +kernel
theorem dL_law_319 : decode cL_law 319 = .ok (.iadd, 1) := by decide +kernel
theorem dL_law_320 : decode cL_law 320 = .ok (.iaload, 1) := by decide +kernel
theorem dL_law_321 : decode cL_law 321 = .ok (.aload_n 0, 1) := by decide +kernel
theorem dL_law_322 : decode cL_law 322 = .ok (.iload_n 3, 1) := by decide +kernel
theorem dL_law_323 : decode cL_law 323 = .ok (.iconst 2, 1) := by decide +kernel
theorem dL_law_324 : decode cL_law 324 = .ok (.iadd, 1) := by decide +kernel
theorem dL_law_325 : decode cL_law 325 = .ok (.iaload, 1) := by decide +kernel
theorem dL_law_326 : decode cL_law 326 = .ok (.invokevirtual 27, 3) := by decide +kernel
theorem dL_law_329 : decode cL_law 329 = .ok (.aload_n 2, 1) := by decide +kernel
theorem dL_law_330 : decode cL_law 330 = .ok (.aload_n 0, 1) := by decide +kernel
theorem dL_law_331 : decode cL_law 331 = .ok (.iload_n 3, 1) := by decide +kernel
theorem dL_law_332 : decode cL_law 332 = .ok (.iconst 1, 1) := by decide +kernel
theorem dL_law_333 : decode cL_law 333 = .ok (.iadd, 1) := by decide +kernel
theorem dL_law_334 : decode cL_law 334 = .ok (.iaload, 1) := by decide +kernel
theorem dL_law_335 : decode cL_law 335 = .ok (.aload_n 0, 1) := by decide +kernel
theorem dL_law_336 : decode cL_law 336 = .ok (.iload_n 3, 1) := by decide +kernel
theorem dL_law_337 : decode cL_law 337 = .ok (.iconst 2, 1) := by decide +kernel
theorem dL_law_338 : decode cL_law 338 = .ok (.iadd, 1) := by decide +kernel
theorem dL_law_339 : decode cL_law 339 = .ok (.iaload, 1) := by decide +kernel
theorem dL_law_340 : decode cL_law 340 = .ok (.invokevirtual 30, 3) := by decide +kernel
theorem dL_law_343 : decode cL_law 343 = .ok (.if_icmp .eq 1076, 3) := by decide +kernel
theorem dL_law_346 : decode cL_law 346 = .ok (.iconst 0, 1) := by decide +kernel
theorem dL_law_347 : decode cL_law 347 = .ok (.ireturn, 1) := by decide +kernel
theorem dL_law_348 : decode cL_law 348 = .ok (.aload_n 1, 1) := by decide +kernel
theorem dL_law_349 : decode cL_law 349 = .ok (.aload_n 0, 1) := by decide +kernel
theorem dL_law_350 : decode cL_law 350 = .ok (.iload_n 3, 1) := by decide +kernel
theorem dL_law_351 : decode cL_law 351 = .ok (.iconst 1, 1) := by decide +kernel
theorem dL_law_352 : decode cL_law 352 = .ok (.iadd, 1) := by decide +kernel
theorem dL_law_353 : decode cL_law 353 = .ok (.iaload, 1) := by decide +kernel
theorem dL_law_354 : decode cL_law 354 = .ok (.invokevirtual 31, 3) := by decide +kernel
theorem dL_law_357 : decode cL_law 357 = .ok (.aload_n 2, 1) := by decide +kernel
theorem dL_law_358 : decode cL_law 358 = .ok (.aload_n 0, 1) := by decide +kernel
theorem dL_law_359 : decode cL_law 359 = .ok (.iload_n 3, 1) := by decide +kernel
theorem dL_law_360 : decode cL_law 360 = .ok (.iconst 1, 1) := by decide +kernel
theorem dL_law_361 : decode cL_law 361 = .ok (.iadd, 1) := by decide +kernel
theorem dL_law_362 : decode cL_law 362 = .ok (.iaload, 1) := by decide +kernel
theorem dL_law_363 : decode cL_law 363 = .ok (.invokevirtual 35, 3) := by decide +kernel
theorem dL_law_366 : decode cL_law 366 = .ok (.if_icmp .eq 1053, 3) := by decide +kernel
theorem dL_law_369 : decode cL_law 369 = .ok (.iconst 0, 1) := by decide +kernel
theorem dL_law_370 : decode cL_law 370 = .ok (.ireturn, 1) := by decide +kernel
theorem dL_law_371 : decode cL_law 371 = .ok (.aload_n 1, 1) := by decide +kernel
theorem dL_law_372 : decode cL_law 372 = .ok (.aload_n 0, 1) := by decide +kernel
theorem dL_law_373 : decode cL_law 373 = .ok (.iload_n 3, 1) := by decide +kernel
theorem dL_law_374 : decode cL_law 374 = .ok (.iconst 1, 1) := by decide +kernel
theorem dL_law_375 : decode cL_law 375 = .ok (.iadd, 1) := by decide +kernel
theorem dL_law_376 : decode cL_law 376 = .ok (.iaload, 1) := by decide +kernel
theorem dL_law_377 : decode cL_law 377 = .ok (.aload_n 0, 1) := by decide +kernel
theorem dL_law_378 : decode cL_law 378 = .ok (.iload_n 3, 1) := by decide +kernel
theorem dL_law_379 : decode cL_law 379 = .ok (.iconst 2, 1) := by decide +kernel
theorem dL_law_380 : decode cL_law 380 = .ok (.iadd, 1) := by decide +kernel
theorem dL_law_381 : decode cL_law 381 = .ok (.iaload, 1) := by decide +kernel
theorem dL_law_382 : decode cL_law 382 = .ok (.invokevirtual 36, 3) := by decide +kernel
theorem dL_law_385 : decode cL_law 385 = .ok (.aload_n 2, 1) := by decide +kernel
theorem dL_law_386 : decode cL_law 386 = .ok (.aload_n 0, 1) := by decide +kernel
theorem dL_law_387 : decode cL_law 387 = .ok (.iload_n 3, 1) := by decide +kernel
theorem dL_law_388 : decode cL_law 388 = .ok (.iconst 1, 1) := by decide +kernel
theorem dL_law_389 : decode cL_law 389 = .ok (.iadd, 1) := by decide +kernel
theorem dL_law_390 : decode cL_law 390 = .ok (.iaload, 1) := by decide +kernel
theorem dL_law_391 : decode cL_law 391 = .ok (.aload_n 0, 1) := by decide +kernel
theorem dL_law_392 : decode cL_law 392 = .ok (.iload_n 3, 1) := by decide +kernel
theorem dL_law_393 : decode cL_law 393 = .ok (.iconst 2, 1) := by decide +kernel
theorem dL_law_394 : decode cL_law 394 = .ok (.iadd, 1) := by decide +kernel
theorem dL_law_395 : decode cL_law 395 = .ok (.iaload, 1) := by decide +kernel
theorem dL_law_396 : decode cL_law 396 = .ok (.invokevirtual 39, 3) := by decide +kernel
theorem dL_law_399 : decode cL_law 399 = .ok (.if_icmp .eq 1020, 3) := by decide +kernel
theorem dL_law_402 : decode cL_law 402 = .ok (.iconst 0, 1) := by decide +kernel
theorem dL_law_403 : decode cL_law 403 = .ok (.ireturn, 1) := by decide +kernel
theorem dL_law_404 : decode cL_law 404 = .ok (.aload_n 1, 1) := by decide +kernel
theorem dL_law_405 : decode cL_law 405 = .ok (.aload_n 0, 1) := by decide +kernel
theorem dL_law_406 : decode cL_law 406 = .ok (.iload_n 3, 1) := by decide +kernel
theorem dL_law_407 : decode cL_law 407 = .ok (.iconst 1, 1) := by decide +kernel
theorem dL_law_408 : decode cL_law 408 = .ok (.iadd, 1) := by decide +kernel
theorem dL_law_409 : decode cL_law 409 = .ok (.iaload, 1) := by decide +kernel
theorem dL_law_410 : decode cL_law 410 = .ok (.aload_n 0, 1) := by decide +kernel
theorem dL_law_411 : decode cL_law 411 = .ok (.iload_n 3, 1) := by decide +kernel
theorem dL_law_412 : decode cL_law 412 = .ok (.iconst 2, 1) := by decide +kernel
theorem dL_law_413 : decode cL_law 413 = .ok (.iadd, 1) := by decide +kernel
theorem dL_law_414 : decode cL_law 414 = .ok (.iaload, 1) := by decide +kernel
theorem dL_law_415 : decode cL_law 415 = .ok (.invokevirtual 40, 3) := by decide +kernel
theorem dL_law_418 : decode cL_law 418 = .ok (.aload_n 2, 1) := by decide +kernel
theorem dL_law_419 : decode cL_law 419 = .ok (.aload_n 0, 1) := by decide +kernel
theorem dL_law_420 : decode cL_law 420 = .ok (.iload_n 3, 1) := by decide +kernel
theorem dL_law_421 : decode cL_law 421 = .ok (.iconst 1, 1) := by decide +kernel
theorem dL_law_422 : decode cL_law 422 = .ok (.iadd, 1) := by decide +kernel
theorem dL_law_423 : decode cL_law 423 = .ok (.iaload, 1) := by decide +kernel
theorem dL_law_424 : decode cL_law 424 = .ok (.aload_n 0, 1) := by decide +kernel
theorem dL_law_425 : decode cL_law 425 = .ok (.iload_n 3, 1) := by decide +kernel
theorem dL_law_426 : decode cL_law 426 = .ok (.iconst 2, 1) := by decide +kernel
theorem dL_law_427 : decode cL_law 427 = .ok (.iadd, 1) := by decide +kernel
theorem dL_law_428 : decode cL_law 428 = .ok (.iaload, 1) := by decide +kernel
theorem dL_law_429 : decode cL_law 429 = .ok (.invokevirtual 43, 3) := by decide +kernel
theorem dL_law_432 : decode cL_law 432 = .ok (.if_icmp .eq 987, 3) := by decide +kernel
theorem dL_law_435 : decode cL_law 435 = .ok (.iconst 0, 1) := by decide +kernel
theorem dL_law_436 : decode cL_law 436 = .ok (.ireturn, 1) := by decide +kernel
theorem dL_law_437 : decode cL_law 437 = .ok (.aload_n 1, 1) := by decide +kernel
theorem dL_law_438 : decode cL_law 438 = .ok (.aload_n 0, 1) := by decide +kernel
theorem dL_law_439 : decode cL_law 439 = .ok (.iload_n 3, 1) := by decide +kernel
theorem dL_law_440 : decode cL_law 440 = .ok (.iconst 1, 1) := by decide +kernel
theorem dL_law_441 : decode cL_law 441 = .ok (.iadd, 1) := by decide +kernel
theorem dL_law_442 : decode cL_law 442 = .ok (.iaload, 1) := by decide +kernel
theorem dL_law_443 : decode cL_law 443 = .ok (.aload_n 0, 1) := by decide +kernel
theorem dL_law_444 : decode cL_law 444 = .ok (.iload_n 3, 1) := by decide +kernel
theorem dL_law_445 : decode cL_law 445 = .ok (.iconst 2, 1) := by decide +kernel
theorem dL_law_446 : decode cL_law 446 = .ok (.iadd, 1) := by decide +kernel
theorem dL_law_447 : decode cL_law 447 = .ok (.iaload, 1) := by decide +kernel
theorem dL_law_448 : decode cL_law 448 = .ok (.invokevirtual 44, 3) := by decide +kernel
theorem dL_law_451 : decode cL_law 451 = .ok (.aload_n 2, 1) := by decide +kernel
theorem dL_law_452 : decode cL_law 452 = .ok (.aload_n 0, 1) := by decide +kernel
theorem dL_law_453 : decode cL_law 453 = .ok (.iload_n 3, 1) := by decide +kernel
theorem dL_law_454 : decode cL_law 454 = .ok (.iconst 1, 1) := by decide +kernel
theorem dL_law_455 : decode cL_law 455 = .ok (.iadd, 1) := by decide +kernel
theorem dL_law_456 : decode cL_law 456 = .ok (.iaload, 1) := by decide +kernel
theorem dL_law_457 : decode cL_law 457 = .ok (.aload_n 0, 1) := by decide +kernel
theorem dL_law_458 : decode cL_law 458 = .ok (.iload_n 3, 1) := by decide +kernel
theorem dL_law_459 : decode cL_law 459 = .ok (.iconst 2, 1) := by decide +kernel
theorem dL_law_460 : decode cL_law 460 = .ok (.iadd, 1) := by decide +kernel
theorem dL_law_461 : decode cL_law 461 = .ok (.iaload, 1) := by decide +kernel
theorem dL_law_462 : decode cL_law 462 = .ok (.invokevirtual 47, 3) := by decide +kernel
theorem dL_law_465 : decode cL_law 465 = .ok (.if_icmp .eq 954, 3) := by decide +kernel
theorem dL_law_468 : decode cL_law 468 = .ok (.iconst 0, 1) := by decide +kernel
theorem dL_law_469 : decode cL_law 469 = .ok (.ireturn, 1) := by decide +kernel
theorem dL_law_470 : decode cL_law 470 = .ok (.aload_n 1, 1) := by decide +kernel
theorem dL_law_471 : decode cL_law 471 = .ok (.aload_n 0, 1) := by decide +kernel
theorem dL_law_472 : decode cL_law 472 = .ok (.iload_n 3, 1) := by decide +kernel
theorem dL_law_473 : decode cL_law 473 = .ok (.iconst 1, 1) := by decide +kernel
theorem dL_law_474 : decode cL_law 474 = .ok (.iadd, 1) := by decide +kernel
theorem dL_law_475 : decode cL_law 475 = .ok (.iaload, 1) := by decide +kernel
theorem dL_law_476 : decode cL_law 476 = .ok (.aload_n 0, 1) := by decide +kernel
theorem dL_law_477 : decode cL_law 477 = .ok (.iload_n 3, 1) := by decide +kernel
theorem dL_law_478 : decode cL_law 478 = .ok (.iconst 2, 1) := by decide +kernel
theorem dL_law_479 : decode cL_law 479 = .ok (.iadd, 1) := by decide +kernel
theorem dL_law_480 : decode cL_law 480 = .ok (.iaload, 1) := by decide +kernel
theorem dL_law_481 : decode cL_law 481 = .ok (.invokevirtual 48, 3) := by decide +kernel
theorem dL_law_484 : decode cL_law 484 = .ok (.aload_n 2, 1) := by decide +kernel
theorem dL_law_485 : decode cL_law 485 = .ok (.aload_n 0, 1) := by decide +kernel
theorem dL_law_486 : decode cL_law 486 = .ok (.iload_n 3, 1) := by decide +kernel
theorem dL_law_487 : decode cL_law 487 = .ok (.iconst 1, 1) := by decide +kernel
theorem dL_law_488 : decode cL_law 488 = .ok (.iadd, 1) := by decide +kernel
theorem dL_law_489 : decode cL_law 489 = .ok (.iaload, 1) := by decide +kernel
theorem dL_law_490 : decode cL_law 490 = .ok (.aload_n 0, 1) := by decide +kernel
theorem dL_law_491 : decode cL_law 491 = .ok (.iload_n 3, 1) := by decide +kernel
theorem dL_law_492 : decode cL_law 492 = .ok (.iconst 2, 1) := by decide +kernel
theorem dL_law_493 : decode cL_law 493 = .ok (.iadd, 1) := by decide +kernel
theorem dL_law_494 : decode cL_law 494 = .ok (.iaload, 1) := by decide +kernel
theorem dL_law_495 : decode cL_law 495 = .ok (.invokevirtual 51, 3) := by decide +kernel
theorem dL_law_498 : decode cL_law 498 = .ok (.if_icmp .eq 921, 3) := by decide +kernel
theorem dL_law_501 : decode cL_law 501 = .ok (.iconst 0, 1) := by decide +kernel
theorem dL_law_502 : decode cL_law 502 = .ok (.ireturn, 1) := by decide +kernel
theorem dL_law_503 : decode cL_law 503 = .ok (.aload_n 1, 1) := by decide +kernel
theorem dL_law_504 : decode cL_law 504 = .ok (.aload_n 0, 1) := by decide +kernel
theorem dL_law_505 : decode cL_law 505 = .ok (.iload_n 3, 1) := by decide +kernel
theorem dL_law_506 : decode cL_law 506 = .ok (.iconst 1, 1) := by decide +kernel
theorem dL_law_507 : decode cL_law 507 = .ok (.iadd, 1) := by decide +kernel
theorem dL_law_508 : decode cL_law 508 = .ok (.iaload, 1) := by decide +kernel
theorem dL_law_509 : decode cL_law 509 = .ok (.aload_n 0, 1) := by decide +kernel
theorem dL_law_510 : decode cL_law 510 = .ok (.iload_n 3, 1) := by decide +kernel
theorem dL_law_511 : decode cL_law 511 = .ok (.iconst 2, 1) := by decide +kernel
theorem dL_law_512 : decode cL_law 512 = .ok (.iadd, 1) := by decide +kernel
theorem dL_law_513 : decode cL_law 513 = .ok (.iaload, 1) := by decide +kernel
theorem dL_law_514 : decode cL_law 514 = .ok (.aload_n 0, 1) := by decide +kernel
theorem dL_law_515 : decode cL_law 515 = .ok (.iload_n 3, 1) := by decide +kernel
theorem dL_law_516 : decode cL_law 516 = .ok (.iconst 3, 1) := by decide +kernel
theorem dL_law_517 : decode cL_law 517 = .ok (.iadd, 1) := by decide +kernel
theorem dL_law_518 : decode cL_law 518 = .ok (.iaload, 1) := by decide +kernel
theorem dL_law_519 : decode cL_law 519 = .ok (.invokevirtual 52, 3) := by decide +kernel
theorem dL_law_522 : decode cL_law 522 = .ok (.aload_n 2, 1) := by decide +kernel
theorem dL_law_523 : decode cL_law 523 = .ok (.aload_n 0, 1) := by decide +kernel
theorem dL_law_524 : decode cL_law 524 = .ok (.iload_n 3, 1) := by decide +kernel
theorem dL_law_525 : decode cL_law 525 = .ok (.iconst 1, 1) := by decide +kernel
theorem dL_law_526 : decode cL_law 526 = .ok (.iadd, 1) := by decide +kernel
theorem dL_law_527 : decode cL_law 527 = .ok (.iaload, 1) := by decide +kernel
theorem dL_law_528 : decode cL_law 528 = .ok (.aload_n 0, 1) := by decide +kernel
theorem dL_law_529 : decode cL_law 529 = .ok (.iload_n 3, 1) := by decide +kernel
theorem dL_law_530 : decode cL_law 530 = .ok (.iconst 2, 1) := by decide +kernel
theorem dL_law_531 : decode cL_law 531 = .ok (.iadd, 1) := by decide +kernel
theorem dL_law_532 : decode cL_law 532 = .ok (.iaload, 1) := by decide +kernel
theorem dL_law_533 : decode cL_law 533 = .ok (.aload_n 0, 1) := by decide +kernel
theorem dL_law_534 : decode cL_law 534 = .ok (.iload_n 3, 1) := by decide +kernel
theorem dL_law_535 : decode cL_law 535 = .ok (.iconst 3, 1) := by decide +kernel
theorem dL_law_536 : decode cL_law 536 = .ok (.iadd, 1) := by decide +kernel
theorem dL_law_537 : decode cL_law 537 = .ok (.iaload, 1) := by decide +kernel
theorem dL_law_538 : decode cL_law 538 = .ok (.invokevirtual 55, 3) := by decide +kernel
theorem dL_law_541 : decode cL_law 541 = .ok (.if_icmp .eq 878, 3) := by decide +kernel
theorem dL_law_544 : decode cL_law 544 = .ok (.iconst 0, 1) := by decide +kernel
theorem dL_law_545 : decode cL_law 545 = .ok (.ireturn, 1) := by decide +kernel
theorem dL_law_546 : decode cL_law 546 = .ok (.aload_n 1, 1) := by decide +kernel
theorem dL_law_547 : decode cL_law 547 = .ok (.aload_n 0, 1) := by decide +kernel
theorem dL_law_548 : decode cL_law 548 = .ok (.iload_n 3, 1) := by decide +kernel
theorem dL_law_549 : decode cL_law 549 = .ok (.iconst 1, 1) := by decide +kernel
theorem dL_law_550 : decode cL_law 550 = .ok (.iadd, 1) := by decide +kernel
theorem dL_law_551 : decode cL_law 551 = .ok (.iaload, 1) := by decide +kernel
theorem dL_law_552 : decode cL_law 552 = .ok (.aload_n 0, 1) := by decide +kernel
theorem dL_law_553 : decode cL_law 553 = .ok (.iload_n 3, 1) := by decide +kernel
theorem dL_law_554 : decode cL_law 554 = .ok (.iconst 2, 1) := by decide +kernel
theorem dL_law_555 : decode cL_law 555 = .ok (.iadd, 1) := by decide +kernel
theorem dL_law_556 : decode cL_law 556 = .ok (.iaload, 1) := by decide +kernel
theorem dL_law_557 : decode cL_law 557 = .ok (.invokevirtual 56, 3) := by decide +kernel
theorem dL_law_560 : decode cL_law 560 = .ok (.aload_n 2, 1) := by decide +kernel
theorem dL_law_561 : decode cL_law 561 = .ok (.aload_n 0, 1) := by decide +kernel
theorem dL_law_562 : decode cL_law 562 = .ok (.iload_n 3, 1) := by decide +kernel
theorem dL_law_563 : decode cL_law 563 = .ok (.iconst 1, 1) := by decide +kernel
theorem dL_law_564 : decode cL_law 564 = .ok (.iadd, 1) := by decide +kernel
theorem dL_law_565 : decode cL_law 565 = .ok (.iaload, 1) := by decide +kernel
theorem dL_law_566 : decode cL_law 566 = .ok (.aload_n 0, 1) := by decide +kernel
theorem dL_law_567 : decode cL_law 567 = .ok (.iload_n 3, 1) := by decide +kernel
theorem dL_law_568 : decode cL_law 568 = .ok (.iconst 2, 1) := by decide +kernel
theorem dL_law_569 : decode cL_law 569 = .ok (.iadd, 1) := by decide +kernel
theorem dL_law_570 : decode cL_law 570 = .ok (.iaload, 1) := by decide +kernel
theorem dL_law_571 : decode cL_law 571 = .ok (.invokevirtual 59, 3) := by decide +kernel
theorem dL_law_574 : decode cL_law 574 = .ok (.if_icmp .eq 845, 3) := by decide +kernel
theorem dL_law_577 : decode cL_law 577 = .ok (.iconst 0, 1) := by decide +kernel
theorem dL_law_578 : decode cL_law 578 = .ok (.ireturn, 1) := by decide +kernel
theorem dL_law_579 : decode cL_law 579 = .ok (.aload_n 1, 1) := by decide +kernel
theorem dL_law_580 : decode cL_law 580 = .ok (.aload_n 0, 1) := by decide +kernel
theorem dL_law_581 : decode cL_law 581 = .ok (.iload_n 3, 1) := by decide +kernel
theorem dL_law_582 : decode cL_law 582 = .ok (.iconst 1, 1) := by decide +kernel
theorem dL_law_583 : decode cL_law 583 = .ok (.iadd, 1) := by decide +kernel
theorem dL_law_584 : decode cL_law 584 = .ok (.iaload, 1) := by decide +kernel
theorem dL_law_585 : decode cL_law 585 = .ok (.aload_n 0, 1) := by decide +kernel
theorem dL_law_586 : decode cL_law 586 = .ok (.iload_n 3, 1) := by decide +kernel
theorem dL_law_587 : decode cL_law 587 = .ok (.iconst 2, 1) := by decide +kernel
theorem dL_law_588 : decode cL_law 588 = .ok (.iadd, 1) := by decide +kernel
theorem dL_law_589 : decode cL_law 589 = .ok (.iaload, 1) := by decide +kernel
theorem dL_law_590 : decode cL_law 590 = .ok (.invokevirtual 60, 3) := by decide +kernel
theorem dL_law_593 : decode cL_law 593 = .ok (.aload_n 2, 1) := by decide +kernel
theorem dL_law_594 : decode cL_law 594 = .ok (.aload_n 0, 1) := by decide +kernel
theorem dL_law_595 : decode cL_law 595 = .ok (.iload_n 3, 1) := by decide +kernel
theorem dL_law_596 : decode cL_law 596 = .ok (.iconst 1, 1) := by decide +kernel
theorem dL_law_597 : decode cL_law 597 = .ok (.iadd, 1) := by decide +kernel
theorem dL_law_598 : decode cL_law 598 = .ok (.iaload, 1) := by decide +kernel
theorem dL_law_599 : decode cL_law 599 = .ok (.aload_n 0, 1) := by decide +kernel
theorem dL_law_600 : decode cL_law 600 = .ok (.iload_n 3, 1) := by decide +kernel
theorem dL_law_601 : decode cL_law 601 = .ok (.iconst 2, 1) := by decide +kernel
theorem dL_law_602 : decode cL_law 602 = .ok (.iadd, 1) := by decide +kernel
theorem dL_law_603 : decode cL_law 603 = .ok (.iaload, 1) := by decide +kernel
theorem dL_law_604 : decode cL_law 604 = .ok (.invokevirtual 63, 3) := by decide +kernel
theorem dL_law_607 : decode cL_law 607 = .ok (.if_icmp .eq 812, 3) := by decide +kernel
theorem dL_law_610 : decode cL_law 610 = .ok (.iconst 0, 1) := by decide +kernel
theorem dL_law_611 : decode cL_law 611 = .ok (.ireturn, 1) := by decide +kernel
theorem dL_law_612 : decode cL_law 612 = .ok (.aload_n 1, 1) := by decide +kernel
theorem dL_law_613 : decode cL_law 613 = .ok (.aload_n 0, 1) := by decide +kernel
theorem dL_law_614 : decode cL_law 614 = .ok (.iload_n 3, 1) := by decide +kernel
theorem dL_law_615 : decode cL_law 615 = .ok (.iconst 1, 1) := by decide +kernel
theorem dL_law_616 : decode cL_law 616 = .ok (.iadd, 1) := by decide +kernel
theorem dL_law_617 : decode cL_law 617 = .ok (.iaload, 1) := by decide +kernel
theorem dL_law_618 : decode cL_law 618 = .ok (.aload_n 0, 1) := by decide +kernel
theorem dL_law_619 : decode cL_law 619 = .ok (.iload_n 3, 1) := by decide +kernel
theorem dL_law_620 : decode cL_law 620 = .ok (.iconst 2, 1) := by decide +kernel
theorem dL_law_621 : decode cL_law 621 = .ok (.iadd, 1) := by decide +kernel
theorem dL_law_622 : decode cL_law 622 = .ok (.iaload, 1) := by decide +kernel
theorem dL_law_623 : decode cL_law 623 = .ok (.invokevirtual 64, 3) := by decide +kernel
theorem dL_law_626 : decode cL_law 626 = .ok (.aload_n 2, 1) := by decide +kernel
theorem dL_law_627 : decode cL_law 627 = .ok (.aload_n 0, 1) := by decide +kernel
theorem dL_law_628 : decode cL_law 628 = .ok (.iload_n 3, 1) := by decide +kernel
theorem dL_law_629 : decode cL_law 629 = .ok (.iconst 1, 1) := by decide +kernel
theorem dL_law_630 : decode cL_law 630 = .ok (.iadd, 1) := by decide +kernel
theorem dL_law_631 : decode cL_law 631 = .ok (.iaload, 1) := by decide +kernel
theorem dL_law_632 : decode cL_law 632 = .ok (.aload_n 0, 1) := by decide +kernel
theorem dL_law_633 : decode cL_law 633 = .ok (.iload_n 3, 1) := by decide +kernel
theorem dL_law_634 : decode cL_law 634 = .ok (.iconst 2, 1) := by decide +kernel
theorem dL_law_635 : decode cL_law 635 = .ok (.iadd, 1) := by decide +kernel
theorem dL_law_636 : decode cL_law 636 = .ok (.iaload, 1) := by decide +kernel
theorem dL_law_637 : decode cL_law 637 = .ok (.invokevirtual 67, 3) := by decide +kernel
theorem dL_law_640 : decode cL_law 640 = .ok (.if_icmp .eq 779, 3) := by decide +kernel
theorem dL_law_643 : decode cL_law 643 = .ok (.iconst 0, 1) := by decide +kernel
theorem dL_law_644 : decode cL_law 644 = .ok (.ireturn, 1) := by decide +kernel
theorem dL_law_645 : decode cL_law 645 = .ok (.aload_n 1, 1) := by decide +kernel
theorem dL_law_646 : decode cL_law 646 = .ok (.aload_n 0, 1) := by decide +kernel
theorem dL_law_647 : decode cL_law 647 = .ok (.iload_n 3, 1) := by decide +kernel
theorem dL_law_648 : decode cL_law 648 = .ok (.iconst 1, 1) := by decide +kernel
theorem dL_law_649 : decode cL_law 649 = .ok (.iadd, 1) := by decide +kernel
theorem dL_law_650 : decode cL_law 650 = .ok (.iaload, 1) := by decide +kernel
theorem dL_law_651 : decode cL_law 651 = .ok (.aload_n 0, 1) := by decide +kernel
theorem dL_law_652 : decode cL_law 652 = .ok (.iload_n 3, 1) := by decide +kernel
theorem dL_law_653 : decode cL_law 653 = .ok (.iconst 2, 1) := by decide +kernel
theorem dL_law_654 : decode cL_law 654 = .ok (.iadd, 1) := by decide +kernel
theorem dL_law_655 : decode cL_law 655 = .ok (.iaload, 1) := by decide +kernel
theorem dL_law_656 : decode cL_law 656 = .ok (.invokevirtual 68, 3) := by decide +kernel
theorem dL_law_659 : decode cL_law 659 = .ok (.aload_n 2, 1) := by decide +kernel
theorem dL_law_660 : decode cL_law 660 = .ok (.aload_n 0, 1) := by decide +kernel
theorem dL_law_661 : decode cL_law 661 = .ok (.iload_n 3, 1) := by decide +kernel
theorem dL_law_662 : decode cL_law 662 = .ok (.iconst 1, 1) := by decide +kernel
theorem dL_law_663 : decode cL_law 663 = .ok (.iadd, 1) := by decide +kernel
theorem dL_law_664 : decode cL_law 664 = .ok (.iaload, 1) := by decide +kernel
theorem dL_law_665 : decode cL_law 665 = .ok (.aload_n 0, 1) := by decide +kernel
theorem dL_law_666 : decode cL_law 666 = .ok (.iload_n 3, 1) := by decide +kernel
theorem dL_law_667 : decode cL_law 667 = .ok (.iconst 2, 1) := by decide +kernel
theorem dL_law_668 : decode cL_law 668 = .ok (.iadd, 1) := by decide +kernel
theorem dL_law_669 : decode cL_law 669 = .ok (.iaload, 1) := by decide +kernel
theorem dL_law_670 : decode cL_law 670 = .ok (.invokevirtual 71, 3) := by decide +kernel
theorem dL_law_673 : decode cL_law 673 = .ok (.if_icmp .eq 746, 3) := by decide +kernel
theorem dL_law_676 : decode cL_law 676 = .ok (.iconst 0, 1) := by decide +kernel
theorem dL_law_677 : decode cL_law 677 = .ok (.ireturn, 1) := by decide +kernel
theorem dL_law_678 : decode cL_law 678 = .ok (.aload_n 1, 1) := by decide +kernel
theorem dL_law_679 : decode cL_law 679 = .ok (.aload_n 0, 1) := by decide +kernel
theorem dL_law_680 : decode cL_law 680 = .ok (.iload_n 3, 1) := by decide +kernel
theorem dL_law_681 : decode cL_law 681 = .ok (.iconst 1, 1) := by decide +kernel
theorem dL_law_682 : decode cL_law 682 = .ok (.iadd, 1) := by decide +kernel
theorem dL_law_683 : decode cL_law 683 = .ok (.iaload, 1) := by decide +kernel
theorem dL_law_684 : decode cL_law 684 = .ok (.aload_n 0, 1) := by decide +kernel
theorem dL_law_685 : decode cL_law 685 = .ok (.iload_n 3, 1) := by decide +kernel
theorem dL_law_686 : decode cL_law 686 = .ok (.iconst 2, 1) := by decide +kernel
theorem dL_law_687 : decode cL_law 687 = .ok (.iadd, 1) := by decide +kernel
theorem dL_law_688 : decode cL_law 688 = .ok (.iaload, 1) := by decide +kernel
theorem dL_law_689 : decode cL_law 689 = .ok (.invokevirtual 72, 3) := by decide +kernel
theorem dL_law_692 : decode cL_law 692 = .ok (.aload_n 2, 1) := by decide +kernel
theorem dL_law_693 : decode cL_law 693 = .ok (.aload_n 0, 1) := by decide +kernel
theorem dL_law_694 : decode cL_law 694 = .ok (.iload_n 3, 1) := by decide +kernel
theorem dL_law_695 : decode cL_law 695 = .ok (.iconst 1, 1) := by decide +kernel
theorem dL_law_696 : decode cL_law 696 = .ok (.iadd, 1) := by decide +kernel
theorem dL_law_697 : decode cL_law 697 = .ok (.iaload, 1) := by decide +kernel
theorem dL_law_698 : decode cL_law 698 = .ok (.aload_n 0, 1) := by decide +kernel
theorem dL_law_699 : decode cL_law 699 = .ok (.iload_n 3, 1) := by decide +kernel
theorem dL_law_700 : decode cL_law 700 = .ok (.iconst 2, 1) := by decide +kernel
theorem dL_law_701 : decode cL_law 701 = .ok (.iadd, 1) := by decide +kernel
theorem dL_law_702 : decode cL_law 702 = .ok (.iaload, 1) := by decide +kernel
theorem dL_law_703 : decode cL_law 703 = .ok (.invokevirtual 75, 3) := by decide +kernel
theorem dL_law_706 : decode cL_law 706 = .ok (.if_icmp .eq 713, 3) := by decide +kernel
theorem dL_law_709 : decode cL_law 709 = .ok (.iconst 0, 1) := by decide +kernel
theorem dL_law_710 : decode cL_law 710 = .ok (.ireturn, 1) := by decide +kernel
theorem dL_law_711 : decode cL_law 711 = .ok (.aload_n 1, 1) := by decide +kernel
theorem dL_law_712 : decode cL_law 712 = .ok (.aload_n 0, 1) := by decide +kernel
theorem dL_law_713 : decode cL_law 713 = .ok (.iload_n 3, 1) := by decide +kernel
theorem dL_law_714 : decode cL_law 714 = .ok (.iconst 1, 1) := by decide +kernel
theorem dL_law_715 : decode cL_law 715 = .ok (.iadd, 1) := by decide +kernel
theorem dL_law_716 : decode cL_law 716 = .ok (.iaload, 1) := by decide +kernel
theorem dL_law_717 : decode cL_law 717 = .ok (.aload_n 0, 1) := by decide +kernel
theorem dL_law_718 : decode cL_law 718 = .ok (.iload_n 3, 1) := by decide +kernel
theorem dL_law_719 : decode cL_law 719 = .ok (.iconst 2, 1) := by decide +kernel
theorem dL_law_720 : decode cL_law 720 = .ok (.iadd, 1) := by decide +kernel
theorem dL_law_721 : decode cL_law 721 = .ok (.iaload, 1) := by decide +kernel
theorem dL_law_722 : decode cL_law 722 = .ok (.invokevirtual 76, 3) := by decide +kernel
theorem dL_law_725 : decode cL_law 725 = .ok (.aload_n 2, 1) := by decide +kernel
theorem dL_law_726 : decode cL_law 726 = .ok (.aload_n 0, 1) := by decide +kernel
theorem dL_law_727 : decode cL_law 727 = .ok (.iload_n 3, 1) := by decide +kernel
theorem dL_law_728 : decode cL_law 728 = .ok (.iconst 1, 1) := by decide +kernel
theorem dL_law_729 : decode cL_law 729 = .ok (.iadd, 1) := by decide +kernel
theorem dL_law_730 : decode cL_law 730 = .ok (.iaload, 1) := by decide +kernel
theorem dL_law_731 : decode cL_law 731 = .ok (.aload_n 0, 1) := by decide +kernel
theorem dL_law_732 : decode cL_law 732 = .ok (.iload_n 3, 1) := by decide +kernel
theorem dL_law_733 : decode cL_law 733 = .ok (.iconst 2, 1) := by decide +kernel
theorem dL_law_734 : decode cL_law 734 = .ok (.iadd, 1) := by decide +kernel
theorem dL_law_735 : decode cL_law 735 = .ok (.iaload, 1) := by decide +kernel
theorem dL_law_736 : decode cL_law 736 = .ok (.invokevirtual 79, 3) := by decide +kernel
theorem dL_law_739 : decode cL_law 739 = .ok (.if_icmp .eq 680, 3) := by decide +kernel
theorem dL_law_742 : decode cL_law 742 = .ok (.iconst 0, 1) := by decide +kernel
theorem dL_law_743 : decode cL_law 743 = .ok (.ireturn, 1) := by decide +kernel
theorem dL_law_744 : decode cL_law 744 = .ok (.aload_n 1, 1) := by decide +kernel
theorem dL_law_745 : decode cL_law 745 = .ok (.invokevirtual 80, 3) := by decide +kernel
theorem dL_law_748 : decode cL_law 748 = .ok (.aload_n 2, 1) := by decide +kernel
theorem dL_law_749 : decode cL_law 749 = .ok (.invokevirtual 84, 3) := by decide +kernel
theorem dL_law_752 : decode cL_law 752 = .ok (.if_icmp .eq 667, 3) := by decide +kernel
theorem dL_law_755 : decode cL_law 755 = .ok (.iconst 0, 1) := by decide +kernel
theorem dL_law_756 : decode cL_law 756 = .ok (.ireturn, 1) := by decide +kernel
theorem dL_law_757 : decode cL_law 757 = .ok (.aload_n 1, 1) := by decide +kernel
theorem dL_law_758 : decode cL_law 758 = .ok (.aload_n 0, 1) := by decide +kernel
theorem dL_law_759 : decode cL_law 759 = .ok (.iload_n 3, 1) := by decide +kernel
theorem dL_law_760 : decode cL_law 760 = .ok (.iconst 1, 1) := by decide +kernel
theorem dL_law_761 : decode cL_law 761 = .ok (.iadd, 1) := by decide +kernel
theorem dL_law_762 : decode cL_law 762 = .ok (.iaload, 1) := by decide +kernel
theorem dL_law_763 : decode cL_law 763 = .ok (.aload_n 0, 1) := by decide +kernel
theorem dL_law_764 : decode cL_law 764 = .ok (.iload_n 3, 1) := by decide +kernel
theorem dL_law_765 : decode cL_law 765 = .ok (.iconst 2, 1) := by decide +kernel
theorem dL_law_766 : decode cL_law 766 = .ok (.iadd, 1) := by decide +kernel
theorem dL_law_767 : decode cL_law 767 = .ok (.iaload, 1) := by decide +kernel
theorem dL_law_768 : decode cL_law 768 = .ok (.invokevirtual 85, 3) := by decide +kernel
theorem dL_law_771 : decode cL_law 771 = .ok (.aload_n 2, 1) := by decide +kernel
theorem dL_law_772 : decode cL_law 772 = .ok (.aload_n 0, 1) := by decide +kernel
theorem dL_law_773 : decode cL_law 773 = .ok (.iload_n 3, 1) := by decide +kernel
theorem dL_law_774 : decode cL_law 774 = .ok (.iconst 1, 1) := by decide +kernel
theorem dL_law_775 : decode cL_law 775 = .ok (.iadd, 1) := by decide +kernel
theorem dL_law_776 : decode cL_law 776 = .ok (.iaload, 1) := by decide +kernel
theorem dL_law_777 : decode cL_law 777 = .ok (.aload_n 0, 1) := by decide +kernel
theorem dL_law_778 : decode cL_law 778 = .ok (.iload_n 3, 1) := by decide +kernel
theorem dL_law_779 : decode cL_law 779 = .ok (.iconst 2, 1) := by decide +kernel
theorem dL_law_780 : decode cL_law 780 = .ok (.iadd, 1) := by decide +kernel
theorem dL_law_781 : decode cL_law 781 = .ok (.iaload, 1) := by decide +kernel
theorem dL_law_782 : decode cL_law 782 = .ok (.invokevirtual 88, 3) := by decide +kernel
theorem dL_law_785 : decode cL_law 785 = .ok (.if_icmp .eq 634, 3) := by decide +kernel
theorem dL_law_788 : decode cL_law 788 = .ok (.iconst 0, 1) := by decide +kernel
theorem dL_law_789 : decode cL_law 789 = .ok (.ireturn, 1) := by decide +kernel
theorem dL_law_790 : decode cL_law 790 = .ok (.aload_n 1, 1) := by decide +kernel
theorem dL_law_791 : decode cL_law 791 = .ok (.aload_n 0, 1) := by decide +kernel
theorem dL_law_792 : decode cL_law 792 = .ok (.iload_n 3, 1) := by decide +kernel
theorem dL_law_793 : decode cL_law 793 = .ok (.iconst 1, 1) := by decide +kernel
theorem dL_law_794 : decode cL_law 794 = .ok (.iadd, 1) := by decide +kernel
theorem dL_law_795 : decode cL_law 795 = .ok (.iaload, 1) := by decide +kernel
theorem dL_law_796 : decode cL_law 796 = .ok (.invokevirtual 89, 3) := by decide +kernel
theorem dL_law_799 : decode cL_law 799 = .ok (.aload_n 2, 1) := by decide +kernel
theorem dL_law_800 : decode cL_law 800 = .ok (.aload_n 0, 1) := by decide +kernel
theorem dL_law_801 : decode cL_law 801 = .ok (.iload_n 3, 1) := by decide +kernel
theorem dL_law_802 : decode cL_law 802 = .ok (.iconst 1, 1) := by decide +kernel
theorem dL_law_803 : decode cL_law 803 = .ok (.iadd, 1) := by decide +kernel
theorem dL_law_804 : decode cL_law 804 = .ok (.iaload, 1) := by decide +kernel
theorem dL_law_805 : decode cL_law 805 = .ok (.invokevirtual 92, 3) := by decide +kernel
theorem dL_law_808 : decode cL_law 808 = .ok (.if_icmp .eq 611, 3) := by decide +kernel
theorem dL_law_811 : decode cL_law 811 = .ok (.iconst 0, 1) := by decide +kernel
theorem dL_law_812 : decode cL_law 812 = .ok (.ireturn, 1) := by decide +kernel
theorem dL_law_813 : decode cL_law 813 = .ok (.aload_n 1, 1) := by decide +kernel
theorem dL_law_814 : decode cL_law 814 = .ok (.aload_n 0, 1) := by decide +kernel
theorem dL_law_815 : decode cL_law 815 = .ok (.iload_n 3, 1) := by decide +kernel
theorem dL_law_816 : decode cL_law 816 = .ok (.iconst 1, 1) := by decide +kernel
theorem dL_law_817 : decode cL_law 817 = .ok (.iadd, 1) := by decide +kernel
theorem dL_law_818 : decode cL_law 818 = .ok (.iaload, 1) := by decide +kernel
theorem dL_law_819 : decode cL_law 819 = .ok (.aload_n 0, 1) := by decide +kernel
theorem dL_law_820 : decode cL_law 820 = .ok (.iload_n 3, 1) := by decide +kernel
theorem dL_law_821 : decode cL_law 821 = .ok (.iconst 2, 1) := by decide +kernel
theorem dL_law_822 : decode cL_law 822 = .ok (.iadd, 1) := by decide +kernel
theorem dL_law_823 : decode cL_law 823 = .ok (.iaload, 1) := by decide +kernel
theorem dL_law_824 : decode cL_law 824 = .ok (.aload_n 0, 1) := by decide +kernel
theorem dL_law_825 : decode cL_law 825 = .ok (.iload_n 3, 1) := by decide +kernel
theorem dL_law_826 : decode cL_law 826 = .ok (.iconst 3, 1) := by decide +kernel
theorem dL_law_827 : decode cL_law 827 = .ok (.iadd, 1) := by decide +kernel
theorem dL_law_828 : decode cL_law 828 = .ok (.iaload, 1) := by decide +kernel
theorem dL_law_829 : decode cL_law 829 = .ok (.invokevirtual 93, 3) := by decide +kernel
theorem dL_law_832 : decode cL_law 832 = .ok (.aload_n 2, 1) := by decide +kernel
theorem dL_law_833 : decode cL_law 833 = .ok (.aload_n 0, 1) := by decide +kernel
theorem dL_law_834 : decode cL_law 834 = .ok (.iload_n 3, 1) := by decide +kernel
theorem dL_law_835 : decode cL_law 835 = .ok (.iconst 1, 1) := by decide +kernel
theorem dL_law_836 : decode cL_law 836 = .ok (.iadd, 1) := by decide +kernel
theorem dL_law_837 : decode cL_law 837 = .ok (.iaload, 1) := by decide +kernel
theorem dL_law_838 : decode cL_law 838 = .ok (.aload_n 0, 1) := by decide +kernel
theorem dL_law_839 : decode cL_law 839 = .ok (.iload_n 3, 1) := by decide +kernel
theorem dL_law_840 : decode cL_law 840 = .ok (.iconst 2, 1) := by decide +kernel
theorem dL_law_841 : decode cL_law 841 = .ok (.iadd, 1) := by decide +kernel
theorem dL_law_842 : decode cL_law 842 = .ok (.iaload, 1) := by decide +kernel
theorem dL_law_843 : decode cL_law 843 = .ok (.aload_n 0, 1) := by decide +kernel
theorem dL_law_844 : decode cL_law 844 = .ok (.iload_n 3, 1) := by decide +kernel
theorem dL_law_845 : decode cL_law 845 = .ok (.iconst 3, 1) := by decide +kernel
theorem dL_law_846 : decode cL_law 846 = .ok (.iadd, 1) := by decide +kernel
theorem dL_law_847 : decode cL_law 847 = .ok (.iaload, 1) := by decide +kernel
theorem dL_law_848 : decode cL_law 848 = .ok (.invokevirtual 97, 3) := by decide +kernel
theorem dL_law_851 : decode cL_law 851 = .ok (.lcmp, 1) := by decide +kernel
theorem dL_law_852 : decode cL_law 852 = .ok (.ifCond .eq 567, 3) := by decide +kernel
theorem dL_law_855 : decode cL_law 855 = .ok (.iconst 0, 1) := by decide +kernel
theorem dL_law_856 : decode cL_law 856 = .ok (.ireturn, 1) := by decide +kernel
theorem dL_law_857 : decode cL_law 857 = .ok (.aload_n 1, 1) := by decide +kernel
theorem dL_law_858 : decode cL_law 858 = .ok (.aload_n 0, 1) := by decide +kernel
theorem dL_law_859 : decode cL_law 859 = .ok (.iload_n 3, 1) := by decide +kernel
theorem dL_law_860 : decode cL_law 860 = .ok (.iconst 1, 1) := by decide +kernel
theorem dL_law_861 : decode cL_law 861 = .ok (.iadd, 1) := by decide +kernel
theorem dL_law_862 : decode cL_law 862 = .ok (.iaload, 1) := by decide +kernel
theorem dL_law_863 : decode cL_law 863 = .ok (.invokevirtual 98, 3) := by decide +kernel
theorem dL_law_866 : decode cL_law 866 = .ok (.aload_n 2, 1) := by decide +kernel
theorem dL_law_867 : decode cL_law 867 = .ok (.aload_n 0, 1) := by decide +kernel
theorem dL_law_868 : decode cL_law 868 = .ok (.iload_n 3, 1) := by decide +kernel
theorem dL_law_869 : decode cL_law 869 = .ok (.iconst 1, 1) := by decide +kernel
theorem dL_law_870 : decode cL_law 870 = .ok (.iadd, 1) := by decide +kernel
theorem dL_law_871 : decode cL_law 871 = .ok (.iaload, 1) := by decide +kernel
theorem dL_law_872 : decode cL_law 872 = .ok (.invokevirtual 101, 3) := by decide +kernel
theorem dL_law_875 : decode cL_law 875 = .ok (.if_icmp .eq 544, 3) := by decide +kernel
theorem dL_law_878 : decode cL_law 878 = .ok (.iconst 0, 1) := by decide +kernel
theorem dL_law_879 : decode cL_law 879 = .ok (.ireturn, 1) := by decide +kernel
theorem dL_law_880 : decode cL_law 880 = .ok (.aload_n 1, 1) := by decide +kernel
theorem dL_law_881 : decode cL_law 881 = .ok (.aload_n 0, 1) := by decide +kernel
theorem dL_law_882 : decode cL_law 882 = .ok (.iload_n 3, 1) := by decide +kernel
theorem dL_law_883 : decode cL_law 883 = .ok (.iconst 1, 1) := by decide +kernel
theorem dL_law_884 : decode cL_law 884 = .ok (.iadd, 1) := by decide +kernel
theorem dL_law_885 : decode cL_law 885 = .ok (.iaload, 1) := by decide +kernel
theorem dL_law_886 : decode cL_law 886 = .ok (.aload_n 0, 1) := by decide +kernel
theorem dL_law_887 : decode cL_law 887 = .ok (.iload_n 3, 1) := by decide +kernel
theorem dL_law_888 : decode cL_law 888 = .ok (.iconst 2, 1) := by decide +kernel
theorem dL_law_889 : decode cL_law 889 = .ok (.iadd, 1) := by decide +kernel
theorem dL_law_890 : decode cL_law 890 = .ok (.iaload, 1) := by decide +kernel
theorem dL_law_891 : decode cL_law 891 = .ok (.invokevirtual 102, 3) := by decide +kernel
theorem dL_law_894 : decode cL_law 894 = .ok (.aload_n 2, 1) := by decide +kernel
theorem dL_law_895 : decode cL_law 895 = .ok (.aload_n 0, 1) := by decide +kernel
theorem dL_law_896 : decode cL_law 896 = .ok (.iload_n 3, 1) := by decide +kernel
theorem dL_law_897 : decode cL_law 897 = .ok (.iconst 1, 1) := by decide +kernel
theorem dL_law_898 : decode cL_law 898 = .ok (.iadd, 1) := by decide +kernel
theorem dL_law_899 : decode cL_law 899 = .ok (.iaload, 1) := by decide +kernel
theorem dL_law_900 : decode cL_law 900 = .ok (.aload_n 0, 1) := by decide +kernel
theorem dL_law_901 : decode cL_law 901 = .ok (.iload_n 3, 1) := by decide +kernel
theorem dL_law_902 : decode cL_law 902 = .ok (.iconst 2, 1) := by decide +kernel
theorem dL_law_903 : decode cL_law 903 = .ok (.iadd, 1) := by decide +kernel
theorem dL_law_904 : decode cL_law 904 = .ok (.iaload, 1) := by decide +kernel
theorem dL_law_905 : decode cL_law 905 = .ok (.invokevirtual 105, 3) := by decide +kernel
theorem dL_law_908 : decode cL_law 908 = .ok (.if_icmp .eq 511, 3) := by decide +kernel
theorem dL_law_911 : decode cL_law 911 = .ok (.iconst 0, 1) := by decide +kernel
theorem dL_law_912 : decode cL_law 912 = .ok (.ireturn, 1) := by decide +kernel
theorem dL_law_913 : decode cL_law 913 = .ok (.aload_n 1, 1) := by decide +kernel
theorem dL_law_914 : decode cL_law 914 = .ok (.aload_n 0, 1) := by decide +kernel
theorem dL_law_915 : decode cL_law 915 = .ok (.iload_n 3, 1) := by decide +kernel
theorem dL_law_916 : decode cL_law 916 = .ok (.iconst 1, 1) := by decide +kernel
theorem dL_law_917 : decode cL_law 917 = .ok (.iadd, 1) := by decide +kernel
theorem dL_law_918 : decode cL_law 918 = .ok (.iaload, 1) := by decide +kernel
theorem dL_law_919 : decode cL_law 919 = .ok (.aload_n 0, 1) := by decide +kernel
theorem dL_law_920 : decode cL_law 920 = .ok (.iload_n 3, 1) := by decide +kernel
theorem dL_law_921 : decode cL_law 921 = .ok (.iconst 2, 1) := by decide +kernel
theorem dL_law_922 : decode cL_law 922 = .ok (.iadd, 1) := by decide +kernel
theorem dL_law_923 : decode cL_law 923 = .ok (.iaload, 1) := by decide +kernel
theorem dL_law_924 : decode cL_law 924 = .ok (.invokevirtual 106, 3) := by decide +kernel
theorem dL_law_927 : decode cL_law 927 = .ok (.aload_n 2, 1) := by decide +kernel
theorem dL_law_928 : decode cL_law 928 = .ok (.aload_n 0, 1) := by decide +kernel
theorem dL_law_929 : decode cL_law 929 = .ok (.iload_n 3, 1) := by decide +kernel
theorem dL_law_930 : decode cL_law 930 = .ok (.iconst 1, 1) := by decide +kernel
theorem dL_law_931 : decode cL_law 931 = .ok (.iadd, 1) := by decide +kernel
theorem dL_law_932 : decode cL_law 932 = .ok (.iaload, 1) := by decide +kernel
theorem dL_law_933 : decode cL_law 933 = .ok (.aload_n 0, 1) := by decide +kernel
theorem dL_law_934 : decode cL_law 934 = .ok (.iload_n 3, 1) := by decide +kernel
theorem dL_law_935 : decode cL_law 935 = .ok (.iconst 2, 1) := by decide +kernel
theorem dL_law_936 : decode cL_law 936 = .ok (.iadd, 1) := by decide +kernel
theorem dL_law_937 : decode cL_law 937 = .ok (.iaload, 1) := by decide +kernel
theorem dL_law_938 : decode cL_law 938 = .ok (.invokevirtual 109, 3) := by decide +kernel
theorem dL_law_941 : decode cL_law 941 = .ok (.if_icmp .eq 478, 3) := by decide +kernel
theorem dL_law_944 : decode cL_law 944 = .ok (.iconst 0, 1) := by decide +kernel
theorem dL_law_945 : decode cL_law 945 = .ok (.ireturn, 1) := by decide +kernel
theorem dL_law_946 : decode cL_law 946 = .ok (.aload_n 1, 1) := by decide +kernel
theorem dL_law_947 : decode cL_law 947 = .ok (.aload_n 0, 1) := by decide +kernel
theorem dL_law_948 : decode cL_law 948 = .ok (.iload_n 3, 1) := by decide +kernel
theorem dL_law_949 : decode cL_law 949 = .ok (.iconst 1, 1) := by decide +kernel
theorem dL_law_950 : decode cL_law 950 = .ok (.iadd, 1) := by decide +kernel
theorem dL_law_951 : decode cL_law 951 = .ok (.iaload, 1) := by decide +kernel
theorem dL_law_952 : decode cL_law 952 = .ok (.invokevirtual 110, 3) := by decide +kernel
theorem dL_law_955 : decode cL_law 955 = .ok (.aload_n 2, 1) := by decide +kernel
theorem dL_law_956 : decode cL_law 956 = .ok (.aload_n 0, 1) := by decide +kernel
theorem dL_law_957 : decode cL_law 957 = .ok (.iload_n 3, 1) := by decide +kernel
theorem dL_law_958 : decode cL_law 958 = .ok (.iconst 1, 1) := by decide +kernel
theorem dL_law_959 : decode cL_law 959 = .ok (.iadd, 1) := by decide +kernel
theorem dL_law_960 : decode cL_law 960 = .ok (.iaload, 1) := by decide +kernel
theorem dL_law_961 : decode cL_law 961 = .ok (.invokevirtual 113, 3) := by decide +kernel
theorem dL_law_964 : decode cL_law 964 = .ok (.if_icmp .eq 455, 3) := by decide +kernel
theorem dL_law_967 : decode cL_law 967 = .ok (.iconst 0, 1) := by decide +kernel
theorem dL_law_968 : decode cL_law 968 = .ok (.ireturn, 1) := by decide +kernel
theorem dL_law_969 : decode cL_law 969 = .ok (.aload_n 1, 1) := by decide +kernel
theorem dL_law_970 : decode cL_law 970 = .ok (.aload_n 0, 1) := by decide +kernel
theorem dL_law_971 : decode cL_law 971 = .ok (.iload_n 3, 1) := by decide +kernel
theorem dL_law_972 : decode cL_law 972 = .ok (.iconst 1, 1) := by decide +kernel
theorem dL_law_973 : decode cL_law 973 = .ok (.iadd, 1) := by decide +kernel
theorem dL_law_974 : decode cL_law 974 = .ok (.iaload, 1) := by decide +kernel
theorem dL_law_975 : decode cL_law 975 = .ok (.aload_n 0, 1) := by decide +kernel
theorem dL_law_976 : decode cL_law 976 = .ok (.iload_n 3, 1) := by decide +kernel
theorem dL_law_977 : decode cL_law 977 = .ok (.iconst 2, 1) := by decide +kernel
theorem dL_law_978 : decode cL_law 978 = .ok (.iadd, 1) := by decide +kernel
theorem dL_law_979 : decode cL_law 979 = .ok (.iaload, 1) := by decide +kernel
theorem dL_law_980 : decode cL_law 980 = .ok (.invokevirtual 114, 3) := by decide +kernel
theorem dL_law_983 : decode cL_law 983 = .ok (.aload_n 2, 1) := by decide +kernel
theorem dL_law_984 : decode cL_law 984 = .ok (.aload_n 0, 1) := by decide +kernel
theorem dL_law_985 : decode cL_law 985 = .ok (.iload_n 3, 1) := by decide +kernel
theorem dL_law_986 : decode cL_law 986 = .ok (.iconst 1, 1) := by decide +kernel
theorem dL_law_987 : decode cL_law 987 = .ok (.iadd, 1) := by decide +kernel
theorem dL_law_988 : decode cL_law 988 = .ok (.iaload, 1) := by decide +kernel
theorem dL_law_989 : decode cL_law 989 = .ok (.aload_n 0, 1) := by decide +kernel
theorem dL_law_990 : decode cL_law 990 = .ok (.iload_n 3, 1) := by decide +kernel
theorem dL_law_991 : decode cL_law 991 = .ok (.iconst 2, 1) := by decide +kernel
theorem dL_law_992 : decode cL_law 992 = .ok (.iadd, 1) := by decide +kernel
theorem dL_law_993 : decode cL_law 993 = .ok (.iaload, 1) := by decide +kernel
theorem dL_law_994 : decode cL_law 994 = .ok (.invokevirtual 117, 3) := by decide +kernel
theorem dL_law_997 : decode cL_law 997 = .ok (.if_icmp .eq 422, 3) := by decide +kernel
theorem dL_law_1000 : decode cL_law 1000 = .ok (.iconst 0, 1) := by decide +kernel
theorem dL_law_1001 : decode cL_law 1001 = .ok (.ireturn, 1) := by decide +kernel
theorem dL_law_1002 : decode cL_law 1002 = .ok (.aload_n 1, 1) := by decide +kernel
theorem dL_law_1003 : decode cL_law 1003 = .ok (.invokevirtual 118, 3) := by decide +kernel
theorem dL_law_1006 : decode cL_law 1006 = .ok (.aload_n 2, 1) := by decide +kernel
theorem dL_law_1007 : decode cL_law 1007 = .ok (.invokevirtual 121, 3) := by decide +kernel
theorem dL_law_1010 : decode cL_law 1010 = .ok (.if_icmp .eq 409, 3) := by decide +kernel
theorem dL_law_1013 : decode cL_law 1013 = .ok (.iconst 0, 1) := by decide +kernel
theorem dL_law_1014 : decode cL_law 1014 = .ok (.ireturn, 1) := by decide +kernel
theorem dL_law_1015 : decode cL_law 1015 = .ok (.aload_n 1, 1) := by decide +kernel
theorem dL_law_1016 : decode cL_law 1016 = .ok (.invokevirtual 122, 3) := by decide +kernel
theorem dL_law_1019 : decode cL_law 1019 = .ok (.aload_n 2, 1) := by decide +kernel
theorem dL_law_1020 : decode cL_law 1020 = .ok (.invokevirtual 125, 3) := by decide +kernel
theorem dL_law_1023 : decode cL_law 1023 = .ok (.if_icmp .eq 396, 3) := by decide +kernel
theorem dL_law_1026 : decode cL_law 1026 = .ok (.iconst 0, 1) := by decide +kernel
theorem dL_law_1027 : decode cL_law 1027 = .ok (.ireturn, 1) := by decide +kernel
theorem dL_law_1028 : decode cL_law 1028 = .ok (.aload_n 1, 1) := by decide +kernel
theorem dL_law_1029 : decode cL_law 1029 = .ok (.aload_n 0, 1) := by decide +kernel
theorem dL_law_1030 : decode cL_law 1030 = .ok (.iload_n 3, 1) := by decide +kernel
theorem dL_law_1031 : decode cL_law 1031 = .ok (.iconst 1, 1) := by decide +kernel
theorem dL_law_1032 : decode cL_law 1032 = .ok (.iadd, 1) := by decide +kernel
theorem dL_law_1033 : decode cL_law 1033 = .ok (.iaload, 1) := by decide +kernel
theorem dL_law_1034 : decode cL_law 1034 = .ok (.invokevirtual 126, 3) := by decide +kernel
theorem dL_law_1037 : decode cL_law 1037 = .ok (.aload_n 2, 1) := by decide +kernel
theorem dL_law_1038 : decode cL_law 1038 = .ok (.aload_n 0, 1) := by decide +kernel
theorem dL_law_1039 : decode cL_law 1039 = .ok (.iload_n 3, 1) := by decide +kernel
theorem dL_law_1040 : decode cL_law 1040 = .ok (.iconst 1, 1) := by decide +kernel
theorem dL_law_1041 : decode cL_law 1041 = .ok (.iadd, 1) := by decide +kernel
theorem dL_law_1042 : decode cL_law 1042 = .ok (.iaload, 1) := by decide +kernel
theorem dL_law_1043 : decode cL_law 1043 = .ok (.invokevirtual 129, 3) := by decide +kernel
theorem dL_law_1046 : decode cL_law 1046 = .ok (.if_icmp .eq 373, 3) := by decide +kernel
theorem dL_law_1049 : decode cL_law 1049 = .ok (.iconst 0, 1) := by decide +kernel
theorem dL_law_1050 : decode cL_law 1050 = .ok (.ireturn, 1) := by decide +kernel
theorem dL_law_1051 : decode cL_law 1051 = .ok (.aload_n 1, 1) := by decide +kernel
theorem dL_law_1052 : decode cL_law 1052 = .ok (.aload_n 0, 1) := by decide +kernel
theorem dL_law_1053 : decode cL_law 1053 = .ok (.iload_n 3, 1) := by decide +kernel
theorem dL_law_1054 : decode cL_law 1054 = .ok (.iconst 1, 1) := by decide +kernel
theorem dL_law_1055 : decode cL_law 1055 = .ok (.iadd, 1) := by decide +kernel
theorem dL_law_1056 : decode cL_law 1056 = .ok (.iaload, 1) := by decide +kernel
theorem dL_law_1057 : decode cL_law 1057 = .ok (.aload_n 0, 1) := by decide +kernel
theorem dL_law_1058 : decode cL_law 1058 = .ok (.iload_n 3, 1) := by decide +kernel
theorem dL_law_1059 : decode cL_law 1059 = .ok (.iconst 2, 1) := by decide +kernel
theorem dL_law_1060 : decode cL_law 1060 = .ok (.iadd, 1) := by decide +kernel
theorem dL_law_1061 : decode cL_law 1061 = .ok (.iaload, 1) := by decide +kernel
theorem dL_law_1062 : decode cL_law 1062 = .ok (.aload_n 0, 1) := by decide +kernel
theorem dL_law_1063 : decode cL_law 1063 = .ok (.iload_n 3, 1) := by decide +kernel
theorem dL_law_1064 : decode cL_law 1064 = .ok (.iconst 3, 1) := by decide +kernel
theorem dL_law_1065 : decode cL_law 1065 = .ok (.iadd, 1) := by decide +kernel
theorem dL_law_1066 : decode cL_law 1066 = .ok (.iaload, 1) := by decide +kernel
theorem dL_law_1067 : decode cL_law 1067 = .ok (.invokevirtual 130, 3) := by decide +kernel
theorem dL_law_1070 : decode cL_law 1070 = .ok (.aload_n 2, 1) := by decide +kernel
theorem dL_law_1071 : decode cL_law 1071 = .ok (.aload_n 0, 1) := by decide +kernel
theorem dL_law_1072 : decode cL_law 1072 = .ok (.iload_n 3, 1) := by decide +kernel
theorem dL_law_1073 : decode cL_law 1073 = .ok (.iconst 1, 1) := by decide +kernel
theorem dL_law_1074 : decode cL_law 1074 = .ok (.iadd, 1) := by decide +kernel
theorem dL_law_1075 : decode cL_law 1075 = .ok (.iaload, 1) := by decide +kernel
theorem dL_law_1076 : decode cL_law 1076 = .ok (.aload_n 0, 1) := by decide +kernel
theorem dL_law_1077 : decode cL_law 1077 = .ok (.iload_n 3, 1) := by decide +kernel
theorem dL_law_1078 : decode cL_law 1078 = .ok (.iconst 2, 1) := by decide +kernel
theorem dL_law_1079 : decode cL_law 1079 = .ok (.iadd, 1) := by decide +kernel
theorem dL_law_1080 : decode cL_law 1080 = .ok (.iaload, 1) := by decide +kernel
theorem dL_law_1081 : decode cL_law 1081 = .ok (.aload_n 0, 1) := by decide +kernel
theorem dL_law_1082 : decode cL_law 1082 = .ok (.iload_n 3, 1) := by decide +kernel
theorem dL_law_1083 : decode cL_law 1083 = .ok (.iconst 3, 1) := by decide +kernel
theorem dL_law_1084 : decode cL_law 1084 = .ok (.iadd, 1) := by decide +kernel
theorem dL_law_1085 : decode cL_law 1085 = .ok (.iaload, 1) := by decide +kernel
theorem dL_law_1086 : decode cL_law 1086 = .ok (.invokevirtual 133, 3) := by decide +kernel
theorem dL_law_1089 : decode cL_law 1089 = .ok (.if_icmp .eq 330, 3) := by decide +kernel
theorem dL_law_1092 : decode cL_law 1092 = .ok (.iconst 0, 1) := by decide +kernel
theorem dL_law_1093 : decode cL_law 1093 = .ok (.ireturn, 1) := by decide +kernel
theorem dL_law_1094 : decode cL_law 1094 = .ok (.aload_n 1, 1) := by decide +kernel
theorem dL_law_1095 : decode cL_law 1095 = .ok (.aload_n 0, 1) := by decide +kernel
theorem dL_law_1096 : decode cL_law 1096 = .ok (.iload_n 3, 1) := by decide +kernel
theorem dL_law_1097 : decode cL_law 1097 = .ok (.iconst 1, 1) := by decide +kernel
theorem dL_law_1098 : decode cL_law 1098 = .ok (.iadd, 1) := by decide +kernel
theorem dL_law_1099 : decode cL_law 1099 = .ok (.iaload, 1) := by decide +kernel
theorem dL_law_1100 : decode cL_law 1100 = .ok (.invokevirtual 134, 3) := by decide +kernel
theorem dL_law_1103 : decode cL_law 1103 = .ok (.aload_n 2, 1) := by decide +kernel
theorem dL_law_1104 : decode cL_law 1104 = .ok (.aload_n 0, 1) := by decide +kernel
theorem dL_law_1105 : decode cL_law 1105 = .ok (.iload_n 3, 1) := by decide +kernel
theorem dL_law_1106 : decode cL_law 1106 = .ok (.iconst 1, 1) := by decide +kernel
theorem dL_law_1107 : decode cL_law 1107 = .ok (.iadd, 1) := by decide +kernel
theorem dL_law_1108 : decode cL_law 1108 = .ok (.iaload, 1) := by decide +kernel
theorem dL_law_1109 : decode cL_law 1109 = .ok (.invokevirtual 137, 3) := by decide +kernel
theorem dL_law_1112 : decode cL_law 1112 = .ok (.if_icmp .eq 307, 3) := by decide +kernel
theorem dL_law_1115 : decode cL_law 1115 = .ok (.iconst 0, 1) := by decide +kernel
theorem dL_law_1116 : decode cL_law 1116 = .ok (.ireturn, 1) := by decide +kernel
theorem dL_law_1117 : decode cL_law 1117 = .ok (.aload_n 1, 1) := by decide +kernel
theorem dL_law_1118 : decode cL_law 1118 = .ok (.aload_n 0, 1) := by decide +kernel
theorem dL_law_1119 : decode cL_law 1119 = .ok (.iload_n 3, 1) := by decide +kernel
theorem dL_law_1120 : decode cL_law 1120 = .ok (.iconst 1, 1) := by decide +kernel
theorem dL_law_1121 : decode cL_law 1121 = .ok (.iadd, 1) := by decide +kernel
theorem dL_law_1122 : decode cL_law 1122 = .ok (.iaload, 1) := by decide +kernel
theorem dL_law_1123 : decode cL_law 1123 = .ok (.aload_n 0, 1) := by decide +kernel
theorem dL_law_1124 : decode cL_law 1124 = .ok (.iload_n 3, 1) := by decide +kernel
theorem dL_law_1125 : decode cL_law 1125 = .ok (.iconst 2, 1) := by decide +kernel
theorem dL_law_1126 : decode cL_law 1126 = .ok (.iadd, 1) := by decide +kernel
theorem dL_law_1127 : decode cL_law 1127 = .ok (.iaload, 1) := by decide +kernel
theorem dL_law_1128 : decode cL_law 1128 = .ok (.invokevirtual 138, 3) := by decide +kernel
theorem dL_law_1131 : decode cL_law 1131 = .ok (.aload_n 2, 1) := by decide +kernel
theorem dL_law_1132 : decode cL_law 1132 = .ok (.aload_n 0, 1) := by decide +kernel
theorem dL_law_1133 : decode cL_law 1133 = .ok (.iload_n 3, 1) := by decide +kernel
theorem dL_law_1134 : decode cL_law 1134 = .ok (.iconst 1, 1) := by decide +kernel
theorem dL_law_1135 : decode cL_law 1135 = .ok (.iadd, 1) := by decide +kernel
theorem dL_law_1136 : decode cL_law 1136 = .ok (.iaload, 1) := by decide +kernel
theorem dL_law_1137 : decode cL_law 1137 = .ok (.aload_n 0, 1) := by decide +kernel
theorem dL_law_1138 : decode cL_law 1138 = .ok (.iload_n 3, 1) := by decide +kernel
theorem dL_law_1139 : decode cL_law 1139 = .ok (.iconst 2, 1) := by decide +kernel
theorem dL_law_1140 : decode cL_law 1140 = .ok (.iadd, 1) := by decide +kernel
theorem dL_law_1141 : decode cL_law 1141 = .ok (.iaload, 1) := by decide +kernel
theorem dL_law_1142 : decode cL_law 1142 = .ok (.invokevirtual 141, 3) := by decide +kernel
theorem dL_law_1145 : decode cL_law 1145 = .ok (.if_icmp .eq 274, 3) := by decide +kernel
theorem dL_law_1148 : decode cL_law 1148 = .ok (.iconst 0, 1) := by decide +kernel
theorem dL_law_1149 : decode cL_law 1149 = .ok (.ireturn, 1) := by decide +kernel
theorem dL_law_1150 : decode cL_law 1150 = .ok (.aload_n 1, 1) := by decide +kernel
theorem dL_law_1151 : decode cL_law 1151 = .ok (.aload_n 0, 1) := by decide +kernel
theorem dL_law_1152 : decode cL_law 1152 = .ok (.iload_n 3, 1) := by decide +kernel
theorem dL_law_1153 : decode cL_law 1153 = .ok (.iconst 1, 1) := by decide +kernel
theorem dL_law_1154 : decode cL_law 1154 = .ok (.iadd, 1) := by decide +kernel
theorem dL_law_1155 : decode cL_law 1155 = .ok (.iaload, 1) := by decide +kernel
theorem dL_law_1156 : decode cL_law 1156 = .ok (.aload_n 0, 1) := by decide +kernel
theorem dL_law_1157 : decode cL_law 1157 = .ok (.iload_n 3, 1) := by decide +kernel
theorem dL_law_1158 : decode cL_law 1158 = .ok (.iconst 2, 1) := by decide +kernel
theorem dL_law_1159 : decode cL_law 1159 = .ok (.iadd, 1) := by decide +kernel
theorem dL_law_1160 : decode cL_law 1160 = .ok (.iaload, 1) := by decide +kernel
theorem dL_law_1161 : decode cL_law 1161 = .ok (.aload_n 0, 1) := by decide +kernel
theorem dL_law_1162 : decode cL_law 1162 = .ok (.iload_n 3, 1) := by decide +kernel
theorem dL_law_1163 : decode cL_law 1163 = .ok (.iconst 3, 1) := by decide +kernel
theorem dL_law_1164 : decode cL_law 1164 = .ok (.iadd, 1) := by decide +kernel
theorem dL_law_1165 : decode cL_law 1165 = .ok (.iaload, 1) := by decide +kernel
theorem dL_law_1166 : decode cL_law 1166 = .ok (.invokevirtual 142, 3) := by decide +kernel
theorem dL_law_1169 : decode cL_law 1169 = .ok (.aload_n 2, 1) := by decide +kernel
theorem dL_law_1170 : decode cL_law 1170 = .ok (.aload_n 0, 1) := by decide +kernel
theorem dL_law_1171 : decode cL_law 1171 = .ok (.iload_n 3, 1) := by decide +kernel
theorem dL_law_1172 : decode cL_law 1172 = .ok (.iconst 1, 1) := by decide +kernel
theorem dL_law_1173 : decode cL_law 1173 = .ok (.iadd, 1) := by decide +kernel
theorem dL_law_1174 : decode cL_law 1174 = .ok (.iaload, 1) := by decide +kernel
theorem dL_law_1175 : decode cL_law 1175 = .ok (.aload_n 0, 1) := by decide +kernel
theorem dL_law_1176 : decode cL_law 1176 = .ok (.iload_n 3, 1) := by decide +kernel
theorem dL_law_1177 : decode cL_law 1177 = .ok (.iconst 2, 1) := by decide +kernel
theorem dL_law_1178 : decode cL_law 1178 = .ok (.iadd, 1) := by decide +kernel
theorem dL_law_1179 : decode cL_law 1179 = .ok (.iaload, 1) := by decide +kernel
theorem dL_law_1180 : decode cL_law 1180 = .ok (.aload_n 0, 1) := by decide +kernel
theorem dL_law_1181 : decode cL_law 1181 = .ok (.iload_n 3, 1) := by decide +kernel
theorem dL_law_1182 : decode cL_law 1182 = .ok (.iconst 3, 1) := by decide +kernel
theorem dL_law_1183 : decode cL_law 1183 = .ok (.iadd, 1) := by decide +kernel
theorem dL_law_1184 : decode cL_law 1184 = .ok (.iaload, 1) := by decide +kernel
theorem dL_law_1185 : decode cL_law 1185 = .ok (.invokevirtual 145, 3) := by decide +kernel
theorem dL_law_1188 : decode cL_law 1188 = .ok (.if_icmp .eq 231, 3) := by decide +kernel
theorem dL_law_1191 : decode cL_law 1191 = .ok (.iconst 0, 1) := by decide +kernel
theorem dL_law_1192 : decode cL_law 1192 = .ok (.ireturn, 1) := by decide +kernel
theorem dL_law_1193 : decode cL_law 1193 = .ok (.aload_n 1, 1) := by decide +kernel
theorem dL_law_1194 : decode cL_law 1194 = .ok (.aload_n 0, 1) := by decide +kernel
theorem dL_law_1195 : decode cL_law 1195 = .ok (.iload_n 3, 1) := by decide +kernel
theorem dL_law_1196 : decode cL_law 1196 = .ok (.iconst 1, 1) := by decide +kernel
theorem dL_law_1197 : decode cL_law 1197 = .ok (.iadd, 1) := by decide +kernel
theorem dL_law_1198 : decode cL_law 1198 = .ok (.iaload, 1) := by decide +kernel
theorem dL_law_1199 : decode cL_law 1199 = .ok (.aload_n 0, 1) := by decide +kernel
theorem dL_law_1200 : decode cL_law 1200 = .ok (.iload_n 3, 1) := by decide +kernel
theorem dL_law_1201 : decode cL_law 1201 = .ok (.iconst 2, 1) := by decide +kernel
theorem dL_law_1202 : decode cL_law 1202 = .ok (.iadd, 1) := by decide +kernel
theorem dL_law_1203 : decode cL_law 1203 = .ok (.iaload, 1) := by decide +kernel
theorem dL_law_1204 : decode cL_law 1204 = .ok (.aload_n 0, 1) := by decide +kernel
theorem dL_law_1205 : decode cL_law 1205 = .ok (.iload_n 3, 1) := by decide +kernel
theorem dL_law_1206 : decode cL_law 1206 = .ok (.iconst 3, 1) := by decide +kernel
theorem dL_law_1207 : decode cL_law 1207 = .ok (.iadd, 1) := by decide +kernel
theorem dL_law_1208 : decode cL_law 1208 = .ok (.iaload, 1) := by decide +kernel
theorem dL_law_1209 : decode cL_law 1209 = .ok (.i2l, 1) := by decide +kernel
theorem dL_law_1210 : decode cL_law 1210 = .ok (.bipush 32, 2) := by decide +kernel
theorem dL_law_1212 : decode cL_law 1212 = .ok (.lshl, 1) := by decide +kernel
theorem dL_law_1213 : decode cL_law 1213 = .ok (.aload_n 0, 1) := by decide +kernel
theorem dL_law_1214 : decode cL_law 1214 = .ok (.iload_n 3, 1) := by decide +kernel
theorem dL_law_1215 : decode cL_law 1215 = .ok (.iconst 4, 1) := by decide +kernel
theorem dL_law_1216 : decode cL_law 1216 = .ok (.iadd, 1) := by decide +kernel
theorem dL_law_1217 : decode cL_law 1217 = .ok (.iaload, 1) := by decide +kernel
theorem dL_law_1218 : decode cL_law 1218 = .ok (.i2l, 1) := by decide +kernel
theorem dL_law_1219 : decode cL_law 1219 = .ok (.ldc2_w 146, 3) := by decide +kernel
theorem dL_law_1222 : decode cL_law 1222 = .ok (.land, 1) := by decide +kernel
theorem dL_law_1223 : decode cL_law 1223 = .ok (.lor, 1) := by decide +kernel
theorem dL_law_1224 : decode cL_law 1224 = .ok (.invokevirtual 148, 3) := by decide +kernel
theorem dL_law_1227 : decode cL_law 1227 = .ok (.aload_n 2, 1) := by decide +kernel
theorem dL_law_1228 : decode cL_law 1228 = .ok (.aload_n 0, 1) := by decide +kernel
theorem dL_law_1229 : decode cL_law 1229 = .ok (.iload_n 3, 1) := by decide +kernel
theorem dL_law_1230 : decode cL_law 1230 = .ok (.iconst 1, 1) := by decide +kernel
theorem dL_law_1231 : decode cL_law 1231 = .ok (.iadd, 1) := by decide +kernel
theorem dL_law_1232 : decode cL_law 1232 = .ok (.iaload, 1) := by decide +kernel
theorem dL_law_1233 : decode cL_law 1233 = .ok (.aload_n 0, 1) := by decide +kernel
theorem dL_law_1234 : decode cL_law 1234 = .ok (.iload_n 3, 1) := by decide +kernel
theorem dL_law_1235 : decode cL_law 1235 = .ok (.iconst 2, 1) := by decide +kernel
theorem dL_law_1236 : decode cL_law 1236 = .ok (.iadd, 1) := by decide +kernel
theorem dL_law_1237 : decode cL_law 1237 = .ok (.iaload, 1) := by decide +kernel
theorem dL_law_1238 : decode cL_law 1238 = .ok (.aload_n 0, 1) := by decide +kernel
theorem dL_law_1239 : decode cL_law 1239 = .ok (.iload_n 3, 1) := by decide +kernel
theorem dL_law_1240 : decode cL_law 1240 = .ok (.iconst 3, 1) := by decide +kernel
theorem dL_law_1241 : decode cL_law 1241 = .ok (.iadd, 1) := by decide +kernel
theorem dL_law_1242 : decode cL_law 1242 = .ok (.iaload, 1) := by decide +kernel
theorem dL_law_1243 : decode cL_law 1243 = .ok (.i2l, 1) := by decide +kernel
theorem dL_law_1244 : decode cL_law 1244 = .ok (.bipush 32, 2) := by decide +kernel
theorem dL_law_1246 : decode cL_law 1246 = .ok (.lshl, 1) := by decide +kernel
theorem dL_law_1247 : decode cL_law 1247 = .ok (.aload_n 0, 1) := by decide +kernel
theorem dL_law_1248 : decode cL_law 1248 = .ok (.iload_n 3, 1) := by decide +kernel
theorem dL_law_1249 : decode cL_law 1249 = .ok (.iconst 4, 1) := by decide +kernel
theorem dL_law_1250 : decode cL_law 1250 = .ok (.iadd, 1) := by decide +kernel
theorem dL_law_1251 : decode cL_law 1251 = .ok (.iaload, 1) := by decide +kernel
theorem dL_law_1252 : decode cL_law 1252 = .ok (.i2l, 1) := by decide +kernel
theorem dL_law_1253 : decode cL_law 1253 = .ok (.ldc2_w 146, 3) := by decide +kernel
theorem dL_law_1256 : decode cL_law 1256 = .ok (.land, 1) := by decide +kernel
theorem dL_law_1257 : decode cL_law 1257 = .ok (.lor, 1) := by decide +kernel
theorem dL_law_1258 : decode cL_law 1258 = .ok (.invokevirtual 152, 3) := by decide +kernel
theorem dL_law_1261 : decode cL_law 1261 = .ok (.if_icmp .eq 158, 3) := by decide +kernel
theorem dL_law_1264 : decode cL_law 1264 = .ok (.iconst 0, 1) := by decide +kernel
theorem dL_law_1265 : decode cL_law 1265 = .ok (.ireturn, 1) := by decide +kernel
theorem dL_law_1266 : decode cL_law 1266 = .ok (.aload_n 1, 1) := by decide +kernel
theorem dL_law_1267 : decode cL_law 1267 = .ok (.aload_n 0, 1) := by decide +kernel
theorem dL_law_1268 : decode cL_law 1268 = .ok (.iload_n 3, 1) := by decide +kernel
theorem dL_law_1269 : decode cL_law 1269 = .ok (.iconst 1, 1) := by decide +kernel
theorem dL_law_1270 : decode cL_law 1270 = .ok (.iadd, 1) := by decide +kernel
theorem dL_law_1271 : decode cL_law 1271 = .ok (.iaload, 1) := by decide +kernel
theorem dL_law_1272 : decode cL_law 1272 = .ok (.aload_n 0, 1) := by decide +kernel
theorem dL_law_1273 : decode cL_law 1273 = .ok (.iload_n 3, 1) := by decide +kernel
theorem dL_law_1274 : decode cL_law 1274 = .ok (.iconst 2, 1) := by decide +kernel
theorem dL_law_1275 : decode cL_law 1275 = .ok (.iadd, 1) := by decide +kernel
theorem dL_law_1276 : decode cL_law 1276 = .ok (.iaload, 1) := by decide +kernel
theorem dL_law_1277 : decode cL_law 1277 = .ok (.invokevirtual 153, 3) := by decide +kernel
theorem dL_law_1280 : decode cL_law 1280 = .ok (.aload_n 2, 1) := by decide +kernel
theorem dL_law_1281 : decode cL_law 1281 = .ok (.aload_n 0, 1) := by decide +kernel
theorem dL_law_1282 : decode cL_law 1282 = .ok (.iload_n 3, 1) := by decide +kernel
theorem dL_law_1283 : decode cL_law 1283 = .ok (.iconst 1, 1) := by decide +kernel
theorem dL_law_1284 : decode cL_law 1284 = .ok (.iadd, 1) := by decide +kernel
theorem dL_law_1285 : decode cL_law 1285 = .ok (.iaload, 1) := by decide +kernel
theorem dL_law_1286 : decode cL_law 1286 = .ok (.aload_n 0, 1) := by decide +kernel
theorem dL_law_1287 : decode cL_law 1287 = .ok (.iload_n 3, 1) := by decide +kernel
theorem dL_law_1288 : decode cL_law 1288 = .ok (.iconst 2, 1) := by decide +kernel
theorem dL_law_1289 : decode cL_law 1289 = .ok (.iadd, 1) := by decide +kernel
theorem dL_law_1290 : decode cL_law 1290 = .ok (.iaload, 1) := by decide +kernel
theorem dL_law_1291 : decode cL_law 1291 = .ok (.invokevirtual 157, 3) := by decide +kernel
theorem dL_law_1294 : decode cL_law 1294 = .ok (.lcmp, 1) := by decide +kernel
theorem dL_law_1295 : decode cL_law 1295 = .ok (.ifCond .eq 124, 3) := by decide +kernel
theorem dL_law_1298 : decode cL_law 1298 = .ok (.iconst 0, 1) := by decide +kernel
theorem dL_law_1299 : decode cL_law 1299 = .ok (.ireturn, 1) := by decide +kernel
theorem dL_law_1300 : decode cL_law 1300 = .ok (.aload_n 1, 1) := by decide +kernel
theorem dL_law_1301 : decode cL_law 1301 = .ok (.aload_n 0, 1) := by decide +kernel
theorem dL_law_1302 : decode cL_law 1302 = .ok (.iload_n 3, 1) := by decide +kernel
theorem dL_law_1303 : decode cL_law 1303 = .ok (.iconst 1, 1) := by decide +kernel
theorem dL_law_1304 : decode cL_law 1304 = .ok (.iadd, 1) := by decide +kernel
theorem dL_law_1305 : decode cL_law 1305 = .ok (.iaload, 1) := by decide +kernel
theorem dL_law_1306 : decode cL_law 1306 = .ok (.aload_n 0, 1) := by decide +kernel
theorem dL_law_1307 : decode cL_law 1307 = .ok (.iload_n 3, 1) := by decide +kernel
theorem dL_law_1308 : decode cL_law 1308 = .ok (.iconst 2, 1) := by decide +kernel
theorem dL_law_1309 : decode cL_law 1309 = .ok (.iadd, 1) := by decide +kernel
theorem dL_law_1310 : decode cL_law 1310 = .ok (.iaload, 1) := by decide +kernel
theorem dL_law_1311 : decode cL_law 1311 = .ok (.aload_n 0, 1) := by decide +kernel
theorem dL_law_1312 : decode cL_law 1312 = .ok (.iload_n 3, 1) := by decide +kernel
theorem dL_law_1313 : decode cL_law 1313 = .ok (.iconst 3, 1) := by decide +kernel
theorem dL_law_1314 : decode cL_law 1314 = .ok (.iadd, 1) := by decide +kernel
theorem dL_law_1315 : decode cL_law 1315 = .ok (.iaload, 1) := by decide +kernel
theorem dL_law_1316 : decode cL_law 1316 = .ok (.aload_n 0, 1) := by decide +kernel
theorem dL_law_1317 : decode cL_law 1317 = .ok (.iload_n 3, 1) := by decide +kernel
theorem dL_law_1318 : decode cL_law 1318 = .ok (.iconst 4, 1) := by decide +kernel
theorem dL_law_1319 : decode cL_law 1319 = .ok (.iadd, 1) := by decide +kernel
theorem dL_law_1320 : decode cL_law 1320 = .ok (.iaload, 1) := by decide +kernel
theorem dL_law_1321 : decode cL_law 1321 = .ok (.aload_n 0, 1) := by decide +kernel
theorem dL_law_1322 : decode cL_law 1322 = .ok (.iload_n 3, 1) := by decide +kernel
theorem dL_law_1323 : decode cL_law 1323 = .ok (.iconst 5, 1) := by decide +kernel
theorem dL_law_1324 : decode cL_law 1324 = .ok (.iadd, 1) := by decide +kernel
theorem dL_law_1325 : decode cL_law 1325 = .ok (.iaload, 1) := by decide +kernel
theorem dL_law_1326 : decode cL_law 1326 = .ok (.invokevirtual 158, 3) := by decide +kernel
theorem dL_law_1329 : decode cL_law 1329 = .ok (.aload_n 2, 1) := by decide +kernel
theorem dL_law_1330 : decode cL_law 1330 = .ok (.aload_n 0, 1) := by decide +kernel
theorem dL_law_1331 : decode cL_law 1331 = .ok (.iload_n 3, 1) := by decide +kernel
theorem dL_law_1332 : decode cL_law 1332 = .ok (.iconst 1, 1) := by decide +kernel
theorem dL_law_1333 : decode cL_law 1333 = .ok (.iadd, 1) := by decide +kernel
theorem dL_law_1334 : decode cL_law 1334 = .ok (.iaload, 1) := by decide +kernel
theorem dL_law_1335 : decode cL_law 1335 = .ok (.aload_n 0, 1) := by decide +kernel
theorem dL_law_1336 : decode cL_law 1336 = .ok (.iload_n 3, 1) := by decide +kernel
theorem dL_law_1337 : decode cL_law 1337 = .ok (.iconst 2, 1) := by decide +kernel
theorem dL_law_1338 : decode cL_law 1338 = .ok (.iadd, 1) := by decide +kernel
theorem dL_law_1339 : decode cL_law 1339 = .ok (.iaload, 1) := by decide +kernel
theorem dL_law_1340 : decode cL_law 1340 = .ok (.aload_n 0, 1) := by decide +kernel
theorem dL_law_1341 : decode cL_law 1341 = .ok (.iload_n 3, 1) := by decide +kernel
theorem dL_law_1342 : decode cL_law 1342 = .ok (.iconst 3, 1) := by decide +kernel
theorem dL_law_1343 : decode cL_law 1343 = .ok (.iadd, 1) := by decide +kernel
theorem dL_law_1344 : decode cL_law 1344 = .ok (.iaload, 1) := by decide +kernel
theorem dL_law_1345 : decode cL_law 1345 = .ok (.aload_n 0, 1) := by decide +kernel
theorem dL_law_1346 : decode cL_law 1346 = .ok (.iload_n 3, 1) := by decide +kernel
theorem dL_law_1347 : decode cL_law 1347 = .ok (.iconst 4, 1) := by decide +kernel
theorem dL_law_1348 : decode cL_law 1348 = .ok (.iadd, 1) := by decide +kernel
theorem dL_law_1349 : decode cL_law 1349 = .ok (.iaload, 1) := by decide +kernel
theorem dL_law_1350 : decode cL_law 1350 = .ok (.aload_n 0, 1) := by decide +kernel
theorem dL_law_1351 : decode cL_law 1351 = .ok (.iload_n 3, 1) := by decide +kernel
theorem dL_law_1352 : decode cL_law 1352 = .ok (.iconst 5, 1) := by decide +kernel
theorem dL_law_1353 : decode cL_law 1353 = .ok (.iadd, 1) := by decide +kernel
theorem dL_law_1354 : decode cL_law 1354 = .ok (.iaload, 1) := by decide +kernel
theorem dL_law_1355 : decode cL_law 1355 = .ok (.invokevirtual 162, 3) := by decide +kernel
theorem dL_law_1358 : decode cL_law 1358 = .ok (.if_icmp .eq 61, 3) := by decide +kernel
theorem dL_law_1361 : decode cL_law 1361 = .ok (.iconst 0, 1) := by decide +kernel
theorem dL_law_1362 : decode cL_law 1362 = .ok (.ireturn, 1) := by decide +kernel
theorem dL_law_1363 : decode cL_law 1363 = .ok (.aload_n 1, 1) := by decide +kernel
theorem dL_law_1364 : decode cL_law 1364 = .ok (.aload_n 0, 1) := by decide +kernel
theorem dL_law_1365 : decode cL_law 1365 = .ok (.iload_n 3, 1) := by decide +kernel
theorem dL_law_1366 : decode cL_law 1366 = .ok (.iconst 1, 1) := by decide +kernel
theorem dL_law_1367 : decode cL_law 1367 = .ok (.iadd, 1) := by decide +kernel
theorem dL_law_1368 : decode cL_law 1368 = .ok (.iaload, 1) := by decide +kernel
theorem dL_law_1369 : decode cL_law 1369 = .ok (.aload_n 0, 1) := by decide +kernel
theorem dL_law_1370 : decode cL_law 1370 = .ok (.iload_n 3, 1) := by decide +kernel
theorem dL_law_1371 : decode cL_law 1371 = .ok (.iconst 2, 1) := by decide +kernel
theorem dL_law_1372 : decode cL_law 1372 = .ok (.iadd, 1) := by decide +kernel
theorem dL_law_1373 : decode cL_law 1373 = .ok (.iaload, 1) := by decide +kernel
theorem dL_law_1374 : decode cL_law 1374 = .ok (.invokevirtual 163, 3) := by decide +kernel
theorem dL_law_1377 : decode cL_law 1377 = .ok (.aload_n 2, 1) := by decide +kernel
theorem dL_law_1378 : decode cL_law 1378 = .ok (.aload_n 0, 1) := by decide +kernel
theorem dL_law_1379 : decode cL_law 1379 = .ok (.iload_n 3, 1) := by decide +kernel
theorem dL_law_1380 : decode cL_law 1380 = .ok (.iconst 1, 1) := by decide +kernel
theorem dL_law_1381 : decode cL_law 1381 = .ok (.iadd, 1) := by decide +kernel
theorem dL_law_1382 : decode cL_law 1382 = .ok (.iaload, 1) := by decide +kernel
theorem dL_law_1383 : decode cL_law 1383 = .ok (.aload_n 0, 1) := by decide +kernel
theorem dL_law_1384 : decode cL_law 1384 = .ok (.iload_n 3, 1) := by decide +kernel
theorem dL_law_1385 : decode cL_law 1385 = .ok (.iconst 2, 1) := by decide +kernel
theorem dL_law_1386 : decode cL_law 1386 = .ok (.iadd, 1) := by decide +kernel
theorem dL_law_1387 : decode cL_law 1387 = .ok (.iaload, 1) := by decide +kernel
theorem dL_law_1388 : decode cL_law 1388 = .ok (.invokevirtual 166, 3) := by decide +kernel
theorem dL_law_1391 : decode cL_law 1391 = .ok (.if_icmp .eq 28, 3) := by decide +kernel
theorem dL_law_1394 : decode cL_law 1394 = .ok (.iconst 0, 1) := by decide +kernel
theorem dL_law_1395 : decode cL_law 1395 = .ok (.ireturn, 1) := by decide +kernel
theorem dL_law_1396 : decode cL_law 1396 = .ok (.aload_n 1, 1) := by decide +kernel
theorem dL_law_1397 : decode cL_law 1397 = .ok (.aload_n 0, 1) := by decide +kernel
theorem dL_law_1398 : decode cL_law 1398 = .ok (.iload_n 3, 1) := by decide +kernel
theorem dL_law_1399 : decode cL_law 1399 = .ok (.iconst 1, 1) := by decide +kernel
theorem dL_law_1400 : decode cL_law 1400 = .ok (.iadd, 1) := by decide +kernel
theorem dL_law_1401 : decode cL_law 1401 = .ok (.iaload, 1) := by decide +kernel
theorem dL_law_1402 : decode cL_law 1402 = .ok (.invokevirtual 167, 3) := by decide +kernel
theorem dL_law_1405 : decode cL_law 1405 = .ok (.aload_n 2, 1) := by decide +kernel
theorem dL_law_1406 : decode cL_law 1406 = .ok (.aload_n 0, 1) := by decide +kernel
theorem dL_law_1407 : decode cL_law 1407 = .ok (.iload_n 3, 1) := by decide +kernel
theorem dL_law_1408 : decode cL_law 1408 = .ok (.iconst 1, 1) := by decide +kernel
theorem dL_law_1409 : decode cL_law 1409 = .ok (.iadd, 1) := by decide +kernel
theorem dL_law_1410 : decode cL_law 1410 = .ok (.iaload, 1) := by decide +kernel
theorem dL_law_1411 : decode cL_law 1411 = .ok (.invokevirtual 170, 3) := by decide +kernel
theorem dL_law_1414 : decode cL_law 1414 = .ok (.if_icmp .eq 5, 3) := by decide +kernel
theorem dL_law_1417 : decode cL_law 1417 = .ok (.iconst 0, 1) := by decide +kernel
theorem dL_law_1418 : decode cL_law 1418 = .ok (.ireturn, 1) := by decide +kernel
theorem dL_law_1419 : decode cL_law 1419 = .ok (.iinc 3 6, 3) := by decide +kernel
theorem dL_law_1422 : decode cL_law 1422 = .ok (.goto (-1404), 3) := by decide +kernel
theorem dL_law_1425 : decode cL_law 1425 = .ok (.iconst 1, 1) := by decide +kernel
theorem dL_law_1426 : decode cL_law 1426 = .ok (.ireturn, 1) := by decide +kernel
def fL_law (L : Nat) (xs : Nat → Int32) (u0 : zMem) : zRs := znew 10 u0 (fun v1 u2 => zic v1 (fX10_init v1 u2) (fun _ u3 => znew 11 u3 (fun v4 u5 => zic v4 (fX11_init v4 u5) (fun _ u6 => zlp (fun _ _ => none) (fun k9 (v7 : Int) (u8 : zMem) => zslen L (fun v10 => if v7 > (zw32 (v10 - 6)) then (some (1, u8)) else (zsld L xs v7 (fun v11 => zjn (fun (u12 : zMem) => k9 (zw32 (v7 + 6)) u12) (fun k13 => if (zand v11 63) = 0 then (zsld L xs (zw32 (v7 + 1)) (fun v15 => zsld L xs (zw32 (v7 + 2)) (fun v16 => zvc 10 v1 (fX10_saying v1 v15 v16 u8) (fun v17 u18 => zsld L xs (zw32 (v7 + 1)) (fun v19 => zsld L xs (zw32 (v7 + 2)) (fun v20 => zvc 11 v4 (fX11_saying v4 v19 v20 u18) (fun v21 u22 => if v17 = v21 then (k13 u22) else (none)))))))) else (if (zand v11 63) = 1 then (zsld L xs (zw32 (v7 + 1)) (fun v24 => zsld L xs (zw32 (v7 + 2)) (fun v25 => zsld L xs (zw32 (v7 + 3)) (fun v26 => zvc 10 v1 (fX10_sayings v1 v24 v25 v26 u8) (fun v27 u28 => zsld L xs (zw32 (v7 + 1)) (fun v29 => zsld L xs (zw32 (v7 + 2)) (fun v30 => zsld L xs (zw32 (v7 + 3)) (fun v31 => zvc 11 v4 (fX11_sayings v4 v29 v30 v31 u28) (fun v32 u33 => if v27 = v32 then (k13 u33) else (none)))))))))) else (if (zand v11 63) = 2 then (zsld L xs (zw32 (v7 + 1)) (fun v35 => zsld L xs (zw32 (v7 + 2)) (fun v36 => zsld L xs (zw32 (v7 + 3)) (fun v37 => zvc 10 v1 (fX10_mend v1 v35 v36 v37 u8) (fun v38 u39 => zsld L xs (zw32 (v7 + 1)) (fun v40 => zsld L xs (zw32 (v7 + 2)) (fun v41 => zsld L xs (zw32 (v7 + 3)) (fun v42 => zvc 11 v4 (fX11_mend v4 v40 v41 v42 u39) (fun v43 u44 => if v38 = v43 then (k13 u44) else (none)))))))))) else (if (zand v11 63) = 3 then (zsld L xs (zw32 (v7 + 1)) (fun v46 => zsld L xs (zw32 (v7 + 2)) (fun v47 => zvc 10 v1 (fX10_of v1 v46 v47 u8) (fun v48 u49 => zsld L xs (zw32 (v7 + 1)) (fun v50 => zsld L xs (zw32 (v7 + 2)) (fun v51 => zvc 11 v4 (fX11_of v4 v50 v51 u49) (fun v52 u53 => if v48 = v52 then (k13 u53) else (none)))))))) else (if (zand v11 63) = 4 then (zsld L xs (zw32 (v7 + 1)) (fun v55 => zvc 10 v1 (fX10_feed v1 v55 u8) (fun v56 u57 => zsld L xs (zw32 (v7 + 1)) (fun v58 => zvc 11 v4 (fX11_feed v4 v58 u57) (fun v59 u60 => if v56 = v59 then (k13 u60) else (none)))))) else (if (zand v11 63) = 5 then (zsld L xs (zw32 (v7 + 1)) (fun v62 => zsld L xs (zw32 (v7 + 2)) (fun v63 => zvc 10 v1 (fX10_writer v1 v62 v63 u8) (fun v64 u65 => zsld L xs (zw32 (v7 + 1)) (fun v66 => zsld L xs (zw32 (v7 + 2)) (fun v67 => zvc 11 v4 (fX11_writer v4 v66 v67 u65) (fun v68 u69 => if v64 = v68 then (k13 u69) else (none)))))))) else (if (zand v11 63) = 6 then (zsld L xs (zw32 (v7 + 1)) (fun v71 => zsld L xs (zw32 (v7 + 2)) (fun v72 => zvc 10 v1 (fX10_heed v1 v71 v72 u8) (fun v73 u74 => zsld L xs (zw32 (v7 + 1)) (fun v75 => zsld L xs (zw32 (v7 + 2)) (fun v76 => zvc 11 v4 (fX11_heed v4 v75 v76 u74) (fun v77 u78 => if v73 = v77 then (k13 u78) else (none)))))))) else (if (zand v11 63) = 7 then (zsld L xs (zw32 (v7 + 1)) (fun v80 => zsld L xs (zw32 (v7 + 2)) (fun v81 => zvc 10 v1 (fX10_take v1 v80 v81 u8) (fun v82 u83 => zsld L xs (zw32 (v7 + 1)) (fun v84 => zsld L xs (zw32 (v7 + 2)) (fun v85 => zvc 11 v4 (fX11_take v4 v84 v85 u83) (fun v86 u87 => if v82 = v86 then (k13 u87) else (none)))))))) else (if (zand v11 63) = 8 then (zsld L xs (zw32 (v7 + 1)) (fun v89 => zsld L xs (zw32 (v7 + 2)) (fun v90 => zvc 10 v1 (fX10_told v1 v89 v90 u8) (fun v91 u92 => zsld L xs (zw32 (v7 + 1)) (fun v93 => zsld L xs (zw32 (v7 + 2)) (fun v94 => zvc 11 v4 (fX11_told v4 v93 v94 u92) (fun v95 u96 => if v91 = v95 then (k13 u96) else (none)))))))) else (if (zand v11 63) = 9 then (zsld L xs (zw32 (v7 + 1)) (fun v98 => zsld L xs (zw32 (v7 + 2)) (fun v99 => zsld L xs (zw32 (v7 + 3)) (fun v100 => zvc 10 v1 (fX10_add v1 v98 v99 v100 u8) (fun v101 u102 => zsld L xs (zw32 (v7 + 1)) (fun v103 => zsld L xs (zw32 (v7 + 2)) (fun v104 => zsld L xs (zw32 (v7 + 3)) (fun v105 => zvc 11 v4 (fX11_add v4 v103 v104 v105 u102) (fun v106 u107 => if v101 = v106 then (k13 u107) else (none)))))))))) else (if (zand v11 63) = 10 then (zsld L xs (zw32 (v7 + 1)) (fun v109 => zsld L xs (zw32 (v7 + 2)) (fun v110 => zvc 10 v1 (fX10_strike v1 v109 v110 u8) (fun v111 u112 => zsld L xs (zw32 (v7 + 1)) (fun v113 => zsld L xs (zw32 (v7 + 2)) (fun v114 => zvc 11 v4 (fX11_strike v4 v113 v114 u112) (fun v115 u116 => if v111 = v115 then (k13 u116) else (none)))))))) else (if (zand v11 63) = 11 then (zsld L xs (zw32 (v7 + 1)) (fun v118 => zsld L xs (zw32 (v7 + 2)) (fun v119 => zvc 10 v1 (fX10_read v1 v118 v119 u8) (fun v120 u121 => zsld L xs (zw32 (v7 + 1)) (fun v122 => zsld L xs (zw32 (v7 + 2)) (fun v123 => zvc 11 v4 (fX11_read v4 v122 v123 u121) (fun v124 u125 => if v120 = v124 then (k13 u125) else (none)))))))) else (if (zand v11 63) = 12 then (zsld L xs (zw32 (v7 + 1)) (fun v127 => zsld L xs (zw32 (v7 + 2)) (fun v128 => zvc 10 v1 (fX10_cut v1 v127 v128 u8) (fun v129 u130 => zsld L xs (zw32 (v7 + 1)) (fun v131 => zsld L xs (zw32 (v7 + 2)) (fun v132 => zvc 11 v4 (fX11_cut v4 v131 v132 u130) (fun v133 u134 => if v129 = v133 then (k13 u134) else (none)))))))) else (if (zand v11 63) = 13 then (zsld L xs (zw32 (v7 + 1)) (fun v136 => zsld L xs (zw32 (v7 + 2)) (fun v137 => zvc 10 v1 (fX10_page v1 v136 v137 u8) (fun v138 u139 => zsld L xs (zw32 (v7 + 1)) (fun v140 => zsld L xs (zw32 (v7 + 2)) (fun v141 => zvc 11 v4 (fX11_page v4 v140 v141 u139) (fun v142 u143 => if v138 = v142 then (k13 u143) else (none)))))))) else (if (zand v11 63) = 14 then (zsld L xs (zw32 (v7 + 1)) (fun v145 => zsld L xs (zw32 (v7 + 2)) (fun v146 => zvc 10 v1 (fX10_led v1 v145 v146 u8) (fun v147 u148 => zsld L xs (zw32 (v7 + 1)) (fun v149 => zsld L xs (zw32 (v7 + 2)) (fun v150 => zvc 11 v4 (fX11_led v4 v149 v150 u148) (fun v151 u152 => if v147 = v151 then (k13 u152) else (none)))))))) else (if (zand v11 63) = 15 then (zsld L xs (zw32 (v7 + 1)) (fun v154 => zsld L xs (zw32 (v7 + 2)) (fun v155 => zvc 10 v1 (fX10_sure v1 v154 v155 u8) (fun v156 u157 => zsld L xs (zw32 (v7 + 1)) (fun v158 => zsld L xs (zw32 (v7 + 2)) (fun v159 => zvc 11 v4 (fX11_sure v4 v158 v159 u157) (fun v160 u161 => if v156 = v160 then (k13 u161) else (none)))))))) else (if (zand v11 63) = 16 then (zvc 10 v1 (fX10_only v1 u8) (fun v163 u164 => zvc 11 v4 (fX11_only v4 u164) (fun v165 u166 => if v163 = v165 then (k13 u166) else (none)))) else (if (zand v11 63) = 17 then (zsld L xs (zw32 (v7 + 1)) (fun v168 => zsld L xs (zw32 (v7 + 2)) (fun v169 => zvc 10 v1 (fX10_fight v1 v168 v169 u8) (fun v170 u171 => zsld L xs (zw32 (v7 + 1)) (fun v172 => zsld L xs (zw32 (v7 + 2)) (fun v173 => zvc 11 v4 (fX11_fight v4 v172 v173 u171) (fun v174 u175 => if v170 = v174 then (k13 u175) else (none)))))))) else (if (zand v11 63) = 18 then (zsld L xs (zw32 (v7 + 1)) (fun v177 => zvc 10 v1 (fX10_order v1 v177 u8) (fun v178 u179 => zsld L xs (zw32 (v7 + 1)) (fun v180 => zvc 11 v4 (fX11_order v4 v180 u179) (fun v181 u182 => if v178 = v181 then (k13 u182) else (none)))))) else (if (zand v11 63) = 19 then (zsld L xs (zw32 (v7 + 1)) (fun v184 => zsld L xs (zw32 (v7 + 2)) (fun v185 => zsld L xs (zw32 (v7 + 3)) (fun v186 => zvc 10 v1 (fX10_said v1 v184 v185 v186 u8) (fun v187 u188 => zsld L xs (zw32 (v7 + 1)) (fun v189 => zsld L xs (zw32 (v7 + 2)) (fun v190 => zsld L xs (zw32 (v7 + 3)) (fun v191 => zvc 11 v4 (fX11_said v4 v189 v190 v191 u188) (fun v192 u193 => if (zcmp v187 v192) = 0 then (k13 u193) else (none)))))))))) else (if (zand v11 63) = 20 then (zsld L xs (zw32 (v7 + 1)) (fun v195 => zvc 10 v1 (fX10_whose v1 v195 u8) (fun v196 u197 => zsld L xs (zw32 (v7 + 1)) (fun v198 => zvc 11 v4 (fX11_whose v4 v198 u197) (fun v199 u200 => if v196 = v199 then (k13 u200) else (none)))))) else (if (zand v11 63) = 21 then (zsld L xs (zw32 (v7 + 1)) (fun v202 => zsld L xs (zw32 (v7 + 2)) (fun v203 => zvc 10 v1 (fX10_learnt v1 v202 v203 u8) (fun v204 u205 => zsld L xs (zw32 (v7 + 1)) (fun v206 => zsld L xs (zw32 (v7 + 2)) (fun v207 => zvc 11 v4 (fX11_learnt v4 v206 v207 u205) (fun v208 u209 => if v204 = v208 then (k13 u209) else (none)))))))) else (if (zand v11 63) = 22 then (zsld L xs (zw32 (v7 + 1)) (fun v211 => zsld L xs (zw32 (v7 + 2)) (fun v212 => zvc 10 v1 (fX10_asleep v1 v211 v212 u8) (fun v213 u214 => zsld L xs (zw32 (v7 + 1)) (fun v215 => zsld L xs (zw32 (v7 + 2)) (fun v216 => zvc 11 v4 (fX11_asleep v4 v215 v216 u214) (fun v217 u218 => if v213 = v217 then (k13 u218) else (none)))))))) else (if (zand v11 63) = 23 then (zsld L xs (zw32 (v7 + 1)) (fun v220 => zvc 10 v1 (fX10_ask v1 v220 u8) (fun v221 u222 => zsld L xs (zw32 (v7 + 1)) (fun v223 => zvc 11 v4 (fX11_ask v4 v223 u222) (fun v224 u225 => if v221 = v224 then (k13 u225) else (none)))))) else (if (zand v11 63) = 24 then (zsld L xs (zw32 (v7 + 1)) (fun v227 => zsld L xs (zw32 (v7 + 2)) (fun v228 => zvc 10 v1 (fX10_years v1 v227 v228 u8) (fun v229 u230 => zsld L xs (zw32 (v7 + 1)) (fun v231 => zsld L xs (zw32 (v7 + 2)) (fun v232 => zvc 11 v4 (fX11_years v4 v231 v232 u230) (fun v233 u234 => if v229 = v233 then (k13 u234) else (none)))))))) else (if (zand v11 63) = 25 then (zvc 10 v1 (fX10_undo v1 u8) (fun v236 u237 => zvc 11 v4 (fX11_undo v4 u237) (fun v238 u239 => if v236 = v238 then (k13 u239) else (none)))) else (if (zand v11 63) = 26 then (zvc 10 v1 (fX10_redo v1 u8) (fun v241 u242 => zvc 11 v4 (fX11_redo v4 u242) (fun v243 u244 => if v241 = v243 then (k13 u244) else (none)))) else (if (zand v11 63) = 27 then (zsld L xs (zw32 (v7 + 1)) (fun v246 => zvc 10 v1 (fX10_body v1 v246 u8) (fun v247 u248 => zsld L xs (zw32 (v7 + 1)) (fun v249 => zvc 11 v4 (fX11_body v4 v249 u248) (fun v250 u251 => if v247 = v250 then (k13 u251) else (none)))))) else (if (zand v11 63) = 28 then (zsld L xs (zw32 (v7 + 1)) (fun v253 => zsld L xs (zw32 (v7 + 2)) (fun v254 => zsld L xs (zw32 (v7 + 3)) (fun v255 => zvc 10 v1 (fX10_act v1 v253 v254 v255 u8) (fun v256 u257 => zsld L xs (zw32 (v7 + 1)) (fun v258 => zsld L xs (zw32 (v7 + 2)) (fun v259 => zsld L xs (zw32 (v7 + 3)) (fun v260 => zvc 11 v4 (fX11_act v4 v258 v259 v260 u257) (fun v261 u262 => if v256 = v261 then (k13 u262) else (none)))))))))) else (if (zand v11 63) = 29 then (zsld L xs (zw32 (v7 + 1)) (fun v264 => zvc 10 v1 (fX10_trace v1 v264 u8) (fun v265 u266 => zsld L xs (zw32 (v7 + 1)) (fun v267 => zvc 11 v4 (fX11_trace v4 v267 u266) (fun v268 u269 => if v265 = v268 then (k13 u269) else (none)))))) else (if (zand v11 63) = 30 then (zsld L xs (zw32 (v7 + 1)) (fun v271 => zsld L xs (zw32 (v7 + 2)) (fun v272 => zvc 10 v1 (fX10_keep v1 v271 v272 u8) (fun v273 u274 => zsld L xs (zw32 (v7 + 1)) (fun v275 => zsld L xs (zw32 (v7 + 2)) (fun v276 => zvc 11 v4 (fX11_keep v4 v275 v276 u274) (fun v277 u278 => if v273 = v277 then (k13 u278) else (none)))))))) else (if (zand v11 63) = 31 then (zsld L xs (zw32 (v7 + 1)) (fun v280 => zsld L xs (zw32 (v7 + 2)) (fun v281 => zsld L xs (zw32 (v7 + 3)) (fun v282 => zvc 10 v1 (fX10_row v1 v280 v281 v282 u8) (fun v283 u284 => zsld L xs (zw32 (v7 + 1)) (fun v285 => zsld L xs (zw32 (v7 + 2)) (fun v286 => zsld L xs (zw32 (v7 + 3)) (fun v287 => zvc 11 v4 (fX11_row v4 v285 v286 v287 u284) (fun v288 u289 => if v283 = v288 then (k13 u289) else (none)))))))))) else (if (zand v11 63) = 32 then (zsld L xs (zw32 (v7 + 1)) (fun v291 => zsld L xs (zw32 (v7 + 2)) (fun v292 => zsld L xs (zw32 (v7 + 3)) (fun v293 => zsld L xs (zw32 (v7 + 4)) (fun v294 => zvc 10 v1 (fX10_put v1 v291 v292 (zlor (zlsh v293 32) (zland v294 4294967295)) u8) (fun v295 u296 => zsld L xs (zw32 (v7 + 1)) (fun v297 => zsld L xs (zw32 (v7 + 2)) (fun v298 => zsld L xs (zw32 (v7 + 3)) (fun v299 => zsld L xs (zw32 (v7 + 4)) (fun v300 => zvc 11 v4 (fX11_put v4 v297 v298 (zlor (zlsh v299 32) (zland v300 4294967295)) u296) (fun v301 u302 => if v295 = v301 then (k13 u302) else (none)))))))))))) else (if (zand v11 63) = 33 then (zsld L xs (zw32 (v7 + 1)) (fun v304 => zsld L xs (zw32 (v7 + 2)) (fun v305 => zvc 10 v1 (fX10_element v1 v304 v305 u8) (fun v306 u307 => zsld L xs (zw32 (v7 + 1)) (fun v308 => zsld L xs (zw32 (v7 + 2)) (fun v309 => zvc 11 v4 (fX11_element v4 v308 v309 u307) (fun v310 u311 => if (zcmp v306 v310) = 0 then (k13 u311) else (none)))))))) else (if (zand v11 63) = 34 then (zsld L xs (zw32 (v7 + 1)) (fun v313 => zsld L xs (zw32 (v7 + 2)) (fun v314 => zsld L xs (zw32 (v7 + 3)) (fun v315 => zsld L xs (zw32 (v7 + 4)) (fun v316 => zsld L xs (zw32 (v7 + 5)) (fun v317 => zvc 10 v1 (fX10_shift v1 v313 v314 v315 v316 v317 u8) (fun v318 u319 => zsld L xs (zw32 (v7 + 1)) (fun v320 => zsld L xs (zw32 (v7 + 2)) (fun v321 => zsld L xs (zw32 (v7 + 3)) (fun v322 => zsld L xs (zw32 (v7 + 4)) (fun v323 => zsld L xs (zw32 (v7 + 5)) (fun v324 => zvc 11 v4 (fX11_shift v4 v320 v321 v322 v323 v324 u319) (fun v325 u326 => if v318 = v325 then (k13 u326) else (none)))))))))))))) else (if (zand v11 63) = 35 then (zsld L xs (zw32 (v7 + 1)) (fun v328 => zsld L xs (zw32 (v7 + 2)) (fun v329 => zvc 10 v1 (fX10_taken v1 v328 v329 u8) (fun v330 u331 => zsld L xs (zw32 (v7 + 1)) (fun v332 => zsld L xs (zw32 (v7 + 2)) (fun v333 => zvc 11 v4 (fX11_taken v4 v332 v333 u331) (fun v334 u335 => if v330 = v334 then (k13 u335) else (none)))))))) else (if (zand v11 63) = 36 then (zsld L xs (zw32 (v7 + 1)) (fun v337 => zvc 10 v1 (fX10_count v1 v337 u8) (fun v338 u339 => zsld L xs (zw32 (v7 + 1)) (fun v340 => zvc 11 v4 (fX11_count v4 v340 u339) (fun v341 u342 => if v338 = v341 then (k13 u342) else (none)))))) else (k13 u8)))))))))))))))))))))))))))))))))))))))))) 1000000 0 u6))))
set_option maxRecDepth 100000 in
set_option maxHeartbeats 8000000 in
theorem rL_law {G : Prop} {p : Program} {l : Launch} {e : Env} {R : Room} {s : State} {m : MethodId} {args : Array Value} {below : List Frame} {meth : Method} {c : Code} {w : zW} {L b : Nat} {xs : Nat → Int32} (C : G → zCx w RL cL_law 4 ret 1400 R p s m args meth c) (hX : G → va_X (w.2.1 0) L xs s w.2.2.2.2 ∧ L < 1000 ∧ w.2.1 0 < w.1) (hR : G → R = room_1) (hA : G → args = #[.ref b] ∧ w.1 = s.heap.size) (u0 : zMem) : zSim G p l e R s m args below meth c w 4 0 (fun _ _ => lw_Z below args s) 0 (zla 0 [zR 0]) [] u0 (fL_law L xs u0) := by
  unfold fL_law
  refine zlocs (lb := [(0, zR 0)]) ⟨rfl, trivial⟩ ?_
  refine znew_core C (ci := 10) (pc' := 3) rfl wkRL_7 wi10 wn10 dL_law_0 rfl (fun v1 u2 => ?_)
  refine z_dup C (pc' := 4) dL_law_3 rfl rfl ?_
  refine z_callI C (pc' := 7) liRL_9 lc_X10_init rfl dL_law_4 rfl (by decide) (rX10_init l w v1 u2) rfl (Nat.le_of_ble_eq_true rfl) (fun _ u3 => ?_)
  refine z_astore_n C (i := 1) (la' := [(1, zR v1), (0, zR 0)]) (pc' := 8) dL_law_7 rfl (by decide) rfl rfl ?_
  refine znew_core C (ci := 11) (pc' := 11) rfl wkRL_10 wi11 wn11 dL_law_8 rfl (fun v4 u5 => ?_)
  refine z_dup C (pc' := 12) dL_law_11 rfl rfl ?_
  refine z_callI C (pc' := 15) liRL_12 lc_X11_init rfl dL_law_12 rfl (by decide) (rX11_init l w v4 u5) rfl (Nat.le_of_ble_eq_true rfl) (fun _ u6 => ?_)
  refine z_astore_n C (i := 2) (la' := [(2, zR v4), (1, zR v1), (0, zR 0)]) (pc' := 16) dL_law_15 rfl (by decide) rfl rfl ?_
  refine z_iconst C (pc' := 17) dL_law_16 kc_0 rfl ?_
  refine z_istore_n C (i := 3) (la' := [(3, zI 0), (2, zR v4), (1, zR v1), (0, zR 0)]) (pc' := 18) dL_law_17 rfl (by decide) rfl rfl ?_
  refine zlocs (lb := [(0, zR 0), (1, zR v1), (2, zR v4), (3, zI 0)]) ⟨rfl, rfl, rfl, rfl, trivial⟩ ?_
  refine zlp_ind (fun (f : Int → zMem → zRs) => ∀ (v7 : Int) (u8 : zMem), zSim G p l e R s m args below meth c w 4 0 (fun _ _ => lw_Z below args s) 18 [(0, zR 0), (1, zR v1), (2, zR v4), (3, zI v7)] [] u8 (f v7 u8)) (fun _ _ => znone) (fun k9 hk9 v7 u8 => ?_) _ _ _
  refine z_iload_n C (i := 3) (pc' := 19) dL_law_18 rfl rfl rfl ?_
  refine z_aload_n C (i := 0) (pc' := 20) dL_law_19 rfl rfl rfl ?_
  refine z_slen C hX (pc' := 21) dL_law_20 rfl (fun v10 => ?_)
  refine z_bipush C (pc' := 23) dL_law_21 kb_6 rfl ?_
  refine z_isub C (pc' := 24) dL_law_23 rfl ?_
  refine z_icmp_gt C (pc' := 1425) (pf := 27) dL_law_24 rfl rfl (fun _ => ?_) (fun _ => ?_)
  ·
    refine z_iconst C (pc' := 1426) dL_law_1425 kc_1 rfl ?_
    exact z_lawret C hR hA dL_law_1426
  ·
    refine z_aload_n C (i := 0) (pc' := 28) dL_law_27 rfl rfl rfl ?_
    refine z_iload_n C (i := 3) (pc' := 29) dL_law_28 rfl rfl rfl ?_
    refine z_sld C hX (pc' := 30) dL_law_29 rfl (fun v11 => ?_)
    refine z_bipush C (pc' := 32) dL_law_30 kb_63 rfl ?_
    refine z_iand C (pc' := 33) dL_law_32 rfl ?_
    refine zjoin (P := fun (f : zMem → zRs) => ∀ (u12 : zMem), zSim G p l e R s m args below meth c w 4 0 (fun _ _ => lw_Z below args s) 1419 [(0, zR 0), (1, zR v1), (2, zR v4), (3, zI v7)] [] u12 (f u12)) (fun u12 => ?_) (fun k13 hk13 => ?_)
    ·
      refine z_iinc C (i := 3) (la' := [(3, zI (zw32 (v7 + 6))), (0, zR 0), (1, zR v1), (2, zR v4)]) (pc' := 1422) dL_law_1419 rfl (by decide) rfl rfl ?_
      refine z_goto C (pc' := 18) dL_law_1422 rfl ?_
      exact zlocs (lb := [(0, zR 0), (1, zR v1), (2, zR v4), (3, zI (zw32 (v7 + 6)))]) ⟨rfl, rfl, rfl, rfl, trivial⟩ (hk9 _ _)
    ·
      refine z_tcase C (pc' := 196) dL_law_33 0 (by decide) (by decide) rfl rfl (fun _ => ?_) (fun h14 => ?_)
      ·
        refine z_aload_n C (i := 1) (pc' := 197) dL_law_196 rfl rfl rfl ?_
        refine z_aload_n C (i := 0) (pc' := 198) dL_law_197 rfl rfl rfl ?_
        refine z_iload_n C (i := 3) (pc' := 199) dL_law_198 rfl rfl rfl ?_
        refine z_iconst C (pc' := 200) dL_law_199 kc_1 rfl ?_
        refine z_iadd C (pc' := 201) dL_law_200 rfl ?_
        refine z_sld C hX (pc' := 202) dL_law_201 rfl (fun v15 => ?_)
        refine z_aload_n C (i := 0) (pc' := 203) dL_law_202 rfl rfl rfl ?_
        refine z_iload_n C (i := 3) (pc' := 204) dL_law_203 rfl rfl rfl ?_
        refine z_iconst C (pc' := 205) dL_law_204 kc_2 rfl ?_
        refine z_iadd C (pc' := 206) dL_law_205 rfl ?_
        refine z_sld C hX (pc' := 207) dL_law_206 rfl (fun v16 => ?_)
        refine z_callV1 C (pc' := 210) lvRL_13 lc_X10_saying rfl dL_law_207 rfl (by decide) (rX10_saying l w v1 v15 v16 u8) rfl (Nat.le_of_ble_eq_true rfl) (fun v17 u18 => ?_)
        refine z_aload_n C (i := 2) (pc' := 211) dL_law_210 rfl rfl rfl ?_
        refine z_aload_n C (i := 0) (pc' := 212) dL_law_211 rfl rfl rfl ?_
        refine z_iload_n C (i := 3) (pc' := 213) dL_law_212 rfl rfl rfl ?_
        refine z_iconst C (pc' := 214) dL_law_213 kc_1 rfl ?_
        refine z_iadd C (pc' := 215) dL_law_214 rfl ?_
        refine z_sld C hX (pc' := 216) dL_law_215 rfl (fun v19 => ?_)
        refine z_aload_n C (i := 0) (pc' := 217) dL_law_216 rfl rfl rfl ?_
        refine z_iload_n C (i := 3) (pc' := 218) dL_law_217 rfl rfl rfl ?_
        refine z_iconst C (pc' := 219) dL_law_218 kc_2 rfl ?_
        refine z_iadd C (pc' := 220) dL_law_219 rfl ?_
        refine z_sld C hX (pc' := 221) dL_law_220 rfl (fun v20 => ?_)
        refine z_callV1 C (pc' := 224) lvRL_17 lc_X11_saying rfl dL_law_221 rfl (by decide) (rX11_saying l w v4 v19 v20 u18) rfl (Nat.le_of_ble_eq_true rfl) (fun v21 u22 => ?_)
        refine z_icmp_eq C (pc' := 1419) (pf := 227) dL_law_224 rfl rfl (fun _ => ?_) (fun _ => ?_)
        ·
          exact zlocs (lb := [(0, zR 0), (1, zR v1), (2, zR v4), (3, zI v7)]) ⟨rfl, rfl, rfl, rfl, trivial⟩ (hk13 _)
        ·
          refine z_iconst C (pc' := 228) dL_law_227 kc_0 rfl ?_
          exact znone
      ·
        refine z_tcase C (pc' := 229) dL_law_33 1 (by decide) (by decide) rfl rfl (fun _ => ?_) (fun h23 => ?_)
        ·
          refine z_aload_n C (i := 1) (pc' := 230) dL_law_229 rfl rfl rfl ?_
          refine z_aload_n C (i := 0) (pc' := 231) dL_law_230 rfl rfl rfl ?_
          refine z_iload_n C (i := 3) (pc' := 232) dL_law_231 rfl rfl rfl ?_
          refine z_iconst C (pc' := 233) dL_law_232 kc_1 rfl ?_
          refine z_iadd C (pc' := 234) dL_law_233 rfl ?_
          refine z_sld C hX (pc' := 235) dL_law_234 rfl (fun v24 => ?_)
          refine z_aload_n C (i := 0) (pc' := 236) dL_law_235 rfl rfl rfl ?_
          refine z_iload_n C (i := 3) (pc' := 237) dL_law_236 rfl rfl rfl ?_
          refine z_iconst C (pc' := 238) dL_law_237 kc_2 rfl ?_
          refine z_iadd C (pc' := 239) dL_law_238 rfl ?_
          refine z_sld C hX (pc' := 240) dL_law_239 rfl (fun v25 => ?_)
          refine z_aload_n C (i := 0) (pc' := 241) dL_law_240 rfl rfl rfl ?_
          refine z_iload_n C (i := 3) (pc' := 242) dL_law_241 rfl rfl rfl ?_
          refine z_iconst C (pc' := 243) dL_law_242 kc_3 rfl ?_
          refine z_iadd C (pc' := 244) dL_law_243 rfl ?_
          refine z_sld C hX (pc' := 245) dL_law_244 rfl (fun v26 => ?_)
          refine z_callV1 C (pc' := 248) lvRL_18 lc_X10_sayings rfl dL_law_245 rfl (by decide) (rX10_sayings l w v1 v24 v25 v26 u8) rfl (Nat.le_of_ble_eq_true rfl) (fun v27 u28 => ?_)
          refine z_aload_n C (i := 2) (pc' := 249) dL_law_248 rfl rfl rfl ?_
          refine z_aload_n C (i := 0) (pc' := 250) dL_law_249 rfl rfl rfl ?_
          refine z_iload_n C (i := 3) (pc' := 251) dL_law_250 rfl rfl rfl ?_
          refine z_iconst C (pc' := 252) dL_law_251 kc_1 rfl ?_
          refine z_iadd C (pc' := 253) dL_law_252 rfl ?_
          refine z_sld C hX (pc' := 254) dL_law_253 rfl (fun v29 => ?_)
          refine z_aload_n C (i := 0) (pc' := 255) dL_law_254 rfl rfl rfl ?_
          refine z_iload_n C (i := 3) (pc' := 256) dL_law_255 rfl rfl rfl ?_
          refine z_iconst C (pc' := 257) dL_law_256 kc_2 rfl ?_
          refine z_iadd C (pc' := 258) dL_law_257 rfl ?_
          refine z_sld C hX (pc' := 259) dL_law_258 rfl (fun v30 => ?_)
          refine z_aload_n C (i := 0) (pc' := 260) dL_law_259 rfl rfl rfl ?_
          refine z_iload_n C (i := 3) (pc' := 261) dL_law_260 rfl rfl rfl ?_
          refine z_iconst C (pc' := 262) dL_law_261 kc_3 rfl ?_
          refine z_iadd C (pc' := 263) dL_law_262 rfl ?_
          refine z_sld C hX (pc' := 264) dL_law_263 rfl (fun v31 => ?_)
          refine z_callV1 C (pc' := 267) lvRL_22 lc_X11_sayings rfl dL_law_264 rfl (by decide) (rX11_sayings l w v4 v29 v30 v31 u28) rfl (Nat.le_of_ble_eq_true rfl) (fun v32 u33 => ?_)
          refine z_icmp_eq C (pc' := 1419) (pf := 270) dL_law_267 rfl rfl (fun _ => ?_) (fun _ => ?_)
          ·
            exact zlocs (lb := [(0, zR 0), (1, zR v1), (2, zR v4), (3, zI v7)]) ⟨rfl, rfl, rfl, rfl, trivial⟩ (hk13 _)
          ·
            refine z_iconst C (pc' := 271) dL_law_270 kc_0 rfl ?_
            exact znone
        ·
          refine z_tcase C (pc' := 272) dL_law_33 2 (by decide) (by decide) rfl rfl (fun _ => ?_) (fun h34 => ?_)
          ·
            refine z_aload_n C (i := 1) (pc' := 273) dL_law_272 rfl rfl rfl ?_
            refine z_aload_n C (i := 0) (pc' := 274) dL_law_273 rfl rfl rfl ?_
            refine z_iload_n C (i := 3) (pc' := 275) dL_law_274 rfl rfl rfl ?_
            refine z_iconst C (pc' := 276) dL_law_275 kc_1 rfl ?_
            refine z_iadd C (pc' := 277) dL_law_276 rfl ?_
            refine z_sld C hX (pc' := 278) dL_law_277 rfl (fun v35 => ?_)
            refine z_aload_n C (i := 0) (pc' := 279) dL_law_278 rfl rfl rfl ?_
            refine z_iload_n C (i := 3) (pc' := 280) dL_law_279 rfl rfl rfl ?_
            refine z_iconst C (pc' := 281) dL_law_280 kc_2 rfl ?_
            refine z_iadd C (pc' := 282) dL_law_281 rfl ?_
            refine z_sld C hX (pc' := 283) dL_law_282 rfl (fun v36 => ?_)
            refine z_aload_n C (i := 0) (pc' := 284) dL_law_283 rfl rfl rfl ?_
            refine z_iload_n C (i := 3) (pc' := 285) dL_law_284 rfl rfl rfl ?_
            refine z_iconst C (pc' := 286) dL_law_285 kc_3 rfl ?_
            refine z_iadd C (pc' := 287) dL_law_286 rfl ?_
            refine z_sld C hX (pc' := 288) dL_law_287 rfl (fun v37 => ?_)
            refine z_callV1 C (pc' := 291) lvRL_23 lc_X10_mend rfl dL_law_288 rfl (by decide) (rX10_mend l w v1 v35 v36 v37 u8) rfl (Nat.le_of_ble_eq_true rfl) (fun v38 u39 => ?_)
            refine z_aload_n C (i := 2) (pc' := 292) dL_law_291 rfl rfl rfl ?_
            refine z_aload_n C (i := 0) (pc' := 293) dL_law_292 rfl rfl rfl ?_
            refine z_iload_n C (i := 3) (pc' := 294) dL_law_293 rfl rfl rfl ?_
            refine z_iconst C (pc' := 295) dL_law_294 kc_1 rfl ?_
            refine z_iadd C (pc' := 296) dL_law_295 rfl ?_
            refine z_sld C hX (pc' := 297) dL_law_296 rfl (fun v40 => ?_)
            refine z_aload_n C (i := 0) (pc' := 298) dL_law_297 rfl rfl rfl ?_
            refine z_iload_n C (i := 3) (pc' := 299) dL_law_298 rfl rfl rfl ?_
            refine z_iconst C (pc' := 300) dL_law_299 kc_2 rfl ?_
            refine z_iadd C (pc' := 301) dL_law_300 rfl ?_
            refine z_sld C hX (pc' := 302) dL_law_301 rfl (fun v41 => ?_)
            refine z_aload_n C (i := 0) (pc' := 303) dL_law_302 rfl rfl rfl ?_
            refine z_iload_n C (i := 3) (pc' := 304) dL_law_303 rfl rfl rfl ?_
            refine z_iconst C (pc' := 305) dL_law_304 kc_3 rfl ?_
            refine z_iadd C (pc' := 306) dL_law_305 rfl ?_
            refine z_sld C hX (pc' := 307) dL_law_306 rfl (fun v42 => ?_)
            refine z_callV1 C (pc' := 310) lvRL_26 lc_X11_mend rfl dL_law_307 rfl (by decide) (rX11_mend l w v4 v40 v41 v42 u39) rfl (Nat.le_of_ble_eq_true rfl) (fun v43 u44 => ?_)
            refine z_icmp_eq C (pc' := 1419) (pf := 313) dL_law_310 rfl rfl (fun _ => ?_) (fun _ => ?_)
            ·
              exact zlocs (lb := [(0, zR 0), (1, zR v1), (2, zR v4), (3, zI v7)]) ⟨rfl, rfl, rfl, rfl, trivial⟩ (hk13 _)
            ·
              refine z_iconst C (pc' := 314) dL_law_313 kc_0 rfl ?_
              exact znone
          ·
            refine z_tcase C (pc' := 315) dL_law_33 3 (by decide) (by decide) rfl rfl (fun _ => ?_) (fun h45 => ?_)
            ·
              refine z_aload_n C (i := 1) (pc' := 316) dL_law_315 rfl rfl rfl ?_
              refine z_aload_n C (i := 0) (pc' := 317) dL_law_316 rfl rfl rfl ?_
              refine z_iload_n C (i := 3) (pc' := 318) dL_law_317 rfl rfl rfl ?_
              refine z_iconst C (pc' := 319) dL_law_318 kc_1 rfl ?_
              refine z_iadd C (pc' := 320) dL_law_319 rfl ?_
              refine z_sld C hX (pc' := 321) dL_law_320 rfl (fun v46 => ?_)
              refine z_aload_n C (i := 0) (pc' := 322) dL_law_321 rfl rfl rfl ?_
              refine z_iload_n C (i := 3) (pc' := 323) dL_law_322 rfl rfl rfl ?_
              refine z_iconst C (pc' := 324) dL_law_323 kc_2 rfl ?_
              refine z_iadd C (pc' := 325) dL_law_324 rfl ?_
              refine z_sld C hX (pc' := 326) dL_law_325 rfl (fun v47 => ?_)
              refine z_callV1 C (pc' := 329) lvRL_27 lc_X10_of rfl dL_law_326 rfl (by decide) (rX10_of l w v1 v46 v47 u8) rfl (Nat.le_of_ble_eq_true rfl) (fun v48 u49 => ?_)
              refine z_aload_n C (i := 2) (pc' := 330) dL_law_329 rfl rfl rfl ?_
              refine z_aload_n C (i := 0) (pc' := 331) dL_law_330 rfl rfl rfl ?_
              refine z_iload_n C (i := 3) (pc' := 332) dL_law_331 rfl rfl rfl ?_
              refine z_iconst C (pc' := 333) dL_law_332 kc_1 rfl ?_
              refine z_iadd C (pc' := 334) dL_law_333 rfl ?_
              refine z_sld C hX (pc' := 335) dL_law_334 rfl (fun v50 => ?_)
              refine z_aload_n C (i := 0) (pc' := 336) dL_law_335 rfl rfl rfl ?_
              refine z_iload_n C (i := 3) (pc' := 337) dL_law_336 rfl rfl rfl ?_
              refine z_iconst C (pc' := 338) dL_law_337 kc_2 rfl ?_
              refine z_iadd C (pc' := 339) dL_law_338 rfl ?_
              refine z_sld C hX (pc' := 340) dL_law_339 rfl (fun v51 => ?_)
              refine z_callV1 C (pc' := 343) lvRL_30 lc_X11_of rfl dL_law_340 rfl (by decide) (rX11_of l w v4 v50 v51 u49) rfl (Nat.le_of_ble_eq_true rfl) (fun v52 u53 => ?_)
              refine z_icmp_eq C (pc' := 1419) (pf := 346) dL_law_343 rfl rfl (fun _ => ?_) (fun _ => ?_)
              ·
                exact zlocs (lb := [(0, zR 0), (1, zR v1), (2, zR v4), (3, zI v7)]) ⟨rfl, rfl, rfl, rfl, trivial⟩ (hk13 _)
              ·
                refine z_iconst C (pc' := 347) dL_law_346 kc_0 rfl ?_
                exact znone
            ·
              refine z_tcase C (pc' := 348) dL_law_33 4 (by decide) (by decide) rfl rfl (fun _ => ?_) (fun h54 => ?_)
              ·
                refine z_aload_n C (i := 1) (pc' := 349) dL_law_348 rfl rfl rfl ?_
                refine z_aload_n C (i := 0) (pc' := 350) dL_law_349 rfl rfl rfl ?_
                refine z_iload_n C (i := 3) (pc' := 351) dL_law_350 rfl rfl rfl ?_
                refine z_iconst C (pc' := 352) dL_law_351 kc_1 rfl ?_
                refine z_iadd C (pc' := 353) dL_law_352 rfl ?_
                refine z_sld C hX (pc' := 354) dL_law_353 rfl (fun v55 => ?_)
                refine z_callV1 C (pc' := 357) lvRL_31 lc_X10_feed rfl dL_law_354 rfl (by decide) (rX10_feed l w v1 v55 u8) rfl (Nat.le_of_ble_eq_true rfl) (fun v56 u57 => ?_)
                refine z_aload_n C (i := 2) (pc' := 358) dL_law_357 rfl rfl rfl ?_
                refine z_aload_n C (i := 0) (pc' := 359) dL_law_358 rfl rfl rfl ?_
                refine z_iload_n C (i := 3) (pc' := 360) dL_law_359 rfl rfl rfl ?_
                refine z_iconst C (pc' := 361) dL_law_360 kc_1 rfl ?_
                refine z_iadd C (pc' := 362) dL_law_361 rfl ?_
                refine z_sld C hX (pc' := 363) dL_law_362 rfl (fun v58 => ?_)
                refine z_callV1 C (pc' := 366) lvRL_35 lc_X11_feed rfl dL_law_363 rfl (by decide) (rX11_feed l w v4 v58 u57) rfl (Nat.le_of_ble_eq_true rfl) (fun v59 u60 => ?_)
                refine z_icmp_eq C (pc' := 1419) (pf := 369) dL_law_366 rfl rfl (fun _ => ?_) (fun _ => ?_)
                ·
                  exact zlocs (lb := [(0, zR 0), (1, zR v1), (2, zR v4), (3, zI v7)]) ⟨rfl, rfl, rfl, rfl, trivial⟩ (hk13 _)
                ·
                  refine z_iconst C (pc' := 370) dL_law_369 kc_0 rfl ?_
                  exact znone
              ·
                refine z_tcase C (pc' := 371) dL_law_33 5 (by decide) (by decide) rfl rfl (fun _ => ?_) (fun h61 => ?_)
                ·
                  refine z_aload_n C (i := 1) (pc' := 372) dL_law_371 rfl rfl rfl ?_
                  refine z_aload_n C (i := 0) (pc' := 373) dL_law_372 rfl rfl rfl ?_
                  refine z_iload_n C (i := 3) (pc' := 374) dL_law_373 rfl rfl rfl ?_
                  refine z_iconst C (pc' := 375) dL_law_374 kc_1 rfl ?_
                  refine z_iadd C (pc' := 376) dL_law_375 rfl ?_
                  refine z_sld C hX (pc' := 377) dL_law_376 rfl (fun v62 => ?_)
                  refine z_aload_n C (i := 0) (pc' := 378) dL_law_377 rfl rfl rfl ?_
                  refine z_iload_n C (i := 3) (pc' := 379) dL_law_378 rfl rfl rfl ?_
                  refine z_iconst C (pc' := 380) dL_law_379 kc_2 rfl ?_
                  refine z_iadd C (pc' := 381) dL_law_380 rfl ?_
                  refine z_sld C hX (pc' := 382) dL_law_381 rfl (fun v63 => ?_)
                  refine z_callV1 C (pc' := 385) lvRL_36 lc_X10_writer rfl dL_law_382 rfl (by decide) (rX10_writer l w v1 v62 v63 u8) rfl (Nat.le_of_ble_eq_true rfl) (fun v64 u65 => ?_)
                  refine z_aload_n C (i := 2) (pc' := 386) dL_law_385 rfl rfl rfl ?_
                  refine z_aload_n C (i := 0) (pc' := 387) dL_law_386 rfl rfl rfl ?_
                  refine z_iload_n C (i := 3) (pc' := 388) dL_law_387 rfl rfl rfl ?_
                  refine z_iconst C (pc' := 389) dL_law_388 kc_1 rfl ?_
                  refine z_iadd C (pc' := 390) dL_law_389 rfl ?_
                  refine z_sld C hX (pc' := 391) dL_law_390 rfl (fun v66 => ?_)
                  refine z_aload_n C (i := 0) (pc' := 392) dL_law_391 rfl rfl rfl ?_
                  refine z_iload_n C (i := 3) (pc' := 393) dL_law_392 rfl rfl rfl ?_
                  refine z_iconst C (pc' := 394) dL_law_393 kc_2 rfl ?_
                  refine z_iadd C (pc' := 395) dL_law_394 rfl ?_
                  refine z_sld C hX (pc' := 396) dL_law_395 rfl (fun v67 => ?_)
                  refine z_callV1 C (pc' := 399) lvRL_39 lc_X11_writer rfl dL_law_396 rfl (by decide) (rX11_writer l w v4 v66 v67 u65) rfl (Nat.le_of_ble_eq_true rfl) (fun v68 u69 => ?_)
                  refine z_icmp_eq C (pc' := 1419) (pf := 402) dL_law_399 rfl rfl (fun _ => ?_) (fun _ => ?_)
                  ·
                    exact zlocs (lb := [(0, zR 0), (1, zR v1), (2, zR v4), (3, zI v7)]) ⟨rfl, rfl, rfl, rfl, trivial⟩ (hk13 _)
                  ·
                    refine z_iconst C (pc' := 403) dL_law_402 kc_0 rfl ?_
                    exact znone
                ·
                  refine z_tcase C (pc' := 404) dL_law_33 6 (by decide) (by decide) rfl rfl (fun _ => ?_) (fun h70 => ?_)
                  ·
                    refine z_aload_n C (i := 1) (pc' := 405) dL_law_404 rfl rfl rfl ?_
                    refine z_aload_n C (i := 0) (pc' := 406) dL_law_405 rfl rfl rfl ?_
                    refine z_iload_n C (i := 3) (pc' := 407) dL_law_406 rfl rfl rfl ?_
                    refine z_iconst C (pc' := 408) dL_law_407 kc_1 rfl ?_
                    refine z_iadd C (pc' := 409) dL_law_408 rfl ?_
                    refine z_sld C hX (pc' := 410) dL_law_409 rfl (fun v71 => ?_)
                    refine z_aload_n C (i := 0) (pc' := 411) dL_law_410 rfl rfl rfl ?_
                    refine z_iload_n C (i := 3) (pc' := 412) dL_law_411 rfl rfl rfl ?_
                    refine z_iconst C (pc' := 413) dL_law_412 kc_2 rfl ?_
                    refine z_iadd C (pc' := 414) dL_law_413 rfl ?_
                    refine z_sld C hX (pc' := 415) dL_law_414 rfl (fun v72 => ?_)
                    refine z_callV1 C (pc' := 418) lvRL_40 lc_X10_heed rfl dL_law_415 rfl (by decide) (rX10_heed l w v1 v71 v72 u8) rfl (Nat.le_of_ble_eq_true rfl) (fun v73 u74 => ?_)
                    refine z_aload_n C (i := 2) (pc' := 419) dL_law_418 rfl rfl rfl ?_
                    refine z_aload_n C (i := 0) (pc' := 420) dL_law_419 rfl rfl rfl ?_
                    refine z_iload_n C (i := 3) (pc' := 421) dL_law_420 rfl rfl rfl ?_
                    refine z_iconst C (pc' := 422) dL_law_421 kc_1 rfl ?_
                    refine z_iadd C (pc' := 423) dL_law_422 rfl ?_
                    refine z_sld C hX (pc' := 424) dL_law_423 rfl (fun v75 => ?_)
                    refine z_aload_n C (i := 0) (pc' := 425) dL_law_424 rfl rfl rfl ?_
                    refine z_iload_n C (i := 3) (pc' := 426) dL_law_425 rfl rfl rfl ?_
                    refine z_iconst C (pc' := 427) dL_law_426 kc_2 rfl ?_
                    refine z_iadd C (pc' := 428) dL_law_427 rfl ?_
                    refine z_sld C hX (pc' := 429) dL_law_428 rfl (fun v76 => ?_)
                    refine z_callV1 C (pc' := 432) lvRL_43 lc_X11_heed rfl dL_law_429 rfl (by decide) (rX11_heed l w v4 v75 v76 u74) rfl (Nat.le_of_ble_eq_true rfl) (fun v77 u78 => ?_)
                    refine z_icmp_eq C (pc' := 1419) (pf := 435) dL_law_432 rfl rfl (fun _ => ?_) (fun _ => ?_)
                    ·
                      exact zlocs (lb := [(0, zR 0), (1, zR v1), (2, zR v4), (3, zI v7)]) ⟨rfl, rfl, rfl, rfl, trivial⟩ (hk13 _)
                    ·
                      refine z_iconst C (pc' := 436) dL_law_435 kc_0 rfl ?_
                      exact znone
                  ·
                    refine z_tcase C (pc' := 437) dL_law_33 7 (by decide) (by decide) rfl rfl (fun _ => ?_) (fun h79 => ?_)
                    ·
                      refine z_aload_n C (i := 1) (pc' := 438) dL_law_437 rfl rfl rfl ?_
                      refine z_aload_n C (i := 0) (pc' := 439) dL_law_438 rfl rfl rfl ?_
                      refine z_iload_n C (i := 3) (pc' := 440) dL_law_439 rfl rfl rfl ?_
                      refine z_iconst C (pc' := 441) dL_law_440 kc_1 rfl ?_
                      refine z_iadd C (pc' := 442) dL_law_441 rfl ?_
                      refine z_sld C hX (pc' := 443) dL_law_442 rfl (fun v80 => ?_)
                      refine z_aload_n C (i := 0) (pc' := 444) dL_law_443 rfl rfl rfl ?_
                      refine z_iload_n C (i := 3) (pc' := 445) dL_law_444 rfl rfl rfl ?_
                      refine z_iconst C (pc' := 446) dL_law_445 kc_2 rfl ?_
                      refine z_iadd C (pc' := 447) dL_law_446 rfl ?_
                      refine z_sld C hX (pc' := 448) dL_law_447 rfl (fun v81 => ?_)
                      refine z_callV1 C (pc' := 451) lvRL_44 lc_X10_take rfl dL_law_448 rfl (by decide) (rX10_take l w v1 v80 v81 u8) rfl (Nat.le_of_ble_eq_true rfl) (fun v82 u83 => ?_)
                      refine z_aload_n C (i := 2) (pc' := 452) dL_law_451 rfl rfl rfl ?_
                      refine z_aload_n C (i := 0) (pc' := 453) dL_law_452 rfl rfl rfl ?_
                      refine z_iload_n C (i := 3) (pc' := 454) dL_law_453 rfl rfl rfl ?_
                      refine z_iconst C (pc' := 455) dL_law_454 kc_1 rfl ?_
                      refine z_iadd C (pc' := 456) dL_law_455 rfl ?_
                      refine z_sld C hX (pc' := 457) dL_law_456 rfl (fun v84 => ?_)
                      refine z_aload_n C (i := 0) (pc' := 458) dL_law_457 rfl rfl rfl ?_
                      refine z_iload_n C (i := 3) (pc' := 459) dL_law_458 rfl rfl rfl ?_
                      refine z_iconst C (pc' := 460) dL_law_459 kc_2 rfl ?_
                      refine z_iadd C (pc' := 461) dL_law_460 rfl ?_
                      refine z_sld C hX (pc' := 462) dL_law_461 rfl (fun v85 => ?_)
                      refine z_callV1 C (pc' := 465) lvRL_47 lc_X11_take rfl dL_law_462 rfl (by decide) (rX11_take l w v4 v84 v85 u83) rfl (Nat.le_of_ble_eq_true rfl) (fun v86 u87 => ?_)
                      refine z_icmp_eq C (pc' := 1419) (pf := 468) dL_law_465 rfl rfl (fun _ => ?_) (fun _ => ?_)
                      ·
                        exact zlocs (lb := [(0, zR 0), (1, zR v1), (2, zR v4), (3, zI v7)]) ⟨rfl, rfl, rfl, rfl, trivial⟩ (hk13 _)
                      ·
                        refine z_iconst C (pc' := 469) dL_law_468 kc_0 rfl ?_
                        exact znone
                    ·
                      refine z_tcase C (pc' := 470) dL_law_33 8 (by decide) (by decide) rfl rfl (fun _ => ?_) (fun h88 => ?_)
                      ·
                        refine z_aload_n C (i := 1) (pc' := 471) dL_law_470 rfl rfl rfl ?_
                        refine z_aload_n C (i := 0) (pc' := 472) dL_law_471 rfl rfl rfl ?_
                        refine z_iload_n C (i := 3) (pc' := 473) dL_law_472 rfl rfl rfl ?_
                        refine z_iconst C (pc' := 474) dL_law_473 kc_1 rfl ?_
                        refine z_iadd C (pc' := 475) dL_law_474 rfl ?_
                        refine z_sld C hX (pc' := 476) dL_law_475 rfl (fun v89 => ?_)
                        refine z_aload_n C (i := 0) (pc' := 477) dL_law_476 rfl rfl rfl ?_
                        refine z_iload_n C (i := 3) (pc' := 478) dL_law_477 rfl rfl rfl ?_
                        refine z_iconst C (pc' := 479) dL_law_478 kc_2 rfl ?_
                        refine z_iadd C (pc' := 480) dL_law_479 rfl ?_
                        refine z_sld C hX (pc' := 481) dL_law_480 rfl (fun v90 => ?_)
                        refine z_callV1 C (pc' := 484) lvRL_48 lc_X10_told rfl dL_law_481 rfl (by decide) (rX10_told l w v1 v89 v90 u8) rfl (Nat.le_of_ble_eq_true rfl) (fun v91 u92 => ?_)
                        refine z_aload_n C (i := 2) (pc' := 485) dL_law_484 rfl rfl rfl ?_
                        refine z_aload_n C (i := 0) (pc' := 486) dL_law_485 rfl rfl rfl ?_
                        refine z_iload_n C (i := 3) (pc' := 487) dL_law_486 rfl rfl rfl ?_
                        refine z_iconst C (pc' := 488) dL_law_487 kc_1 rfl ?_
                        refine z_iadd C (pc' := 489) dL_law_488 rfl ?_
                        refine z_sld C hX (pc' := 490) dL_law_489 rfl (fun v93 => ?_)
                        refine z_aload_n C (i := 0) (pc' := 491) dL_law_490 rfl rfl rfl ?_
                        refine z_iload_n C (i := 3) (pc' := 492) dL_law_491 rfl rfl rfl ?_
                        refine z_iconst C (pc' := 493) dL_law_492 kc_2 rfl ?_
                        refine z_iadd C (pc' := 494) dL_law_493 rfl ?_
                        refine z_sld C hX (pc' := 495) dL_law_494 rfl (fun v94 => ?_)
                        refine z_callV1 C (pc' := 498) lvRL_51 lc_X11_told rfl dL_law_495 rfl (by decide) (rX11_told l w v4 v93 v94 u92) rfl (Nat.le_of_ble_eq_true rfl) (fun v95 u96 => ?_)
                        refine z_icmp_eq C (pc' := 1419) (pf := 501) dL_law_498 rfl rfl (fun _ => ?_) (fun _ => ?_)
                        ·
                          exact zlocs (lb := [(0, zR 0), (1, zR v1), (2, zR v4), (3, zI v7)]) ⟨rfl, rfl, rfl, rfl, trivial⟩ (hk13 _)
                        ·
                          refine z_iconst C (pc' := 502) dL_law_501 kc_0 rfl ?_
                          exact znone
                      ·
                        refine z_tcase C (pc' := 503) dL_law_33 9 (by decide) (by decide) rfl rfl (fun _ => ?_) (fun h97 => ?_)
                        ·
                          refine z_aload_n C (i := 1) (pc' := 504) dL_law_503 rfl rfl rfl ?_
                          refine z_aload_n C (i := 0) (pc' := 505) dL_law_504 rfl rfl rfl ?_
                          refine z_iload_n C (i := 3) (pc' := 506) dL_law_505 rfl rfl rfl ?_
                          refine z_iconst C (pc' := 507) dL_law_506 kc_1 rfl ?_
                          refine z_iadd C (pc' := 508) dL_law_507 rfl ?_
                          refine z_sld C hX (pc' := 509) dL_law_508 rfl (fun v98 => ?_)
                          refine z_aload_n C (i := 0) (pc' := 510) dL_law_509 rfl rfl rfl ?_
                          refine z_iload_n C (i := 3) (pc' := 511) dL_law_510 rfl rfl rfl ?_
                          refine z_iconst C (pc' := 512) dL_law_511 kc_2 rfl ?_
                          refine z_iadd C (pc' := 513) dL_law_512 rfl ?_
                          refine z_sld C hX (pc' := 514) dL_law_513 rfl (fun v99 => ?_)
                          refine z_aload_n C (i := 0) (pc' := 515) dL_law_514 rfl rfl rfl ?_
                          refine z_iload_n C (i := 3) (pc' := 516) dL_law_515 rfl rfl rfl ?_
                          refine z_iconst C (pc' := 517) dL_law_516 kc_3 rfl ?_
                          refine z_iadd C (pc' := 518) dL_law_517 rfl ?_
                          refine z_sld C hX (pc' := 519) dL_law_518 rfl (fun v100 => ?_)
                          refine z_callV1 C (pc' := 522) lvRL_52 lc_X10_add rfl dL_law_519 rfl (by decide) (rX10_add l w v1 v98 v99 v100 u8) rfl (Nat.le_of_ble_eq_true rfl) (fun v101 u102 => ?_)
                          refine z_aload_n C (i := 2) (pc' := 523) dL_law_522 rfl rfl rfl ?_
                          refine z_aload_n C (i := 0) (pc' := 524) dL_law_523 rfl rfl rfl ?_
                          refine z_iload_n C (i := 3) (pc' := 525) dL_law_524 rfl rfl rfl ?_
                          refine z_iconst C (pc' := 526) dL_law_525 kc_1 rfl ?_
                          refine z_iadd C (pc' := 527) dL_law_526 rfl ?_
                          refine z_sld C hX (pc' := 528) dL_law_527 rfl (fun v103 => ?_)
                          refine z_aload_n C (i := 0) (pc' := 529) dL_law_528 rfl rfl rfl ?_
                          refine z_iload_n C (i := 3) (pc' := 530) dL_law_529 rfl rfl rfl ?_
                          refine z_iconst C (pc' := 531) dL_law_530 kc_2 rfl ?_
                          refine z_iadd C (pc' := 532) dL_law_531 rfl ?_
                          refine z_sld C hX (pc' := 533) dL_law_532 rfl (fun v104 => ?_)
                          refine z_aload_n C (i := 0) (pc' := 534) dL_law_533 rfl rfl rfl ?_
                          refine z_iload_n C (i := 3) (pc' := 535) dL_law_534 rfl rfl rfl ?_
                          refine z_iconst C (pc' := 536) dL_law_535 kc_3 rfl ?_
                          refine z_iadd C (pc' := 537) dL_law_536 rfl ?_
                          refine z_sld C hX (pc' := 538) dL_law_537 rfl (fun v105 => ?_)
                          refine z_callV1 C (pc' := 541) lvRL_55 lc_X11_add rfl dL_law_538 rfl (by decide) (rX11_add l w v4 v103 v104 v105 u102) rfl (Nat.le_of_ble_eq_true rfl) (fun v106 u107 => ?_)
                          refine z_icmp_eq C (pc' := 1419) (pf := 544) dL_law_541 rfl rfl (fun _ => ?_) (fun _ => ?_)
                          ·
                            exact zlocs (lb := [(0, zR 0), (1, zR v1), (2, zR v4), (3, zI v7)]) ⟨rfl, rfl, rfl, rfl, trivial⟩ (hk13 _)
                          ·
                            refine z_iconst C (pc' := 545) dL_law_544 kc_0 rfl ?_
                            exact znone
                        ·
                          refine z_tcase C (pc' := 546) dL_law_33 10 (by decide) (by decide) rfl rfl (fun _ => ?_) (fun h108 => ?_)
                          ·
                            refine z_aload_n C (i := 1) (pc' := 547) dL_law_546 rfl rfl rfl ?_
                            refine z_aload_n C (i := 0) (pc' := 548) dL_law_547 rfl rfl rfl ?_
                            refine z_iload_n C (i := 3) (pc' := 549) dL_law_548 rfl rfl rfl ?_
                            refine z_iconst C (pc' := 550) dL_law_549 kc_1 rfl ?_
                            refine z_iadd C (pc' := 551) dL_law_550 rfl ?_
                            refine z_sld C hX (pc' := 552) dL_law_551 rfl (fun v109 => ?_)
                            refine z_aload_n C (i := 0) (pc' := 553) dL_law_552 rfl rfl rfl ?_
                            refine z_iload_n C (i := 3) (pc' := 554) dL_law_553 rfl rfl rfl ?_
                            refine z_iconst C (pc' := 555) dL_law_554 kc_2 rfl ?_
                            refine z_iadd C (pc' := 556) dL_law_555 rfl ?_
                            refine z_sld C hX (pc' := 557) dL_law_556 rfl (fun v110 => ?_)
                            refine z_callV1 C (pc' := 560) lvRL_56 lc_X10_strike rfl dL_law_557 rfl (by decide) (rX10_strike l w v1 v109 v110 u8) rfl (Nat.le_of_ble_eq_true rfl) (fun v111 u112 => ?_)
                            refine z_aload_n C (i := 2) (pc' := 561) dL_law_560 rfl rfl rfl ?_
                            refine z_aload_n C (i := 0) (pc' := 562) dL_law_561 rfl rfl rfl ?_
                            refine z_iload_n C (i := 3) (pc' := 563) dL_law_562 rfl rfl rfl ?_
                            refine z_iconst C (pc' := 564) dL_law_563 kc_1 rfl ?_
                            refine z_iadd C (pc' := 565) dL_law_564 rfl ?_
                            refine z_sld C hX (pc' := 566) dL_law_565 rfl (fun v113 => ?_)
                            refine z_aload_n C (i := 0) (pc' := 567) dL_law_566 rfl rfl rfl ?_
                            refine z_iload_n C (i := 3) (pc' := 568) dL_law_567 rfl rfl rfl ?_
                            refine z_iconst C (pc' := 569) dL_law_568 kc_2 rfl ?_
                            refine z_iadd C (pc' := 570) dL_law_569 rfl ?_
                            refine z_sld C hX (pc' := 571) dL_law_570 rfl (fun v114 => ?_)
                            refine z_callV1 C (pc' := 574) lvRL_59 lc_X11_strike rfl dL_law_571 rfl (by decide) (rX11_strike l w v4 v113 v114 u112) rfl (Nat.le_of_ble_eq_true rfl) (fun v115 u116 => ?_)
                            refine z_icmp_eq C (pc' := 1419) (pf := 577) dL_law_574 rfl rfl (fun _ => ?_) (fun _ => ?_)
                            ·
                              exact zlocs (lb := [(0, zR 0), (1, zR v1), (2, zR v4), (3, zI v7)]) ⟨rfl, rfl, rfl, rfl, trivial⟩ (hk13 _)
                            ·
                              refine z_iconst C (pc' := 578) dL_law_577 kc_0 rfl ?_
                              exact znone
                          ·
                            refine z_tcase C (pc' := 579) dL_law_33 11 (by decide) (by decide) rfl rfl (fun _ => ?_) (fun h117 => ?_)
                            ·
                              refine z_aload_n C (i := 1) (pc' := 580) dL_law_579 rfl rfl rfl ?_
                              refine z_aload_n C (i := 0) (pc' := 581) dL_law_580 rfl rfl rfl ?_
                              refine z_iload_n C (i := 3) (pc' := 582) dL_law_581 rfl rfl rfl ?_
                              refine z_iconst C (pc' := 583) dL_law_582 kc_1 rfl ?_
                              refine z_iadd C (pc' := 584) dL_law_583 rfl ?_
                              refine z_sld C hX (pc' := 585) dL_law_584 rfl (fun v118 => ?_)
                              refine z_aload_n C (i := 0) (pc' := 586) dL_law_585 rfl rfl rfl ?_
                              refine z_iload_n C (i := 3) (pc' := 587) dL_law_586 rfl rfl rfl ?_
                              refine z_iconst C (pc' := 588) dL_law_587 kc_2 rfl ?_
                              refine z_iadd C (pc' := 589) dL_law_588 rfl ?_
                              refine z_sld C hX (pc' := 590) dL_law_589 rfl (fun v119 => ?_)
                              refine z_callV1 C (pc' := 593) lvRL_60 lc_X10_read rfl dL_law_590 rfl (by decide) (rX10_read l w v1 v118 v119 u8) rfl (Nat.le_of_ble_eq_true rfl) (fun v120 u121 => ?_)
                              refine z_aload_n C (i := 2) (pc' := 594) dL_law_593 rfl rfl rfl ?_
                              refine z_aload_n C (i := 0) (pc' := 595) dL_law_594 rfl rfl rfl ?_
                              refine z_iload_n C (i := 3) (pc' := 596) dL_law_595 rfl rfl rfl ?_
                              refine z_iconst C (pc' := 597) dL_law_596 kc_1 rfl ?_
                              refine z_iadd C (pc' := 598) dL_law_597 rfl ?_
                              refine z_sld C hX (pc' := 599) dL_law_598 rfl (fun v122 => ?_)
                              refine z_aload_n C (i := 0) (pc' := 600) dL_law_599 rfl rfl rfl ?_
                              refine z_iload_n C (i := 3) (pc' := 601) dL_law_600 rfl rfl rfl ?_
                              refine z_iconst C (pc' := 602) dL_law_601 kc_2 rfl ?_
                              refine z_iadd C (pc' := 603) dL_law_602 rfl ?_
                              refine z_sld C hX (pc' := 604) dL_law_603 rfl (fun v123 => ?_)
                              refine z_callV1 C (pc' := 607) lvRL_63 lc_X11_read rfl dL_law_604 rfl (by decide) (rX11_read l w v4 v122 v123 u121) rfl (Nat.le_of_ble_eq_true rfl) (fun v124 u125 => ?_)
                              refine z_icmp_eq C (pc' := 1419) (pf := 610) dL_law_607 rfl rfl (fun _ => ?_) (fun _ => ?_)
                              ·
                                exact zlocs (lb := [(0, zR 0), (1, zR v1), (2, zR v4), (3, zI v7)]) ⟨rfl, rfl, rfl, rfl, trivial⟩ (hk13 _)
                              ·
                                refine z_iconst C (pc' := 611) dL_law_610 kc_0 rfl ?_
                                exact znone
                            ·
                              refine z_tcase C (pc' := 612) dL_law_33 12 (by decide) (by decide) rfl rfl (fun _ => ?_) (fun h126 => ?_)
                              ·
                                refine z_aload_n C (i := 1) (pc' := 613) dL_law_612 rfl rfl rfl ?_
                                refine z_aload_n C (i := 0) (pc' := 614) dL_law_613 rfl rfl rfl ?_
                                refine z_iload_n C (i := 3) (pc' := 615) dL_law_614 rfl rfl rfl ?_
                                refine z_iconst C (pc' := 616) dL_law_615 kc_1 rfl ?_
                                refine z_iadd C (pc' := 617) dL_law_616 rfl ?_
                                refine z_sld C hX (pc' := 618) dL_law_617 rfl (fun v127 => ?_)
                                refine z_aload_n C (i := 0) (pc' := 619) dL_law_618 rfl rfl rfl ?_
                                refine z_iload_n C (i := 3) (pc' := 620) dL_law_619 rfl rfl rfl ?_
                                refine z_iconst C (pc' := 621) dL_law_620 kc_2 rfl ?_
                                refine z_iadd C (pc' := 622) dL_law_621 rfl ?_
                                refine z_sld C hX (pc' := 623) dL_law_622 rfl (fun v128 => ?_)
                                refine z_callV1 C (pc' := 626) lvRL_64 lc_X10_cut rfl dL_law_623 rfl (by decide) (rX10_cut l w v1 v127 v128 u8) rfl (Nat.le_of_ble_eq_true rfl) (fun v129 u130 => ?_)
                                refine z_aload_n C (i := 2) (pc' := 627) dL_law_626 rfl rfl rfl ?_
                                refine z_aload_n C (i := 0) (pc' := 628) dL_law_627 rfl rfl rfl ?_
                                refine z_iload_n C (i := 3) (pc' := 629) dL_law_628 rfl rfl rfl ?_
                                refine z_iconst C (pc' := 630) dL_law_629 kc_1 rfl ?_
                                refine z_iadd C (pc' := 631) dL_law_630 rfl ?_
                                refine z_sld C hX (pc' := 632) dL_law_631 rfl (fun v131 => ?_)
                                refine z_aload_n C (i := 0) (pc' := 633) dL_law_632 rfl rfl rfl ?_
                                refine z_iload_n C (i := 3) (pc' := 634) dL_law_633 rfl rfl rfl ?_
                                refine z_iconst C (pc' := 635) dL_law_634 kc_2 rfl ?_
                                refine z_iadd C (pc' := 636) dL_law_635 rfl ?_
                                refine z_sld C hX (pc' := 637) dL_law_636 rfl (fun v132 => ?_)
                                refine z_callV1 C (pc' := 640) lvRL_67 lc_X11_cut rfl dL_law_637 rfl (by decide) (rX11_cut l w v4 v131 v132 u130) rfl (Nat.le_of_ble_eq_true rfl) (fun v133 u134 => ?_)
                                refine z_icmp_eq C (pc' := 1419) (pf := 643) dL_law_640 rfl rfl (fun _ => ?_) (fun _ => ?_)
                                ·
                                  exact zlocs (lb := [(0, zR 0), (1, zR v1), (2, zR v4), (3, zI v7)]) ⟨rfl, rfl, rfl, rfl, trivial⟩ (hk13 _)
                                ·
                                  refine z_iconst C (pc' := 644) dL_law_643 kc_0 rfl ?_
                                  exact znone
                              ·
                                refine z_tcase C (pc' := 645) dL_law_33 13 (by decide) (by decide) rfl rfl (fun _ => ?_) (fun h135 => ?_)
                                ·
                                  refine z_aload_n C (i := 1) (pc' := 646) dL_law_645 rfl rfl rfl ?_
                                  refine z_aload_n C (i := 0) (pc' := 647) dL_law_646 rfl rfl rfl ?_
                                  refine z_iload_n C (i := 3) (pc' := 648) dL_law_647 rfl rfl rfl ?_
                                  refine z_iconst C (pc' := 649) dL_law_648 kc_1 rfl ?_
                                  refine z_iadd C (pc' := 650) dL_law_649 rfl ?_
                                  refine z_sld C hX (pc' := 651) dL_law_650 rfl (fun v136 => ?_)
                                  refine z_aload_n C (i := 0) (pc' := 652) dL_law_651 rfl rfl rfl ?_
                                  refine z_iload_n C (i := 3) (pc' := 653) dL_law_652 rfl rfl rfl ?_
                                  refine z_iconst C (pc' := 654) dL_law_653 kc_2 rfl ?_
                                  refine z_iadd C (pc' := 655) dL_law_654 rfl ?_
                                  refine z_sld C hX (pc' := 656) dL_law_655 rfl (fun v137 => ?_)
                                  refine z_callV1 C (pc' := 659) lvRL_68 lc_X10_page rfl dL_law_656 rfl (by decide) (rX10_page l w v1 v136 v137 u8) rfl (Nat.le_of_ble_eq_true rfl) (fun v138 u139 => ?_)
                                  refine z_aload_n C (i := 2) (pc' := 660) dL_law_659 rfl rfl rfl ?_
                                  refine z_aload_n C (i := 0) (pc' := 661) dL_law_660 rfl rfl rfl ?_
                                  refine z_iload_n C (i := 3) (pc' := 662) dL_law_661 rfl rfl rfl ?_
                                  refine z_iconst C (pc' := 663) dL_law_662 kc_1 rfl ?_
                                  refine z_iadd C (pc' := 664) dL_law_663 rfl ?_
                                  refine z_sld C hX (pc' := 665) dL_law_664 rfl (fun v140 => ?_)
                                  refine z_aload_n C (i := 0) (pc' := 666) dL_law_665 rfl rfl rfl ?_
                                  refine z_iload_n C (i := 3) (pc' := 667) dL_law_666 rfl rfl rfl ?_
                                  refine z_iconst C (pc' := 668) dL_law_667 kc_2 rfl ?_
                                  refine z_iadd C (pc' := 669) dL_law_668 rfl ?_
                                  refine z_sld C hX (pc' := 670) dL_law_669 rfl (fun v141 => ?_)
                                  refine z_callV1 C (pc' := 673) lvRL_71 lc_X11_page rfl dL_law_670 rfl (by decide) (rX11_page l w v4 v140 v141 u139) rfl (Nat.le_of_ble_eq_true rfl) (fun v142 u143 => ?_)
                                  refine z_icmp_eq C (pc' := 1419) (pf := 676) dL_law_673 rfl rfl (fun _ => ?_) (fun _ => ?_)
                                  ·
                                    exact zlocs (lb := [(0, zR 0), (1, zR v1), (2, zR v4), (3, zI v7)]) ⟨rfl, rfl, rfl, rfl, trivial⟩ (hk13 _)
                                  ·
                                    refine z_iconst C (pc' := 677) dL_law_676 kc_0 rfl ?_
                                    exact znone
                                ·
                                  refine z_tcase C (pc' := 678) dL_law_33 14 (by decide) (by decide) rfl rfl (fun _ => ?_) (fun h144 => ?_)
                                  ·
                                    refine z_aload_n C (i := 1) (pc' := 679) dL_law_678 rfl rfl rfl ?_
                                    refine z_aload_n C (i := 0) (pc' := 680) dL_law_679 rfl rfl rfl ?_
                                    refine z_iload_n C (i := 3) (pc' := 681) dL_law_680 rfl rfl rfl ?_
                                    refine z_iconst C (pc' := 682) dL_law_681 kc_1 rfl ?_
                                    refine z_iadd C (pc' := 683) dL_law_682 rfl ?_
                                    refine z_sld C hX (pc' := 684) dL_law_683 rfl (fun v145 => ?_)
                                    refine z_aload_n C (i := 0) (pc' := 685) dL_law_684 rfl rfl rfl ?_
                                    refine z_iload_n C (i := 3) (pc' := 686) dL_law_685 rfl rfl rfl ?_
                                    refine z_iconst C (pc' := 687) dL_law_686 kc_2 rfl ?_
                                    refine z_iadd C (pc' := 688) dL_law_687 rfl ?_
                                    refine z_sld C hX (pc' := 689) dL_law_688 rfl (fun v146 => ?_)
                                    refine z_callV1 C (pc' := 692) lvRL_72 lc_X10_led rfl dL_law_689 rfl (by decide) (rX10_led l w v1 v145 v146 u8) rfl (Nat.le_of_ble_eq_true rfl) (fun v147 u148 => ?_)
                                    refine z_aload_n C (i := 2) (pc' := 693) dL_law_692 rfl rfl rfl ?_
                                    refine z_aload_n C (i := 0) (pc' := 694) dL_law_693 rfl rfl rfl ?_
                                    refine z_iload_n C (i := 3) (pc' := 695) dL_law_694 rfl rfl rfl ?_
                                    refine z_iconst C (pc' := 696) dL_law_695 kc_1 rfl ?_
                                    refine z_iadd C (pc' := 697) dL_law_696 rfl ?_
                                    refine z_sld C hX (pc' := 698) dL_law_697 rfl (fun v149 => ?_)
                                    refine z_aload_n C (i := 0) (pc' := 699) dL_law_698 rfl rfl rfl ?_
                                    refine z_iload_n C (i := 3) (pc' := 700) dL_law_699 rfl rfl rfl ?_
                                    refine z_iconst C (pc' := 701) dL_law_700 kc_2 rfl ?_
                                    refine z_iadd C (pc' := 702) dL_law_701 rfl ?_
                                    refine z_sld C hX (pc' := 703) dL_law_702 rfl (fun v150 => ?_)
                                    refine z_callV1 C (pc' := 706) lvRL_75 lc_X11_led rfl dL_law_703 rfl (by decide) (rX11_led l w v4 v149 v150 u148) rfl (Nat.le_of_ble_eq_true rfl) (fun v151 u152 => ?_)
                                    refine z_icmp_eq C (pc' := 1419) (pf := 709) dL_law_706 rfl rfl (fun _ => ?_) (fun _ => ?_)
                                    ·
                                      exact zlocs (lb := [(0, zR 0), (1, zR v1), (2, zR v4), (3, zI v7)]) ⟨rfl, rfl, rfl, rfl, trivial⟩ (hk13 _)
                                    ·
                                      refine z_iconst C (pc' := 710) dL_law_709 kc_0 rfl ?_
                                      exact znone
                                  ·
                                    refine z_tcase C (pc' := 711) dL_law_33 15 (by decide) (by decide) rfl rfl (fun _ => ?_) (fun h153 => ?_)
                                    ·
                                      refine z_aload_n C (i := 1) (pc' := 712) dL_law_711 rfl rfl rfl ?_
                                      refine z_aload_n C (i := 0) (pc' := 713) dL_law_712 rfl rfl rfl ?_
                                      refine z_iload_n C (i := 3) (pc' := 714) dL_law_713 rfl rfl rfl ?_
                                      refine z_iconst C (pc' := 715) dL_law_714 kc_1 rfl ?_
                                      refine z_iadd C (pc' := 716) dL_law_715 rfl ?_
                                      refine z_sld C hX (pc' := 717) dL_law_716 rfl (fun v154 => ?_)
                                      refine z_aload_n C (i := 0) (pc' := 718) dL_law_717 rfl rfl rfl ?_
                                      refine z_iload_n C (i := 3) (pc' := 719) dL_law_718 rfl rfl rfl ?_
                                      refine z_iconst C (pc' := 720) dL_law_719 kc_2 rfl ?_
                                      refine z_iadd C (pc' := 721) dL_law_720 rfl ?_
                                      refine z_sld C hX (pc' := 722) dL_law_721 rfl (fun v155 => ?_)
                                      refine z_callV1 C (pc' := 725) lvRL_76 lc_X10_sure rfl dL_law_722 rfl (by decide) (rX10_sure l w v1 v154 v155 u8) rfl (Nat.le_of_ble_eq_true rfl) (fun v156 u157 => ?_)
                                      refine z_aload_n C (i := 2) (pc' := 726) dL_law_725 rfl rfl rfl ?_
                                      refine z_aload_n C (i := 0) (pc' := 727) dL_law_726 rfl rfl rfl ?_
                                      refine z_iload_n C (i := 3) (pc' := 728) dL_law_727 rfl rfl rfl ?_
                                      refine z_iconst C (pc' := 729) dL_law_728 kc_1 rfl ?_
                                      refine z_iadd C (pc' := 730) dL_law_729 rfl ?_
                                      refine z_sld C hX (pc' := 731) dL_law_730 rfl (fun v158 => ?_)
                                      refine z_aload_n C (i := 0) (pc' := 732) dL_law_731 rfl rfl rfl ?_
                                      refine z_iload_n C (i := 3) (pc' := 733) dL_law_732 rfl rfl rfl ?_
                                      refine z_iconst C (pc' := 734) dL_law_733 kc_2 rfl ?_
                                      refine z_iadd C (pc' := 735) dL_law_734 rfl ?_
                                      refine z_sld C hX (pc' := 736) dL_law_735 rfl (fun v159 => ?_)
                                      refine z_callV1 C (pc' := 739) lvRL_79 lc_X11_sure rfl dL_law_736 rfl (by decide) (rX11_sure l w v4 v158 v159 u157) rfl (Nat.le_of_ble_eq_true rfl) (fun v160 u161 => ?_)
                                      refine z_icmp_eq C (pc' := 1419) (pf := 742) dL_law_739 rfl rfl (fun _ => ?_) (fun _ => ?_)
                                      ·
                                        exact zlocs (lb := [(0, zR 0), (1, zR v1), (2, zR v4), (3, zI v7)]) ⟨rfl, rfl, rfl, rfl, trivial⟩ (hk13 _)
                                      ·
                                        refine z_iconst C (pc' := 743) dL_law_742 kc_0 rfl ?_
                                        exact znone
                                    ·
                                      refine z_tcase C (pc' := 744) dL_law_33 16 (by decide) (by decide) rfl rfl (fun _ => ?_) (fun h162 => ?_)
                                      ·
                                        refine z_aload_n C (i := 1) (pc' := 745) dL_law_744 rfl rfl rfl ?_
                                        refine z_callV1 C (pc' := 748) lvRL_80 lc_X10_only rfl dL_law_745 rfl (by decide) (rX10_only l w v1 u8) rfl (Nat.le_of_ble_eq_true rfl) (fun v163 u164 => ?_)
                                        refine z_aload_n C (i := 2) (pc' := 749) dL_law_748 rfl rfl rfl ?_
                                        refine z_callV1 C (pc' := 752) lvRL_84 lc_X11_only rfl dL_law_749 rfl (by decide) (rX11_only l w v4 u164) rfl (Nat.le_of_ble_eq_true rfl) (fun v165 u166 => ?_)
                                        refine z_icmp_eq C (pc' := 1419) (pf := 755) dL_law_752 rfl rfl (fun _ => ?_) (fun _ => ?_)
                                        ·
                                          exact zlocs (lb := [(0, zR 0), (1, zR v1), (2, zR v4), (3, zI v7)]) ⟨rfl, rfl, rfl, rfl, trivial⟩ (hk13 _)
                                        ·
                                          refine z_iconst C (pc' := 756) dL_law_755 kc_0 rfl ?_
                                          exact znone
                                      ·
                                        refine z_tcase C (pc' := 757) dL_law_33 17 (by decide) (by decide) rfl rfl (fun _ => ?_) (fun h167 => ?_)
                                        ·
                                          refine z_aload_n C (i := 1) (pc' := 758) dL_law_757 rfl rfl rfl ?_
                                          refine z_aload_n C (i := 0) (pc' := 759) dL_law_758 rfl rfl rfl ?_
                                          refine z_iload_n C (i := 3) (pc' := 760) dL_law_759 rfl rfl rfl ?_
                                          refine z_iconst C (pc' := 761) dL_law_760 kc_1 rfl ?_
                                          refine z_iadd C (pc' := 762) dL_law_761 rfl ?_
                                          refine z_sld C hX (pc' := 763) dL_law_762 rfl (fun v168 => ?_)
                                          refine z_aload_n C (i := 0) (pc' := 764) dL_law_763 rfl rfl rfl ?_
                                          refine z_iload_n C (i := 3) (pc' := 765) dL_law_764 rfl rfl rfl ?_
                                          refine z_iconst C (pc' := 766) dL_law_765 kc_2 rfl ?_
                                          refine z_iadd C (pc' := 767) dL_law_766 rfl ?_
                                          refine z_sld C hX (pc' := 768) dL_law_767 rfl (fun v169 => ?_)
                                          refine z_callV1 C (pc' := 771) lvRL_85 lc_X10_fight rfl dL_law_768 rfl (by decide) (rX10_fight l w v1 v168 v169 u8) rfl (Nat.le_of_ble_eq_true rfl) (fun v170 u171 => ?_)
                                          refine z_aload_n C (i := 2) (pc' := 772) dL_law_771 rfl rfl rfl ?_
                                          refine z_aload_n C (i := 0) (pc' := 773) dL_law_772 rfl rfl rfl ?_
                                          refine z_iload_n C (i := 3) (pc' := 774) dL_law_773 rfl rfl rfl ?_
                                          refine z_iconst C (pc' := 775) dL_law_774 kc_1 rfl ?_
                                          refine z_iadd C (pc' := 776) dL_law_775 rfl ?_
                                          refine z_sld C hX (pc' := 777) dL_law_776 rfl (fun v172 => ?_)
                                          refine z_aload_n C (i := 0) (pc' := 778) dL_law_777 rfl rfl rfl ?_
                                          refine z_iload_n C (i := 3) (pc' := 779) dL_law_778 rfl rfl rfl ?_
                                          refine z_iconst C (pc' := 780) dL_law_779 kc_2 rfl ?_
                                          refine z_iadd C (pc' := 781) dL_law_780 rfl ?_
                                          refine z_sld C hX (pc' := 782) dL_law_781 rfl (fun v173 => ?_)
                                          refine z_callV1 C (pc' := 785) lvRL_88 lc_X11_fight rfl dL_law_782 rfl (by decide) (rX11_fight l w v4 v172 v173 u171) rfl (Nat.le_of_ble_eq_true rfl) (fun v174 u175 => ?_)
                                          refine z_icmp_eq C (pc' := 1419) (pf := 788) dL_law_785 rfl rfl (fun _ => ?_) (fun _ => ?_)
                                          ·
                                            exact zlocs (lb := [(0, zR 0), (1, zR v1), (2, zR v4), (3, zI v7)]) ⟨rfl, rfl, rfl, rfl, trivial⟩ (hk13 _)
                                          ·
                                            refine z_iconst C (pc' := 789) dL_law_788 kc_0 rfl ?_
                                            exact znone
                                        ·
                                          refine z_tcase C (pc' := 790) dL_law_33 18 (by decide) (by decide) rfl rfl (fun _ => ?_) (fun h176 => ?_)
                                          ·
                                            refine z_aload_n C (i := 1) (pc' := 791) dL_law_790 rfl rfl rfl ?_
                                            refine z_aload_n C (i := 0) (pc' := 792) dL_law_791 rfl rfl rfl ?_
                                            refine z_iload_n C (i := 3) (pc' := 793) dL_law_792 rfl rfl rfl ?_
                                            refine z_iconst C (pc' := 794) dL_law_793 kc_1 rfl ?_
                                            refine z_iadd C (pc' := 795) dL_law_794 rfl ?_
                                            refine z_sld C hX (pc' := 796) dL_law_795 rfl (fun v177 => ?_)
                                            refine z_callV1 C (pc' := 799) lvRL_89 lc_X10_order rfl dL_law_796 rfl (by decide) (rX10_order l w v1 v177 u8) rfl (Nat.le_of_ble_eq_true rfl) (fun v178 u179 => ?_)
                                            refine z_aload_n C (i := 2) (pc' := 800) dL_law_799 rfl rfl rfl ?_
                                            refine z_aload_n C (i := 0) (pc' := 801) dL_law_800 rfl rfl rfl ?_
                                            refine z_iload_n C (i := 3) (pc' := 802) dL_law_801 rfl rfl rfl ?_
                                            refine z_iconst C (pc' := 803) dL_law_802 kc_1 rfl ?_
                                            refine z_iadd C (pc' := 804) dL_law_803 rfl ?_
                                            refine z_sld C hX (pc' := 805) dL_law_804 rfl (fun v180 => ?_)
                                            refine z_callV1 C (pc' := 808) lvRL_92 lc_X11_order rfl dL_law_805 rfl (by decide) (rX11_order l w v4 v180 u179) rfl (Nat.le_of_ble_eq_true rfl) (fun v181 u182 => ?_)
                                            refine z_icmp_eq C (pc' := 1419) (pf := 811) dL_law_808 rfl rfl (fun _ => ?_) (fun _ => ?_)
                                            ·
                                              exact zlocs (lb := [(0, zR 0), (1, zR v1), (2, zR v4), (3, zI v7)]) ⟨rfl, rfl, rfl, rfl, trivial⟩ (hk13 _)
                                            ·
                                              refine z_iconst C (pc' := 812) dL_law_811 kc_0 rfl ?_
                                              exact znone
                                          ·
                                            refine z_tcase C (pc' := 813) dL_law_33 19 (by decide) (by decide) rfl rfl (fun _ => ?_) (fun h183 => ?_)
                                            ·
                                              refine z_aload_n C (i := 1) (pc' := 814) dL_law_813 rfl rfl rfl ?_
                                              refine z_aload_n C (i := 0) (pc' := 815) dL_law_814 rfl rfl rfl ?_
                                              refine z_iload_n C (i := 3) (pc' := 816) dL_law_815 rfl rfl rfl ?_
                                              refine z_iconst C (pc' := 817) dL_law_816 kc_1 rfl ?_
                                              refine z_iadd C (pc' := 818) dL_law_817 rfl ?_
                                              refine z_sld C hX (pc' := 819) dL_law_818 rfl (fun v184 => ?_)
                                              refine z_aload_n C (i := 0) (pc' := 820) dL_law_819 rfl rfl rfl ?_
                                              refine z_iload_n C (i := 3) (pc' := 821) dL_law_820 rfl rfl rfl ?_
                                              refine z_iconst C (pc' := 822) dL_law_821 kc_2 rfl ?_
                                              refine z_iadd C (pc' := 823) dL_law_822 rfl ?_
                                              refine z_sld C hX (pc' := 824) dL_law_823 rfl (fun v185 => ?_)
                                              refine z_aload_n C (i := 0) (pc' := 825) dL_law_824 rfl rfl rfl ?_
                                              refine z_iload_n C (i := 3) (pc' := 826) dL_law_825 rfl rfl rfl ?_
                                              refine z_iconst C (pc' := 827) dL_law_826 kc_3 rfl ?_
                                              refine z_iadd C (pc' := 828) dL_law_827 rfl ?_
                                              refine z_sld C hX (pc' := 829) dL_law_828 rfl (fun v186 => ?_)
                                              refine z_callV2 C (pc' := 832) lvRL_93 lc_X10_said rfl dL_law_829 rfl (by decide) (rX10_said l w v1 v184 v185 v186 u8) rfl (Nat.le_of_ble_eq_true rfl) (fun v187 u188 => ?_)
                                              refine z_aload_n C (i := 2) (pc' := 833) dL_law_832 rfl rfl rfl ?_
                                              refine z_aload_n C (i := 0) (pc' := 834) dL_law_833 rfl rfl rfl ?_
                                              refine z_iload_n C (i := 3) (pc' := 835) dL_law_834 rfl rfl rfl ?_
                                              refine z_iconst C (pc' := 836) dL_law_835 kc_1 rfl ?_
                                              refine z_iadd C (pc' := 837) dL_law_836 rfl ?_
                                              refine z_sld C hX (pc' := 838) dL_law_837 rfl (fun v189 => ?_)
                                              refine z_aload_n C (i := 0) (pc' := 839) dL_law_838 rfl rfl rfl ?_
                                              refine z_iload_n C (i := 3) (pc' := 840) dL_law_839 rfl rfl rfl ?_
                                              refine z_iconst C (pc' := 841) dL_law_840 kc_2 rfl ?_
                                              refine z_iadd C (pc' := 842) dL_law_841 rfl ?_
                                              refine z_sld C hX (pc' := 843) dL_law_842 rfl (fun v190 => ?_)
                                              refine z_aload_n C (i := 0) (pc' := 844) dL_law_843 rfl rfl rfl ?_
                                              refine z_iload_n C (i := 3) (pc' := 845) dL_law_844 rfl rfl rfl ?_
                                              refine z_iconst C (pc' := 846) dL_law_845 kc_3 rfl ?_
                                              refine z_iadd C (pc' := 847) dL_law_846 rfl ?_
                                              refine z_sld C hX (pc' := 848) dL_law_847 rfl (fun v191 => ?_)
                                              refine z_callV2 C (pc' := 851) lvRL_97 lc_X11_said rfl dL_law_848 rfl (by decide) (rX11_said l w v4 v189 v190 v191 u188) rfl (Nat.le_of_ble_eq_true rfl) (fun v192 u193 => ?_)
                                              refine z_lcmp C (pc' := 852) dL_law_851 rfl ?_
                                              refine z_if_eq C (pc' := 1419) (pf := 855) dL_law_852 rfl rfl (fun _ => ?_) (fun _ => ?_)
                                              ·
                                                exact zlocs (lb := [(0, zR 0), (1, zR v1), (2, zR v4), (3, zI v7)]) ⟨rfl, rfl, rfl, rfl, trivial⟩ (hk13 _)
                                              ·
                                                refine z_iconst C (pc' := 856) dL_law_855 kc_0 rfl ?_
                                                exact znone
                                            ·
                                              refine z_tcase C (pc' := 857) dL_law_33 20 (by decide) (by decide) rfl rfl (fun _ => ?_) (fun h194 => ?_)
                                              ·
                                                refine z_aload_n C (i := 1) (pc' := 858) dL_law_857 rfl rfl rfl ?_
                                                refine z_aload_n C (i := 0) (pc' := 859) dL_law_858 rfl rfl rfl ?_
                                                refine z_iload_n C (i := 3) (pc' := 860) dL_law_859 rfl rfl rfl ?_
                                                refine z_iconst C (pc' := 861) dL_law_860 kc_1 rfl ?_
                                                refine z_iadd C (pc' := 862) dL_law_861 rfl ?_
                                                refine z_sld C hX (pc' := 863) dL_law_862 rfl (fun v195 => ?_)
                                                refine z_callV1 C (pc' := 866) lvRL_98 lc_X10_whose rfl dL_law_863 rfl (by decide) (rX10_whose l w v1 v195 u8) rfl (Nat.le_of_ble_eq_true rfl) (fun v196 u197 => ?_)
                                                refine z_aload_n C (i := 2) (pc' := 867) dL_law_866 rfl rfl rfl ?_
                                                refine z_aload_n C (i := 0) (pc' := 868) dL_law_867 rfl rfl rfl ?_
                                                refine z_iload_n C (i := 3) (pc' := 869) dL_law_868 rfl rfl rfl ?_
                                                refine z_iconst C (pc' := 870) dL_law_869 kc_1 rfl ?_
                                                refine z_iadd C (pc' := 871) dL_law_870 rfl ?_
                                                refine z_sld C hX (pc' := 872) dL_law_871 rfl (fun v198 => ?_)
                                                refine z_callV1 C (pc' := 875) lvRL_101 lc_X11_whose rfl dL_law_872 rfl (by decide) (rX11_whose l w v4 v198 u197) rfl (Nat.le_of_ble_eq_true rfl) (fun v199 u200 => ?_)
                                                refine z_icmp_eq C (pc' := 1419) (pf := 878) dL_law_875 rfl rfl (fun _ => ?_) (fun _ => ?_)
                                                ·
                                                  exact zlocs (lb := [(0, zR 0), (1, zR v1), (2, zR v4), (3, zI v7)]) ⟨rfl, rfl, rfl, rfl, trivial⟩ (hk13 _)
                                                ·
                                                  refine z_iconst C (pc' := 879) dL_law_878 kc_0 rfl ?_
                                                  exact znone
                                              ·
                                                refine z_tcase C (pc' := 880) dL_law_33 21 (by decide) (by decide) rfl rfl (fun _ => ?_) (fun h201 => ?_)
                                                ·
                                                  refine z_aload_n C (i := 1) (pc' := 881) dL_law_880 rfl rfl rfl ?_
                                                  refine z_aload_n C (i := 0) (pc' := 882) dL_law_881 rfl rfl rfl ?_
                                                  refine z_iload_n C (i := 3) (pc' := 883) dL_law_882 rfl rfl rfl ?_
                                                  refine z_iconst C (pc' := 884) dL_law_883 kc_1 rfl ?_
                                                  refine z_iadd C (pc' := 885) dL_law_884 rfl ?_
                                                  refine z_sld C hX (pc' := 886) dL_law_885 rfl (fun v202 => ?_)
                                                  refine z_aload_n C (i := 0) (pc' := 887) dL_law_886 rfl rfl rfl ?_
                                                  refine z_iload_n C (i := 3) (pc' := 888) dL_law_887 rfl rfl rfl ?_
                                                  refine z_iconst C (pc' := 889) dL_law_888 kc_2 rfl ?_
                                                  refine z_iadd C (pc' := 890) dL_law_889 rfl ?_
                                                  refine z_sld C hX (pc' := 891) dL_law_890 rfl (fun v203 => ?_)
                                                  refine z_callV1 C (pc' := 894) lvRL_102 lc_X10_learnt rfl dL_law_891 rfl (by decide) (rX10_learnt l w v1 v202 v203 u8) rfl (Nat.le_of_ble_eq_true rfl) (fun v204 u205 => ?_)
                                                  refine z_aload_n C (i := 2) (pc' := 895) dL_law_894 rfl rfl rfl ?_
                                                  refine z_aload_n C (i := 0) (pc' := 896) dL_law_895 rfl rfl rfl ?_
                                                  refine z_iload_n C (i := 3) (pc' := 897) dL_law_896 rfl rfl rfl ?_
                                                  refine z_iconst C (pc' := 898) dL_law_897 kc_1 rfl ?_
                                                  refine z_iadd C (pc' := 899) dL_law_898 rfl ?_
                                                  refine z_sld C hX (pc' := 900) dL_law_899 rfl (fun v206 => ?_)
                                                  refine z_aload_n C (i := 0) (pc' := 901) dL_law_900 rfl rfl rfl ?_
                                                  refine z_iload_n C (i := 3) (pc' := 902) dL_law_901 rfl rfl rfl ?_
                                                  refine z_iconst C (pc' := 903) dL_law_902 kc_2 rfl ?_
                                                  refine z_iadd C (pc' := 904) dL_law_903 rfl ?_
                                                  refine z_sld C hX (pc' := 905) dL_law_904 rfl (fun v207 => ?_)
                                                  refine z_callV1 C (pc' := 908) lvRL_105 lc_X11_learnt rfl dL_law_905 rfl (by decide) (rX11_learnt l w v4 v206 v207 u205) rfl (Nat.le_of_ble_eq_true rfl) (fun v208 u209 => ?_)
                                                  refine z_icmp_eq C (pc' := 1419) (pf := 911) dL_law_908 rfl rfl (fun _ => ?_) (fun _ => ?_)
                                                  ·
                                                    exact zlocs (lb := [(0, zR 0), (1, zR v1), (2, zR v4), (3, zI v7)]) ⟨rfl, rfl, rfl, rfl, trivial⟩ (hk13 _)
                                                  ·
                                                    refine z_iconst C (pc' := 912) dL_law_911 kc_0 rfl ?_
                                                    exact znone
                                                ·
                                                  refine z_tcase C (pc' := 913) dL_law_33 22 (by decide) (by decide) rfl rfl (fun _ => ?_) (fun h210 => ?_)
                                                  ·
                                                    refine z_aload_n C (i := 1) (pc' := 914) dL_law_913 rfl rfl rfl ?_
                                                    refine z_aload_n C (i := 0) (pc' := 915) dL_law_914 rfl rfl rfl ?_
                                                    refine z_iload_n C (i := 3) (pc' := 916) dL_law_915 rfl rfl rfl ?_
                                                    refine z_iconst C (pc' := 917) dL_law_916 kc_1 rfl ?_
                                                    refine z_iadd C (pc' := 918) dL_law_917 rfl ?_
                                                    refine z_sld C hX (pc' := 919) dL_law_918 rfl (fun v211 => ?_)
                                                    refine z_aload_n C (i := 0) (pc' := 920) dL_law_919 rfl rfl rfl ?_
                                                    refine z_iload_n C (i := 3) (pc' := 921) dL_law_920 rfl rfl rfl ?_
                                                    refine z_iconst C (pc' := 922) dL_law_921 kc_2 rfl ?_
                                                    refine z_iadd C (pc' := 923) dL_law_922 rfl ?_
                                                    refine z_sld C hX (pc' := 924) dL_law_923 rfl (fun v212 => ?_)
                                                    refine z_callV1 C (pc' := 927) lvRL_106 lc_X10_asleep rfl dL_law_924 rfl (by decide) (rX10_asleep l w v1 v211 v212 u8) rfl (Nat.le_of_ble_eq_true rfl) (fun v213 u214 => ?_)
                                                    refine z_aload_n C (i := 2) (pc' := 928) dL_law_927 rfl rfl rfl ?_
                                                    refine z_aload_n C (i := 0) (pc' := 929) dL_law_928 rfl rfl rfl ?_
                                                    refine z_iload_n C (i := 3) (pc' := 930) dL_law_929 rfl rfl rfl ?_
                                                    refine z_iconst C (pc' := 931) dL_law_930 kc_1 rfl ?_
                                                    refine z_iadd C (pc' := 932) dL_law_931 rfl ?_
                                                    refine z_sld C hX (pc' := 933) dL_law_932 rfl (fun v215 => ?_)
                                                    refine z_aload_n C (i := 0) (pc' := 934) dL_law_933 rfl rfl rfl ?_
                                                    refine z_iload_n C (i := 3) (pc' := 935) dL_law_934 rfl rfl rfl ?_
                                                    refine z_iconst C (pc' := 936) dL_law_935 kc_2 rfl ?_
                                                    refine z_iadd C (pc' := 937) dL_law_936 rfl ?_
                                                    refine z_sld C hX (pc' := 938) dL_law_937 rfl (fun v216 => ?_)
                                                    refine z_callV1 C (pc' := 941) lvRL_109 lc_X11_asleep rfl dL_law_938 rfl (by decide) (rX11_asleep l w v4 v215 v216 u214) rfl (Nat.le_of_ble_eq_true rfl) (fun v217 u218 => ?_)
                                                    refine z_icmp_eq C (pc' := 1419) (pf := 944) dL_law_941 rfl rfl (fun _ => ?_) (fun _ => ?_)
                                                    ·
                                                      exact zlocs (lb := [(0, zR 0), (1, zR v1), (2, zR v4), (3, zI v7)]) ⟨rfl, rfl, rfl, rfl, trivial⟩ (hk13 _)
                                                    ·
                                                      refine z_iconst C (pc' := 945) dL_law_944 kc_0 rfl ?_
                                                      exact znone
                                                  ·
                                                    refine z_tcase C (pc' := 946) dL_law_33 23 (by decide) (by decide) rfl rfl (fun _ => ?_) (fun h219 => ?_)
                                                    ·
                                                      refine z_aload_n C (i := 1) (pc' := 947) dL_law_946 rfl rfl rfl ?_
                                                      refine z_aload_n C (i := 0) (pc' := 948) dL_law_947 rfl rfl rfl ?_
                                                      refine z_iload_n C (i := 3) (pc' := 949) dL_law_948 rfl rfl rfl ?_
                                                      refine z_iconst C (pc' := 950) dL_law_949 kc_1 rfl ?_
                                                      refine z_iadd C (pc' := 951) dL_law_950 rfl ?_
                                                      refine z_sld C hX (pc' := 952) dL_law_951 rfl (fun v220 => ?_)
                                                      refine z_callV1 C (pc' := 955) lvRL_110 lc_X10_ask rfl dL_law_952 rfl (by decide) (rX10_ask l w v1 v220 u8) rfl (Nat.le_of_ble_eq_true rfl) (fun v221 u222 => ?_)
                                                      refine z_aload_n C (i := 2) (pc' := 956) dL_law_955 rfl rfl rfl ?_
                                                      refine z_aload_n C (i := 0) (pc' := 957) dL_law_956 rfl rfl rfl ?_
                                                      refine z_iload_n C (i := 3) (pc' := 958) dL_law_957 rfl rfl rfl ?_
                                                      refine z_iconst C (pc' := 959) dL_law_958 kc_1 rfl ?_
                                                      refine z_iadd C (pc' := 960) dL_law_959 rfl ?_
                                                      refine z_sld C hX (pc' := 961) dL_law_960 rfl (fun v223 => ?_)
                                                      refine z_callV1 C (pc' := 964) lvRL_113 lc_X11_ask rfl dL_law_961 rfl (by decide) (rX11_ask l w v4 v223 u222) rfl (Nat.le_of_ble_eq_true rfl) (fun v224 u225 => ?_)
                                                      refine z_icmp_eq C (pc' := 1419) (pf := 967) dL_law_964 rfl rfl (fun _ => ?_) (fun _ => ?_)
                                                      ·
                                                        exact zlocs (lb := [(0, zR 0), (1, zR v1), (2, zR v4), (3, zI v7)]) ⟨rfl, rfl, rfl, rfl, trivial⟩ (hk13 _)
                                                      ·
                                                        refine z_iconst C (pc' := 968) dL_law_967 kc_0 rfl ?_
                                                        exact znone
                                                    ·
                                                      refine z_tcase C (pc' := 969) dL_law_33 24 (by decide) (by decide) rfl rfl (fun _ => ?_) (fun h226 => ?_)
                                                      ·
                                                        refine z_aload_n C (i := 1) (pc' := 970) dL_law_969 rfl rfl rfl ?_
                                                        refine z_aload_n C (i := 0) (pc' := 971) dL_law_970 rfl rfl rfl ?_
                                                        refine z_iload_n C (i := 3) (pc' := 972) dL_law_971 rfl rfl rfl ?_
                                                        refine z_iconst C (pc' := 973) dL_law_972 kc_1 rfl ?_
                                                        refine z_iadd C (pc' := 974) dL_law_973 rfl ?_
                                                        refine z_sld C hX (pc' := 975) dL_law_974 rfl (fun v227 => ?_)
                                                        refine z_aload_n C (i := 0) (pc' := 976) dL_law_975 rfl rfl rfl ?_
                                                        refine z_iload_n C (i := 3) (pc' := 977) dL_law_976 rfl rfl rfl ?_
                                                        refine z_iconst C (pc' := 978) dL_law_977 kc_2 rfl ?_
                                                        refine z_iadd C (pc' := 979) dL_law_978 rfl ?_
                                                        refine z_sld C hX (pc' := 980) dL_law_979 rfl (fun v228 => ?_)
                                                        refine z_callV1 C (pc' := 983) lvRL_114 lc_X10_years rfl dL_law_980 rfl (by decide) (rX10_years l w v1 v227 v228 u8) rfl (Nat.le_of_ble_eq_true rfl) (fun v229 u230 => ?_)
                                                        refine z_aload_n C (i := 2) (pc' := 984) dL_law_983 rfl rfl rfl ?_
                                                        refine z_aload_n C (i := 0) (pc' := 985) dL_law_984 rfl rfl rfl ?_
                                                        refine z_iload_n C (i := 3) (pc' := 986) dL_law_985 rfl rfl rfl ?_
                                                        refine z_iconst C (pc' := 987) dL_law_986 kc_1 rfl ?_
                                                        refine z_iadd C (pc' := 988) dL_law_987 rfl ?_
                                                        refine z_sld C hX (pc' := 989) dL_law_988 rfl (fun v231 => ?_)
                                                        refine z_aload_n C (i := 0) (pc' := 990) dL_law_989 rfl rfl rfl ?_
                                                        refine z_iload_n C (i := 3) (pc' := 991) dL_law_990 rfl rfl rfl ?_
                                                        refine z_iconst C (pc' := 992) dL_law_991 kc_2 rfl ?_
                                                        refine z_iadd C (pc' := 993) dL_law_992 rfl ?_
                                                        refine z_sld C hX (pc' := 994) dL_law_993 rfl (fun v232 => ?_)
                                                        refine z_callV1 C (pc' := 997) lvRL_117 lc_X11_years rfl dL_law_994 rfl (by decide) (rX11_years l w v4 v231 v232 u230) rfl (Nat.le_of_ble_eq_true rfl) (fun v233 u234 => ?_)
                                                        refine z_icmp_eq C (pc' := 1419) (pf := 1000) dL_law_997 rfl rfl (fun _ => ?_) (fun _ => ?_)
                                                        ·
                                                          exact zlocs (lb := [(0, zR 0), (1, zR v1), (2, zR v4), (3, zI v7)]) ⟨rfl, rfl, rfl, rfl, trivial⟩ (hk13 _)
                                                        ·
                                                          refine z_iconst C (pc' := 1001) dL_law_1000 kc_0 rfl ?_
                                                          exact znone
                                                      ·
                                                        refine z_tcase C (pc' := 1002) dL_law_33 25 (by decide) (by decide) rfl rfl (fun _ => ?_) (fun h235 => ?_)
                                                        ·
                                                          refine z_aload_n C (i := 1) (pc' := 1003) dL_law_1002 rfl rfl rfl ?_
                                                          refine z_callV1 C (pc' := 1006) lvRL_118 lc_X10_undo rfl dL_law_1003 rfl (by decide) (rX10_undo l w v1 u8) rfl (Nat.le_of_ble_eq_true rfl) (fun v236 u237 => ?_)
                                                          refine z_aload_n C (i := 2) (pc' := 1007) dL_law_1006 rfl rfl rfl ?_
                                                          refine z_callV1 C (pc' := 1010) lvRL_121 lc_X11_undo rfl dL_law_1007 rfl (by decide) (rX11_undo l w v4 u237) rfl (Nat.le_of_ble_eq_true rfl) (fun v238 u239 => ?_)
                                                          refine z_icmp_eq C (pc' := 1419) (pf := 1013) dL_law_1010 rfl rfl (fun _ => ?_) (fun _ => ?_)
                                                          ·
                                                            exact zlocs (lb := [(0, zR 0), (1, zR v1), (2, zR v4), (3, zI v7)]) ⟨rfl, rfl, rfl, rfl, trivial⟩ (hk13 _)
                                                          ·
                                                            refine z_iconst C (pc' := 1014) dL_law_1013 kc_0 rfl ?_
                                                            exact znone
                                                        ·
                                                          refine z_tcase C (pc' := 1015) dL_law_33 26 (by decide) (by decide) rfl rfl (fun _ => ?_) (fun h240 => ?_)
                                                          ·
                                                            refine z_aload_n C (i := 1) (pc' := 1016) dL_law_1015 rfl rfl rfl ?_
                                                            refine z_callV1 C (pc' := 1019) lvRL_122 lc_X10_redo rfl dL_law_1016 rfl (by decide) (rX10_redo l w v1 u8) rfl (Nat.le_of_ble_eq_true rfl) (fun v241 u242 => ?_)
                                                            refine z_aload_n C (i := 2) (pc' := 1020) dL_law_1019 rfl rfl rfl ?_
                                                            refine z_callV1 C (pc' := 1023) lvRL_125 lc_X11_redo rfl dL_law_1020 rfl (by decide) (rX11_redo l w v4 u242) rfl (Nat.le_of_ble_eq_true rfl) (fun v243 u244 => ?_)
                                                            refine z_icmp_eq C (pc' := 1419) (pf := 1026) dL_law_1023 rfl rfl (fun _ => ?_) (fun _ => ?_)
                                                            ·
                                                              exact zlocs (lb := [(0, zR 0), (1, zR v1), (2, zR v4), (3, zI v7)]) ⟨rfl, rfl, rfl, rfl, trivial⟩ (hk13 _)
                                                            ·
                                                              refine z_iconst C (pc' := 1027) dL_law_1026 kc_0 rfl ?_
                                                              exact znone
                                                          ·
                                                            refine z_tcase C (pc' := 1028) dL_law_33 27 (by decide) (by decide) rfl rfl (fun _ => ?_) (fun h245 => ?_)
                                                            ·
                                                              refine z_aload_n C (i := 1) (pc' := 1029) dL_law_1028 rfl rfl rfl ?_
                                                              refine z_aload_n C (i := 0) (pc' := 1030) dL_law_1029 rfl rfl rfl ?_
                                                              refine z_iload_n C (i := 3) (pc' := 1031) dL_law_1030 rfl rfl rfl ?_
                                                              refine z_iconst C (pc' := 1032) dL_law_1031 kc_1 rfl ?_
                                                              refine z_iadd C (pc' := 1033) dL_law_1032 rfl ?_
                                                              refine z_sld C hX (pc' := 1034) dL_law_1033 rfl (fun v246 => ?_)
                                                              refine z_callV1 C (pc' := 1037) lvRL_126 lc_X10_body rfl dL_law_1034 rfl (by decide) (rX10_body l w v1 v246 u8) rfl (Nat.le_of_ble_eq_true rfl) (fun v247 u248 => ?_)
                                                              refine z_aload_n C (i := 2) (pc' := 1038) dL_law_1037 rfl rfl rfl ?_
                                                              refine z_aload_n C (i := 0) (pc' := 1039) dL_law_1038 rfl rfl rfl ?_
                                                              refine z_iload_n C (i := 3) (pc' := 1040) dL_law_1039 rfl rfl rfl ?_
                                                              refine z_iconst C (pc' := 1041) dL_law_1040 kc_1 rfl ?_
                                                              refine z_iadd C (pc' := 1042) dL_law_1041 rfl ?_
                                                              refine z_sld C hX (pc' := 1043) dL_law_1042 rfl (fun v249 => ?_)
                                                              refine z_callV1 C (pc' := 1046) lvRL_129 lc_X11_body rfl dL_law_1043 rfl (by decide) (rX11_body l w v4 v249 u248) rfl (Nat.le_of_ble_eq_true rfl) (fun v250 u251 => ?_)
                                                              refine z_icmp_eq C (pc' := 1419) (pf := 1049) dL_law_1046 rfl rfl (fun _ => ?_) (fun _ => ?_)
                                                              ·
                                                                exact zlocs (lb := [(0, zR 0), (1, zR v1), (2, zR v4), (3, zI v7)]) ⟨rfl, rfl, rfl, rfl, trivial⟩ (hk13 _)
                                                              ·
                                                                refine z_iconst C (pc' := 1050) dL_law_1049 kc_0 rfl ?_
                                                                exact znone
                                                            ·
                                                              refine z_tcase C (pc' := 1051) dL_law_33 28 (by decide) (by decide) rfl rfl (fun _ => ?_) (fun h252 => ?_)
                                                              ·
                                                                refine z_aload_n C (i := 1) (pc' := 1052) dL_law_1051 rfl rfl rfl ?_
                                                                refine z_aload_n C (i := 0) (pc' := 1053) dL_law_1052 rfl rfl rfl ?_
                                                                refine z_iload_n C (i := 3) (pc' := 1054) dL_law_1053 rfl rfl rfl ?_
                                                                refine z_iconst C (pc' := 1055) dL_law_1054 kc_1 rfl ?_
                                                                refine z_iadd C (pc' := 1056) dL_law_1055 rfl ?_
                                                                refine z_sld C hX (pc' := 1057) dL_law_1056 rfl (fun v253 => ?_)
                                                                refine z_aload_n C (i := 0) (pc' := 1058) dL_law_1057 rfl rfl rfl ?_
                                                                refine z_iload_n C (i := 3) (pc' := 1059) dL_law_1058 rfl rfl rfl ?_
                                                                refine z_iconst C (pc' := 1060) dL_law_1059 kc_2 rfl ?_
                                                                refine z_iadd C (pc' := 1061) dL_law_1060 rfl ?_
                                                                refine z_sld C hX (pc' := 1062) dL_law_1061 rfl (fun v254 => ?_)
                                                                refine z_aload_n C (i := 0) (pc' := 1063) dL_law_1062 rfl rfl rfl ?_
                                                                refine z_iload_n C (i := 3) (pc' := 1064) dL_law_1063 rfl rfl rfl ?_
                                                                refine z_iconst C (pc' := 1065) dL_law_1064 kc_3 rfl ?_
                                                                refine z_iadd C (pc' := 1066) dL_law_1065 rfl ?_
                                                                refine z_sld C hX (pc' := 1067) dL_law_1066 rfl (fun v255 => ?_)
                                                                refine z_callV1 C (pc' := 1070) lvRL_130 lc_X10_act rfl dL_law_1067 rfl (by decide) (rX10_act l w v1 v253 v254 v255 u8) rfl (Nat.le_of_ble_eq_true rfl) (fun v256 u257 => ?_)
                                                                refine z_aload_n C (i := 2) (pc' := 1071) dL_law_1070 rfl rfl rfl ?_
                                                                refine z_aload_n C (i := 0) (pc' := 1072) dL_law_1071 rfl rfl rfl ?_
                                                                refine z_iload_n C (i := 3) (pc' := 1073) dL_law_1072 rfl rfl rfl ?_
                                                                refine z_iconst C (pc' := 1074) dL_law_1073 kc_1 rfl ?_
                                                                refine z_iadd C (pc' := 1075) dL_law_1074 rfl ?_
                                                                refine z_sld C hX (pc' := 1076) dL_law_1075 rfl (fun v258 => ?_)
                                                                refine z_aload_n C (i := 0) (pc' := 1077) dL_law_1076 rfl rfl rfl ?_
                                                                refine z_iload_n C (i := 3) (pc' := 1078) dL_law_1077 rfl rfl rfl ?_
                                                                refine z_iconst C (pc' := 1079) dL_law_1078 kc_2 rfl ?_
                                                                refine z_iadd C (pc' := 1080) dL_law_1079 rfl ?_
                                                                refine z_sld C hX (pc' := 1081) dL_law_1080 rfl (fun v259 => ?_)
                                                                refine z_aload_n C (i := 0) (pc' := 1082) dL_law_1081 rfl rfl rfl ?_
                                                                refine z_iload_n C (i := 3) (pc' := 1083) dL_law_1082 rfl rfl rfl ?_
                                                                refine z_iconst C (pc' := 1084) dL_law_1083 kc_3 rfl ?_
                                                                refine z_iadd C (pc' := 1085) dL_law_1084 rfl ?_
                                                                refine z_sld C hX (pc' := 1086) dL_law_1085 rfl (fun v260 => ?_)
                                                                refine z_callV1 C (pc' := 1089) lvRL_133 lc_X11_act rfl dL_law_1086 rfl (by decide) (rX11_act l w v4 v258 v259 v260 u257) rfl (Nat.le_of_ble_eq_true rfl) (fun v261 u262 => ?_)
                                                                refine z_icmp_eq C (pc' := 1419) (pf := 1092) dL_law_1089 rfl rfl (fun _ => ?_) (fun _ => ?_)
                                                                ·
                                                                  exact zlocs (lb := [(0, zR 0), (1, zR v1), (2, zR v4), (3, zI v7)]) ⟨rfl, rfl, rfl, rfl, trivial⟩ (hk13 _)
                                                                ·
                                                                  refine z_iconst C (pc' := 1093) dL_law_1092 kc_0 rfl ?_
                                                                  exact znone
                                                              ·
                                                                refine z_tcase C (pc' := 1094) dL_law_33 29 (by decide) (by decide) rfl rfl (fun _ => ?_) (fun h263 => ?_)
                                                                ·
                                                                  refine z_aload_n C (i := 1) (pc' := 1095) dL_law_1094 rfl rfl rfl ?_
                                                                  refine z_aload_n C (i := 0) (pc' := 1096) dL_law_1095 rfl rfl rfl ?_
                                                                  refine z_iload_n C (i := 3) (pc' := 1097) dL_law_1096 rfl rfl rfl ?_
                                                                  refine z_iconst C (pc' := 1098) dL_law_1097 kc_1 rfl ?_
                                                                  refine z_iadd C (pc' := 1099) dL_law_1098 rfl ?_
                                                                  refine z_sld C hX (pc' := 1100) dL_law_1099 rfl (fun v264 => ?_)
                                                                  refine z_callV1 C (pc' := 1103) lvRL_134 lc_X10_trace rfl dL_law_1100 rfl (by decide) (rX10_trace l w v1 v264 u8) rfl (Nat.le_of_ble_eq_true rfl) (fun v265 u266 => ?_)
                                                                  refine z_aload_n C (i := 2) (pc' := 1104) dL_law_1103 rfl rfl rfl ?_
                                                                  refine z_aload_n C (i := 0) (pc' := 1105) dL_law_1104 rfl rfl rfl ?_
                                                                  refine z_iload_n C (i := 3) (pc' := 1106) dL_law_1105 rfl rfl rfl ?_
                                                                  refine z_iconst C (pc' := 1107) dL_law_1106 kc_1 rfl ?_
                                                                  refine z_iadd C (pc' := 1108) dL_law_1107 rfl ?_
                                                                  refine z_sld C hX (pc' := 1109) dL_law_1108 rfl (fun v267 => ?_)
                                                                  refine z_callV1 C (pc' := 1112) lvRL_137 lc_X11_trace rfl dL_law_1109 rfl (by decide) (rX11_trace l w v4 v267 u266) rfl (Nat.le_of_ble_eq_true rfl) (fun v268 u269 => ?_)
                                                                  refine z_icmp_eq C (pc' := 1419) (pf := 1115) dL_law_1112 rfl rfl (fun _ => ?_) (fun _ => ?_)
                                                                  ·
                                                                    exact zlocs (lb := [(0, zR 0), (1, zR v1), (2, zR v4), (3, zI v7)]) ⟨rfl, rfl, rfl, rfl, trivial⟩ (hk13 _)
                                                                  ·
                                                                    refine z_iconst C (pc' := 1116) dL_law_1115 kc_0 rfl ?_
                                                                    exact znone
                                                                ·
                                                                  refine z_tcase C (pc' := 1117) dL_law_33 30 (by decide) (by decide) rfl rfl (fun _ => ?_) (fun h270 => ?_)
                                                                  ·
                                                                    refine z_aload_n C (i := 1) (pc' := 1118) dL_law_1117 rfl rfl rfl ?_
                                                                    refine z_aload_n C (i := 0) (pc' := 1119) dL_law_1118 rfl rfl rfl ?_
                                                                    refine z_iload_n C (i := 3) (pc' := 1120) dL_law_1119 rfl rfl rfl ?_
                                                                    refine z_iconst C (pc' := 1121) dL_law_1120 kc_1 rfl ?_
                                                                    refine z_iadd C (pc' := 1122) dL_law_1121 rfl ?_
                                                                    refine z_sld C hX (pc' := 1123) dL_law_1122 rfl (fun v271 => ?_)
                                                                    refine z_aload_n C (i := 0) (pc' := 1124) dL_law_1123 rfl rfl rfl ?_
                                                                    refine z_iload_n C (i := 3) (pc' := 1125) dL_law_1124 rfl rfl rfl ?_
                                                                    refine z_iconst C (pc' := 1126) dL_law_1125 kc_2 rfl ?_
                                                                    refine z_iadd C (pc' := 1127) dL_law_1126 rfl ?_
                                                                    refine z_sld C hX (pc' := 1128) dL_law_1127 rfl (fun v272 => ?_)
                                                                    refine z_callV1 C (pc' := 1131) lvRL_138 lc_X10_keep rfl dL_law_1128 rfl (by decide) (rX10_keep l w v1 v271 v272 u8) rfl (Nat.le_of_ble_eq_true rfl) (fun v273 u274 => ?_)
                                                                    refine z_aload_n C (i := 2) (pc' := 1132) dL_law_1131 rfl rfl rfl ?_
                                                                    refine z_aload_n C (i := 0) (pc' := 1133) dL_law_1132 rfl rfl rfl ?_
                                                                    refine z_iload_n C (i := 3) (pc' := 1134) dL_law_1133 rfl rfl rfl ?_
                                                                    refine z_iconst C (pc' := 1135) dL_law_1134 kc_1 rfl ?_
                                                                    refine z_iadd C (pc' := 1136) dL_law_1135 rfl ?_
                                                                    refine z_sld C hX (pc' := 1137) dL_law_1136 rfl (fun v275 => ?_)
                                                                    refine z_aload_n C (i := 0) (pc' := 1138) dL_law_1137 rfl rfl rfl ?_
                                                                    refine z_iload_n C (i := 3) (pc' := 1139) dL_law_1138 rfl rfl rfl ?_
                                                                    refine z_iconst C (pc' := 1140) dL_law_1139 kc_2 rfl ?_
                                                                    refine z_iadd C (pc' := 1141) dL_law_1140 rfl ?_
                                                                    refine z_sld C hX (pc' := 1142) dL_law_1141 rfl (fun v276 => ?_)
                                                                    refine z_callV1 C (pc' := 1145) lvRL_141 lc_X11_keep rfl dL_law_1142 rfl (by decide) (rX11_keep l w v4 v275 v276 u274) rfl (Nat.le_of_ble_eq_true rfl) (fun v277 u278 => ?_)
                                                                    refine z_icmp_eq C (pc' := 1419) (pf := 1148) dL_law_1145 rfl rfl (fun _ => ?_) (fun _ => ?_)
                                                                    ·
                                                                      exact zlocs (lb := [(0, zR 0), (1, zR v1), (2, zR v4), (3, zI v7)]) ⟨rfl, rfl, rfl, rfl, trivial⟩ (hk13 _)
                                                                    ·
                                                                      refine z_iconst C (pc' := 1149) dL_law_1148 kc_0 rfl ?_
                                                                      exact znone
                                                                  ·
                                                                    refine z_tcase C (pc' := 1150) dL_law_33 31 (by decide) (by decide) rfl rfl (fun _ => ?_) (fun h279 => ?_)
                                                                    ·
                                                                      refine z_aload_n C (i := 1) (pc' := 1151) dL_law_1150 rfl rfl rfl ?_
                                                                      refine z_aload_n C (i := 0) (pc' := 1152) dL_law_1151 rfl rfl rfl ?_
                                                                      refine z_iload_n C (i := 3) (pc' := 1153) dL_law_1152 rfl rfl rfl ?_
                                                                      refine z_iconst C (pc' := 1154) dL_law_1153 kc_1 rfl ?_
                                                                      refine z_iadd C (pc' := 1155) dL_law_1154 rfl ?_
                                                                      refine z_sld C hX (pc' := 1156) dL_law_1155 rfl (fun v280 => ?_)
                                                                      refine z_aload_n C (i := 0) (pc' := 1157) dL_law_1156 rfl rfl rfl ?_
                                                                      refine z_iload_n C (i := 3) (pc' := 1158) dL_law_1157 rfl rfl rfl ?_
                                                                      refine z_iconst C (pc' := 1159) dL_law_1158 kc_2 rfl ?_
                                                                      refine z_iadd C (pc' := 1160) dL_law_1159 rfl ?_
                                                                      refine z_sld C hX (pc' := 1161) dL_law_1160 rfl (fun v281 => ?_)
                                                                      refine z_aload_n C (i := 0) (pc' := 1162) dL_law_1161 rfl rfl rfl ?_
                                                                      refine z_iload_n C (i := 3) (pc' := 1163) dL_law_1162 rfl rfl rfl ?_
                                                                      refine z_iconst C (pc' := 1164) dL_law_1163 kc_3 rfl ?_
                                                                      refine z_iadd C (pc' := 1165) dL_law_1164 rfl ?_
                                                                      refine z_sld C hX (pc' := 1166) dL_law_1165 rfl (fun v282 => ?_)
                                                                      refine z_callV1 C (pc' := 1169) lvRL_142 lc_X10_row rfl dL_law_1166 rfl (by decide) (rX10_row l w v1 v280 v281 v282 u8) rfl (Nat.le_of_ble_eq_true rfl) (fun v283 u284 => ?_)
                                                                      refine z_aload_n C (i := 2) (pc' := 1170) dL_law_1169 rfl rfl rfl ?_
                                                                      refine z_aload_n C (i := 0) (pc' := 1171) dL_law_1170 rfl rfl rfl ?_
                                                                      refine z_iload_n C (i := 3) (pc' := 1172) dL_law_1171 rfl rfl rfl ?_
                                                                      refine z_iconst C (pc' := 1173) dL_law_1172 kc_1 rfl ?_
                                                                      refine z_iadd C (pc' := 1174) dL_law_1173 rfl ?_
                                                                      refine z_sld C hX (pc' := 1175) dL_law_1174 rfl (fun v285 => ?_)
                                                                      refine z_aload_n C (i := 0) (pc' := 1176) dL_law_1175 rfl rfl rfl ?_
                                                                      refine z_iload_n C (i := 3) (pc' := 1177) dL_law_1176 rfl rfl rfl ?_
                                                                      refine z_iconst C (pc' := 1178) dL_law_1177 kc_2 rfl ?_
                                                                      refine z_iadd C (pc' := 1179) dL_law_1178 rfl ?_
                                                                      refine z_sld C hX (pc' := 1180) dL_law_1179 rfl (fun v286 => ?_)
                                                                      refine z_aload_n C (i := 0) (pc' := 1181) dL_law_1180 rfl rfl rfl ?_
                                                                      refine z_iload_n C (i := 3) (pc' := 1182) dL_law_1181 rfl rfl rfl ?_
                                                                      refine z_iconst C (pc' := 1183) dL_law_1182 kc_3 rfl ?_
                                                                      refine z_iadd C (pc' := 1184) dL_law_1183 rfl ?_
                                                                      refine z_sld C hX (pc' := 1185) dL_law_1184 rfl (fun v287 => ?_)
                                                                      refine z_callV1 C (pc' := 1188) lvRL_145 lc_X11_row rfl dL_law_1185 rfl (by decide) (rX11_row l w v4 v285 v286 v287 u284) rfl (Nat.le_of_ble_eq_true rfl) (fun v288 u289 => ?_)
                                                                      refine z_icmp_eq C (pc' := 1419) (pf := 1191) dL_law_1188 rfl rfl (fun _ => ?_) (fun _ => ?_)
                                                                      ·
                                                                        exact zlocs (lb := [(0, zR 0), (1, zR v1), (2, zR v4), (3, zI v7)]) ⟨rfl, rfl, rfl, rfl, trivial⟩ (hk13 _)
                                                                      ·
                                                                        refine z_iconst C (pc' := 1192) dL_law_1191 kc_0 rfl ?_
                                                                        exact znone
                                                                    ·
                                                                      refine z_tcase C (pc' := 1193) dL_law_33 32 (by decide) (by decide) rfl rfl (fun _ => ?_) (fun h290 => ?_)
                                                                      ·
                                                                        refine z_aload_n C (i := 1) (pc' := 1194) dL_law_1193 rfl rfl rfl ?_
                                                                        refine z_aload_n C (i := 0) (pc' := 1195) dL_law_1194 rfl rfl rfl ?_
                                                                        refine z_iload_n C (i := 3) (pc' := 1196) dL_law_1195 rfl rfl rfl ?_
                                                                        refine z_iconst C (pc' := 1197) dL_law_1196 kc_1 rfl ?_
                                                                        refine z_iadd C (pc' := 1198) dL_law_1197 rfl ?_
                                                                        refine z_sld C hX (pc' := 1199) dL_law_1198 rfl (fun v291 => ?_)
                                                                        refine z_aload_n C (i := 0) (pc' := 1200) dL_law_1199 rfl rfl rfl ?_
                                                                        refine z_iload_n C (i := 3) (pc' := 1201) dL_law_1200 rfl rfl rfl ?_
                                                                        refine z_iconst C (pc' := 1202) dL_law_1201 kc_2 rfl ?_
                                                                        refine z_iadd C (pc' := 1203) dL_law_1202 rfl ?_
                                                                        refine z_sld C hX (pc' := 1204) dL_law_1203 rfl (fun v292 => ?_)
                                                                        refine z_aload_n C (i := 0) (pc' := 1205) dL_law_1204 rfl rfl rfl ?_
                                                                        refine z_iload_n C (i := 3) (pc' := 1206) dL_law_1205 rfl rfl rfl ?_
                                                                        refine z_iconst C (pc' := 1207) dL_law_1206 kc_3 rfl ?_
                                                                        refine z_iadd C (pc' := 1208) dL_law_1207 rfl ?_
                                                                        refine z_sld C hX (pc' := 1209) dL_law_1208 rfl (fun v293 => ?_)
                                                                        refine z_i2l C (pc' := 1210) dL_law_1209 rfl ?_
                                                                        refine z_bipush C (pc' := 1212) dL_law_1210 kb_32 rfl ?_
                                                                        refine z_lshl C (pc' := 1213) dL_law_1212 rfl ?_
                                                                        refine z_aload_n C (i := 0) (pc' := 1214) dL_law_1213 rfl rfl rfl ?_
                                                                        refine z_iload_n C (i := 3) (pc' := 1215) dL_law_1214 rfl rfl rfl ?_
                                                                        refine z_iconst C (pc' := 1216) dL_law_1215 kc_4 rfl ?_
                                                                        refine z_iadd C (pc' := 1217) dL_law_1216 rfl ?_
                                                                        refine z_sld C hX (pc' := 1218) dL_law_1217 rfl (fun v294 => ?_)
                                                                        refine z_i2l C (pc' := 1219) dL_law_1218 rfl ?_
                                                                        refine z_ldc2 C (pc' := 1222) dL_law_1219 wlRL_146 kj_4294967295 rfl ?_
                                                                        refine z_land C (pc' := 1223) dL_law_1222 rfl ?_
                                                                        refine z_lor C (pc' := 1224) dL_law_1223 rfl ?_
                                                                        refine z_callV1 C (pc' := 1227) lvRL_148 lc_X10_put rfl dL_law_1224 rfl (by decide) (rX10_put l w v1 v291 v292 (zlor (zlsh v293 32) (zland v294 4294967295)) u8) rfl (Nat.le_of_ble_eq_true rfl) (fun v295 u296 => ?_)
                                                                        refine z_aload_n C (i := 2) (pc' := 1228) dL_law_1227 rfl rfl rfl ?_
                                                                        refine z_aload_n C (i := 0) (pc' := 1229) dL_law_1228 rfl rfl rfl ?_
                                                                        refine z_iload_n C (i := 3) (pc' := 1230) dL_law_1229 rfl rfl rfl ?_
                                                                        refine z_iconst C (pc' := 1231) dL_law_1230 kc_1 rfl ?_
                                                                        refine z_iadd C (pc' := 1232) dL_law_1231 rfl ?_
                                                                        refine z_sld C hX (pc' := 1233) dL_law_1232 rfl (fun v297 => ?_)
                                                                        refine z_aload_n C (i := 0) (pc' := 1234) dL_law_1233 rfl rfl rfl ?_
                                                                        refine z_iload_n C (i := 3) (pc' := 1235) dL_law_1234 rfl rfl rfl ?_
                                                                        refine z_iconst C (pc' := 1236) dL_law_1235 kc_2 rfl ?_
                                                                        refine z_iadd C (pc' := 1237) dL_law_1236 rfl ?_
                                                                        refine z_sld C hX (pc' := 1238) dL_law_1237 rfl (fun v298 => ?_)
                                                                        refine z_aload_n C (i := 0) (pc' := 1239) dL_law_1238 rfl rfl rfl ?_
                                                                        refine z_iload_n C (i := 3) (pc' := 1240) dL_law_1239 rfl rfl rfl ?_
                                                                        refine z_iconst C (pc' := 1241) dL_law_1240 kc_3 rfl ?_
                                                                        refine z_iadd C (pc' := 1242) dL_law_1241 rfl ?_
                                                                        refine z_sld C hX (pc' := 1243) dL_law_1242 rfl (fun v299 => ?_)
                                                                        refine z_i2l C (pc' := 1244) dL_law_1243 rfl ?_
                                                                        refine z_bipush C (pc' := 1246) dL_law_1244 kb_32 rfl ?_
                                                                        refine z_lshl C (pc' := 1247) dL_law_1246 rfl ?_
                                                                        refine z_aload_n C (i := 0) (pc' := 1248) dL_law_1247 rfl rfl rfl ?_
                                                                        refine z_iload_n C (i := 3) (pc' := 1249) dL_law_1248 rfl rfl rfl ?_
                                                                        refine z_iconst C (pc' := 1250) dL_law_1249 kc_4 rfl ?_
                                                                        refine z_iadd C (pc' := 1251) dL_law_1250 rfl ?_
                                                                        refine z_sld C hX (pc' := 1252) dL_law_1251 rfl (fun v300 => ?_)
                                                                        refine z_i2l C (pc' := 1253) dL_law_1252 rfl ?_
                                                                        refine z_ldc2 C (pc' := 1256) dL_law_1253 wlRL_146 kj_4294967295 rfl ?_
                                                                        refine z_land C (pc' := 1257) dL_law_1256 rfl ?_
                                                                        refine z_lor C (pc' := 1258) dL_law_1257 rfl ?_
                                                                        refine z_callV1 C (pc' := 1261) lvRL_152 lc_X11_put rfl dL_law_1258 rfl (by decide) (rX11_put l w v4 v297 v298 (zlor (zlsh v299 32) (zland v300 4294967295)) u296) rfl (Nat.le_of_ble_eq_true rfl) (fun v301 u302 => ?_)
                                                                        refine z_icmp_eq C (pc' := 1419) (pf := 1264) dL_law_1261 rfl rfl (fun _ => ?_) (fun _ => ?_)
                                                                        ·
                                                                          exact zlocs (lb := [(0, zR 0), (1, zR v1), (2, zR v4), (3, zI v7)]) ⟨rfl, rfl, rfl, rfl, trivial⟩ (hk13 _)
                                                                        ·
                                                                          refine z_iconst C (pc' := 1265) dL_law_1264 kc_0 rfl ?_
                                                                          exact znone
                                                                      ·
                                                                        refine z_tcase C (pc' := 1266) dL_law_33 33 (by decide) (by decide) rfl rfl (fun _ => ?_) (fun h303 => ?_)
                                                                        ·
                                                                          refine z_aload_n C (i := 1) (pc' := 1267) dL_law_1266 rfl rfl rfl ?_
                                                                          refine z_aload_n C (i := 0) (pc' := 1268) dL_law_1267 rfl rfl rfl ?_
                                                                          refine z_iload_n C (i := 3) (pc' := 1269) dL_law_1268 rfl rfl rfl ?_
                                                                          refine z_iconst C (pc' := 1270) dL_law_1269 kc_1 rfl ?_
                                                                          refine z_iadd C (pc' := 1271) dL_law_1270 rfl ?_
                                                                          refine z_sld C hX (pc' := 1272) dL_law_1271 rfl (fun v304 => ?_)
                                                                          refine z_aload_n C (i := 0) (pc' := 1273) dL_law_1272 rfl rfl rfl ?_
                                                                          refine z_iload_n C (i := 3) (pc' := 1274) dL_law_1273 rfl rfl rfl ?_
                                                                          refine z_iconst C (pc' := 1275) dL_law_1274 kc_2 rfl ?_
                                                                          refine z_iadd C (pc' := 1276) dL_law_1275 rfl ?_
                                                                          refine z_sld C hX (pc' := 1277) dL_law_1276 rfl (fun v305 => ?_)
                                                                          refine z_callV2 C (pc' := 1280) lvRL_153 lc_X10_element rfl dL_law_1277 rfl (by decide) (rX10_element l w v1 v304 v305 u8) rfl (Nat.le_of_ble_eq_true rfl) (fun v306 u307 => ?_)
                                                                          refine z_aload_n C (i := 2) (pc' := 1281) dL_law_1280 rfl rfl rfl ?_
                                                                          refine z_aload_n C (i := 0) (pc' := 1282) dL_law_1281 rfl rfl rfl ?_
                                                                          refine z_iload_n C (i := 3) (pc' := 1283) dL_law_1282 rfl rfl rfl ?_
                                                                          refine z_iconst C (pc' := 1284) dL_law_1283 kc_1 rfl ?_
                                                                          refine z_iadd C (pc' := 1285) dL_law_1284 rfl ?_
                                                                          refine z_sld C hX (pc' := 1286) dL_law_1285 rfl (fun v308 => ?_)
                                                                          refine z_aload_n C (i := 0) (pc' := 1287) dL_law_1286 rfl rfl rfl ?_
                                                                          refine z_iload_n C (i := 3) (pc' := 1288) dL_law_1287 rfl rfl rfl ?_
                                                                          refine z_iconst C (pc' := 1289) dL_law_1288 kc_2 rfl ?_
                                                                          refine z_iadd C (pc' := 1290) dL_law_1289 rfl ?_
                                                                          refine z_sld C hX (pc' := 1291) dL_law_1290 rfl (fun v309 => ?_)
                                                                          refine z_callV2 C (pc' := 1294) lvRL_157 lc_X11_element rfl dL_law_1291 rfl (by decide) (rX11_element l w v4 v308 v309 u307) rfl (Nat.le_of_ble_eq_true rfl) (fun v310 u311 => ?_)
                                                                          refine z_lcmp C (pc' := 1295) dL_law_1294 rfl ?_
                                                                          refine z_if_eq C (pc' := 1419) (pf := 1298) dL_law_1295 rfl rfl (fun _ => ?_) (fun _ => ?_)
                                                                          ·
                                                                            exact zlocs (lb := [(0, zR 0), (1, zR v1), (2, zR v4), (3, zI v7)]) ⟨rfl, rfl, rfl, rfl, trivial⟩ (hk13 _)
                                                                          ·
                                                                            refine z_iconst C (pc' := 1299) dL_law_1298 kc_0 rfl ?_
                                                                            exact znone
                                                                        ·
                                                                          refine z_tcase C (pc' := 1300) dL_law_33 34 (by decide) (by decide) rfl rfl (fun _ => ?_) (fun h312 => ?_)
                                                                          ·
                                                                            refine z_aload_n C (i := 1) (pc' := 1301) dL_law_1300 rfl rfl rfl ?_
                                                                            refine z_aload_n C (i := 0) (pc' := 1302) dL_law_1301 rfl rfl rfl ?_
                                                                            refine z_iload_n C (i := 3) (pc' := 1303) dL_law_1302 rfl rfl rfl ?_
                                                                            refine z_iconst C (pc' := 1304) dL_law_1303 kc_1 rfl ?_
                                                                            refine z_iadd C (pc' := 1305) dL_law_1304 rfl ?_
                                                                            refine z_sld C hX (pc' := 1306) dL_law_1305 rfl (fun v313 => ?_)
                                                                            refine z_aload_n C (i := 0) (pc' := 1307) dL_law_1306 rfl rfl rfl ?_
                                                                            refine z_iload_n C (i := 3) (pc' := 1308) dL_law_1307 rfl rfl rfl ?_
                                                                            refine z_iconst C (pc' := 1309) dL_law_1308 kc_2 rfl ?_
                                                                            refine z_iadd C (pc' := 1310) dL_law_1309 rfl ?_
                                                                            refine z_sld C hX (pc' := 1311) dL_law_1310 rfl (fun v314 => ?_)
                                                                            refine z_aload_n C (i := 0) (pc' := 1312) dL_law_1311 rfl rfl rfl ?_
                                                                            refine z_iload_n C (i := 3) (pc' := 1313) dL_law_1312 rfl rfl rfl ?_
                                                                            refine z_iconst C (pc' := 1314) dL_law_1313 kc_3 rfl ?_
                                                                            refine z_iadd C (pc' := 1315) dL_law_1314 rfl ?_
                                                                            refine z_sld C hX (pc' := 1316) dL_law_1315 rfl (fun v315 => ?_)
                                                                            refine z_aload_n C (i := 0) (pc' := 1317) dL_law_1316 rfl rfl rfl ?_
                                                                            refine z_iload_n C (i := 3) (pc' := 1318) dL_law_1317 rfl rfl rfl ?_
                                                                            refine z_iconst C (pc' := 1319) dL_law_1318 kc_4 rfl ?_
                                                                            refine z_iadd C (pc' := 1320) dL_law_1319 rfl ?_
                                                                            refine z_sld C hX (pc' := 1321) dL_law_1320 rfl (fun v316 => ?_)
                                                                            refine z_aload_n C (i := 0) (pc' := 1322) dL_law_1321 rfl rfl rfl ?_
                                                                            refine z_iload_n C (i := 3) (pc' := 1323) dL_law_1322 rfl rfl rfl ?_
                                                                            refine z_iconst C (pc' := 1324) dL_law_1323 kc_5 rfl ?_
                                                                            refine z_iadd C (pc' := 1325) dL_law_1324 rfl ?_
                                                                            refine z_sld C hX (pc' := 1326) dL_law_1325 rfl (fun v317 => ?_)
                                                                            refine z_callV1 C (pc' := 1329) lvRL_158 lc_X10_shift rfl dL_law_1326 rfl (by decide) (rX10_shift l w v1 v313 v314 v315 v316 v317 u8) rfl (Nat.le_of_ble_eq_true rfl) (fun v318 u319 => ?_)
                                                                            refine z_aload_n C (i := 2) (pc' := 1330) dL_law_1329 rfl rfl rfl ?_
                                                                            refine z_aload_n C (i := 0) (pc' := 1331) dL_law_1330 rfl rfl rfl ?_
                                                                            refine z_iload_n C (i := 3) (pc' := 1332) dL_law_1331 rfl rfl rfl ?_
                                                                            refine z_iconst C (pc' := 1333) dL_law_1332 kc_1 rfl ?_
                                                                            refine z_iadd C (pc' := 1334) dL_law_1333 rfl ?_
                                                                            refine z_sld C hX (pc' := 1335) dL_law_1334 rfl (fun v320 => ?_)
                                                                            refine z_aload_n C (i := 0) (pc' := 1336) dL_law_1335 rfl rfl rfl ?_
                                                                            refine z_iload_n C (i := 3) (pc' := 1337) dL_law_1336 rfl rfl rfl ?_
                                                                            refine z_iconst C (pc' := 1338) dL_law_1337 kc_2 rfl ?_
                                                                            refine z_iadd C (pc' := 1339) dL_law_1338 rfl ?_
                                                                            refine z_sld C hX (pc' := 1340) dL_law_1339 rfl (fun v321 => ?_)
                                                                            refine z_aload_n C (i := 0) (pc' := 1341) dL_law_1340 rfl rfl rfl ?_
                                                                            refine z_iload_n C (i := 3) (pc' := 1342) dL_law_1341 rfl rfl rfl ?_
                                                                            refine z_iconst C (pc' := 1343) dL_law_1342 kc_3 rfl ?_
                                                                            refine z_iadd C (pc' := 1344) dL_law_1343 rfl ?_
                                                                            refine z_sld C hX (pc' := 1345) dL_law_1344 rfl (fun v322 => ?_)
                                                                            refine z_aload_n C (i := 0) (pc' := 1346) dL_law_1345 rfl rfl rfl ?_
                                                                            refine z_iload_n C (i := 3) (pc' := 1347) dL_law_1346 rfl rfl rfl ?_
                                                                            refine z_iconst C (pc' := 1348) dL_law_1347 kc_4 rfl ?_
                                                                            refine z_iadd C (pc' := 1349) dL_law_1348 rfl ?_
                                                                            refine z_sld C hX (pc' := 1350) dL_law_1349 rfl (fun v323 => ?_)
                                                                            refine z_aload_n C (i := 0) (pc' := 1351) dL_law_1350 rfl rfl rfl ?_
                                                                            refine z_iload_n C (i := 3) (pc' := 1352) dL_law_1351 rfl rfl rfl ?_
                                                                            refine z_iconst C (pc' := 1353) dL_law_1352 kc_5 rfl ?_
                                                                            refine z_iadd C (pc' := 1354) dL_law_1353 rfl ?_
                                                                            refine z_sld C hX (pc' := 1355) dL_law_1354 rfl (fun v324 => ?_)
                                                                            refine z_callV1 C (pc' := 1358) lvRL_162 lc_X11_shift rfl dL_law_1355 rfl (by decide) (rX11_shift l w v4 v320 v321 v322 v323 v324 u319) rfl (Nat.le_of_ble_eq_true rfl) (fun v325 u326 => ?_)
                                                                            refine z_icmp_eq C (pc' := 1419) (pf := 1361) dL_law_1358 rfl rfl (fun _ => ?_) (fun _ => ?_)
                                                                            ·
                                                                              exact zlocs (lb := [(0, zR 0), (1, zR v1), (2, zR v4), (3, zI v7)]) ⟨rfl, rfl, rfl, rfl, trivial⟩ (hk13 _)
                                                                            ·
                                                                              refine z_iconst C (pc' := 1362) dL_law_1361 kc_0 rfl ?_
                                                                              exact znone
                                                                          ·
                                                                            refine z_tcase C (pc' := 1363) dL_law_33 35 (by decide) (by decide) rfl rfl (fun _ => ?_) (fun h327 => ?_)
                                                                            ·
                                                                              refine z_aload_n C (i := 1) (pc' := 1364) dL_law_1363 rfl rfl rfl ?_
                                                                              refine z_aload_n C (i := 0) (pc' := 1365) dL_law_1364 rfl rfl rfl ?_
                                                                              refine z_iload_n C (i := 3) (pc' := 1366) dL_law_1365 rfl rfl rfl ?_
                                                                              refine z_iconst C (pc' := 1367) dL_law_1366 kc_1 rfl ?_
                                                                              refine z_iadd C (pc' := 1368) dL_law_1367 rfl ?_
                                                                              refine z_sld C hX (pc' := 1369) dL_law_1368 rfl (fun v328 => ?_)
                                                                              refine z_aload_n C (i := 0) (pc' := 1370) dL_law_1369 rfl rfl rfl ?_
                                                                              refine z_iload_n C (i := 3) (pc' := 1371) dL_law_1370 rfl rfl rfl ?_
                                                                              refine z_iconst C (pc' := 1372) dL_law_1371 kc_2 rfl ?_
                                                                              refine z_iadd C (pc' := 1373) dL_law_1372 rfl ?_
                                                                              refine z_sld C hX (pc' := 1374) dL_law_1373 rfl (fun v329 => ?_)
                                                                              refine z_callV1 C (pc' := 1377) lvRL_163 lc_X10_taken rfl dL_law_1374 rfl (by decide) (rX10_taken l w v1 v328 v329 u8) rfl (Nat.le_of_ble_eq_true rfl) (fun v330 u331 => ?_)
                                                                              refine z_aload_n C (i := 2) (pc' := 1378) dL_law_1377 rfl rfl rfl ?_
                                                                              refine z_aload_n C (i := 0) (pc' := 1379) dL_law_1378 rfl rfl rfl ?_
                                                                              refine z_iload_n C (i := 3) (pc' := 1380) dL_law_1379 rfl rfl rfl ?_
                                                                              refine z_iconst C (pc' := 1381) dL_law_1380 kc_1 rfl ?_
                                                                              refine z_iadd C (pc' := 1382) dL_law_1381 rfl ?_
                                                                              refine z_sld C hX (pc' := 1383) dL_law_1382 rfl (fun v332 => ?_)
                                                                              refine z_aload_n C (i := 0) (pc' := 1384) dL_law_1383 rfl rfl rfl ?_
                                                                              refine z_iload_n C (i := 3) (pc' := 1385) dL_law_1384 rfl rfl rfl ?_
                                                                              refine z_iconst C (pc' := 1386) dL_law_1385 kc_2 rfl ?_
                                                                              refine z_iadd C (pc' := 1387) dL_law_1386 rfl ?_
                                                                              refine z_sld C hX (pc' := 1388) dL_law_1387 rfl (fun v333 => ?_)
                                                                              refine z_callV1 C (pc' := 1391) lvRL_166 lc_X11_taken rfl dL_law_1388 rfl (by decide) (rX11_taken l w v4 v332 v333 u331) rfl (Nat.le_of_ble_eq_true rfl) (fun v334 u335 => ?_)
                                                                              refine z_icmp_eq C (pc' := 1419) (pf := 1394) dL_law_1391 rfl rfl (fun _ => ?_) (fun _ => ?_)
                                                                              ·
                                                                                exact zlocs (lb := [(0, zR 0), (1, zR v1), (2, zR v4), (3, zI v7)]) ⟨rfl, rfl, rfl, rfl, trivial⟩ (hk13 _)
                                                                              ·
                                                                                refine z_iconst C (pc' := 1395) dL_law_1394 kc_0 rfl ?_
                                                                                exact znone
                                                                            ·
                                                                              refine z_tcase C (pc' := 1396) dL_law_33 36 (by decide) (by decide) rfl rfl (fun _ => ?_) (fun h336 => ?_)
                                                                              ·
                                                                                refine z_aload_n C (i := 1) (pc' := 1397) dL_law_1396 rfl rfl rfl ?_
                                                                                refine z_aload_n C (i := 0) (pc' := 1398) dL_law_1397 rfl rfl rfl ?_
                                                                                refine z_iload_n C (i := 3) (pc' := 1399) dL_law_1398 rfl rfl rfl ?_
                                                                                refine z_iconst C (pc' := 1400) dL_law_1399 kc_1 rfl ?_
                                                                                refine z_iadd C (pc' := 1401) dL_law_1400 rfl ?_
                                                                                refine z_sld C hX (pc' := 1402) dL_law_1401 rfl (fun v337 => ?_)
                                                                                refine z_callV1 C (pc' := 1405) lvRL_167 lc_X10_count rfl dL_law_1402 rfl (by decide) (rX10_count l w v1 v337 u8) rfl (Nat.le_of_ble_eq_true rfl) (fun v338 u339 => ?_)
                                                                                refine z_aload_n C (i := 2) (pc' := 1406) dL_law_1405 rfl rfl rfl ?_
                                                                                refine z_aload_n C (i := 0) (pc' := 1407) dL_law_1406 rfl rfl rfl ?_
                                                                                refine z_iload_n C (i := 3) (pc' := 1408) dL_law_1407 rfl rfl rfl ?_
                                                                                refine z_iconst C (pc' := 1409) dL_law_1408 kc_1 rfl ?_
                                                                                refine z_iadd C (pc' := 1410) dL_law_1409 rfl ?_
                                                                                refine z_sld C hX (pc' := 1411) dL_law_1410 rfl (fun v340 => ?_)
                                                                                refine z_callV1 C (pc' := 1414) lvRL_170 lc_X11_count rfl dL_law_1411 rfl (by decide) (rX11_count l w v4 v340 u339) rfl (Nat.le_of_ble_eq_true rfl) (fun v341 u342 => ?_)
                                                                                refine z_icmp_eq C (pc' := 1419) (pf := 1417) dL_law_1414 rfl rfl (fun _ => ?_) (fun _ => ?_)
                                                                                ·
                                                                                  exact zlocs (lb := [(0, zR 0), (1, zR v1), (2, zR v4), (3, zI v7)]) ⟨rfl, rfl, rfl, rfl, trivial⟩ (hk13 _)
                                                                                ·
                                                                                  refine z_iconst C (pc' := 1418) dL_law_1417 kc_0 rfl ?_
                                                                                  exact znone
                                                                              ·
                                                                                refine z_tdef C (pc' := 1419) dL_law_33 (by omega) rfl ?_
                                                                                exact zlocs (lb := [(0, zR 0), (1, zR v1), (2, zR v4), (3, zI v7)]) ⟨rfl, rfl, rfl, rfl, trivial⟩ (hk13 _)

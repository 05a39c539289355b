/-! THE LAW: a case a theorem, then its loop; printed by wip/law.py -/
/-! THE CLAIM OUT OF ONE WALK OF THE LAW'S BODY. Your part is whole_start (and what it stands on); all else here is the same for every law, but numbers. -/
def R_law : String := "TentYardLaw"
def lw_P (b : Addr) (xs : List Int32) (args : Array Value) (s : State) : Prop := args = #[.ref b] ∧ s.IntsAt b xs ∧ xs.length ≤ 3584 ∧ (Jvm.Cond.and given_1 narrow_1).before args s = true
def lw_Q (_ : Array Value) (s : State) (o : Outcome) (t : State) : Prop := o = .returned (some (.int 1)) ∧ Framed s o t [] 57 5106
def lw_Z (below : List Frame) (a : Array Value) (s : State) : State → Prop := fun t => ∃ o, t.status = .running ∧ Ended t below o ∧ lw_Q a s o t
/-- the law's own end, with 1 on the stack, nothing written that was there before, its room as the claim has it -/
theorem lw_ret {p : Program} {l : Launch} {e : Env} {s : State} {m : MethodId} {below : List Frame} {meth : Method} {c : Code} {b : Nat} (hx : p.tables.exec = Jvm.exec) (hb : c.code = code) (hr : meth.sig.returnType = ret) (hlocks : meth.locks = false) {pc : Nat} {H : Heap} {ls : Array Slot} (hdg : decode code pc = .ok (.ireturn, 1)) : W p l e room_1 s m #[Value.ref b] below meth c H [] 57 5106 (lw_Z below #[Value.ref b] s) (F0 m pc ls [.int 1]) := by
  intro T hT X
  obtain ⟨fs, hret, hrun, hended, hW, hframe⟩ := X.leave (v := some (.int 1)) (hlocks := hlocks) (fun h => by rw [hr] at h; cases h)
  have hmeth' : T.vm.method? m = some meth := X.method'
  refine ⟨T.setFrames fs, ?_, .returned (some (.int 1)), hrun, hended, rfl, ⟨_, rfl⟩, hW, hframe⟩
  jvm_step X.here [X.here.top, hx, hb, hdg, hmeth', hr, ret, narrow_b1]
  (try refine ⟨rfl, ?_⟩); (try refine ⟨rfl, ?_⟩)
  first | (intro acts; rw [hret _ acts rfl rfl rfl]) | rw [hret _ _ rfl rfl rfl]
  exact Steps.refl _
/-- what holds at the law's entry: the machine, the code, the tables' words (any of lw_tbl by 'hts w (by decide +kernel)'), the script of L ints xs at the cell b, what the Statement gives of the start (any of its parts by flat_of_before) -/
def lw_At (p : Program) (s : State) (m : MethodId) (meth : Method) (c : Code) (b L : Nat) (xs : Nat → Int32) : Prop :=
  p.tables.exec = Jvm.exec ∧ c.code = code ∧ meth.sig.returnType = ret ∧ c.maxLocals = 4 ∧ s.vm.findClass R_law = some m.cls ∧ (∀ w ∈ lw_tbl, w.before #[Value.ref b] s = true) ∧ va_X b L xs s s.heap ∧ b < s.heap.size ∧ meth.locks = false ∧ (Jvm.Cond.and given_1 narrow_1).before #[Value.ref b] s = true
abbrev lwL (j : Nat) : List (Nat × Value) := [(3, .int (nI (7 * j))), (0, .ref 57), (1, .ref 0), (2, .ref 32)]
/-- the script is no cell of the world; its address is place 57 -/
def xScr (Ln : Nat) (xs : Nat → Int32) : xY → Prop
  | (_, _, _, _, s, _, _, _, _, _, _, _, _, _, _, ad, A) => va_X (ad 57) Ln xs s s.heap ∧ ad 57 < s.heap.size ∧ ¬ A (ad 57)
def xEnd : xY → Prop
  | (_, _, _, R, s, _, args, below, meth, _, cells, slots, Q, _, _, ad, A) => R = room_1 ∧ args = #[Value.ref (ad 57)] ∧ cells = 57 ∧ slots = 5106 ∧ Q = lw_Z below #[Value.ref (ad 57)] s ∧ meth.sig.returnType = ret ∧ meth.locks = false ∧ ∀ q, A q → s.heap.size ≤ q
section XL
variable {cc : ByteArray} {own : String} {nL : Nat} {Y : xY} {pc : Nat} {L : List (Nat × Value)} {S : List Value} {M : xM}
theorem PW.sld {Ln j : Nat} {xs : Nat → Int32} {i : Int32} (hX : xScr Ln xs Y) (hi : i = nI j) (hj : j < Ln) (hn : Ln < 2 ^ 31) (d : decode cc pc = .ok (.iaload, 1)) (kk : PW cc own nL Y (pc + 1) L (.int (xs j) :: S) M) : PW cc own nL Y pc L (.int i :: .ref 57 :: S) M := by
  obtain ⟨p, l, e, R, s, m, args, below, meth, c, cells, slots, Q, D, cA, ad, A⟩ := Y
  intro hok H locs ls hP hS hl
  subst hi
  exact va_sld hok.1 hok.2.1 hX.1 hX.2.1 hX.2.2 hS (vp_in_nI hj hn) d (by rw [nI_clamp (Nat.lt_trans hj hn)]; exact kk hok H locs ls hP hS hl)
theorem PW.slen {Ln : Nat} {xs : Nat → Int32} (hX : xScr Ln xs Y) (d : decode cc pc = .ok (.arraylength, 1)) (kk : PW cc own nL Y (pc + 1) L (.int (nI Ln) :: S) M) : PW cc own nL Y pc L (.ref 57 :: S) M := by
  obtain ⟨p, l, e, R, s, m, args, below, meth, c, cells, slots, Q, D, cA, ad, A⟩ := Y
  intro hok H locs ls hP hS hl
  exact va_slen hok.1 hok.2.1 hX.1 hX.2.1 hX.2.2 hS d (kk hok H locs ls hP hS hl)
theorem PW.lwret (hE : xEnd Y) (d : decode cL_law pc = .ok (.ireturn, 1)) : PW cL_law RL 4 Y pc L [.int 1] M := by
  obtain ⟨p, l, e, R, s, m, args, below, meth, c, cells, slots, Q, D, cA, ad, A⟩ := Y
  intro hok H locs ls hP hS hl
  obtain ⟨rfl, rfl, rfl, rfl, rfl, hr, hlocks, hA⟩ := hE
  exact va_forget (fun q hq => hA _ (hS.2.2 q hq)) (lw_ret hok.1 hok.2.1 hr hlocks d)
end XL
theorem lg_cmp_rf {x y : Int64} (h : x = y) : lg_cmp x y = 0 := by
  subst h
  have : ¬ x > x := Int64.lt_irrefl
  simp [lg_cmp, this]
theorem and31 (x : Int32) : ∃ v : Nat, v < 32 ∧ x &&& nI 31 = nI v := by
  refine ⟨(x.toBitVec &&& 31#32).toNat, ?_, ?_⟩
  · rw [BitVec.toNat_and]
    exact Nat.lt_of_le_of_lt Nat.and_le_right (by decide)
  · apply Int32.toBitVec_inj.mp
    rw [Int32.toBitVec_and]
    show x.toBitVec &&& 31#32 = BitVec.ofNat 32 _
    rw [BitVec.ofNat_toNat, BitVec.setWidth_eq]
set_option maxHeartbeats 4000000 in
set_option maxRecDepth 20000 in
theorem s_thing {Y : xY} {Ln j n k : Nat} {xs : Nat → Int32} {M : xM} (hX : xScr Ln xs Y) (hR : xRm Y 9 342) (hL : Ln ≤ 3584) (hj : 7 * j + 7 ≤ Ln) (hI : CI j n k M) (nx : ∀ n' k' u, CI (j + 1) n' k' u → PW cL_law RL 4 Y 1172 (lwL j) [] u) : PW cL_law RL 4 Y 176 (lwL j) [] M := by
  have hj5 : j < 512 := by omega
  refine PW.aload_n (pc := 176) dL_law_176 rfl ?_
  refine PW.aload_n (pc := 177) dL_law_177 rfl ?_
  refine PW.iload_n (pc := 178) dL_law_178 rfl ?_
  refine PW.iconst (pc := 179) (v := nI 1) dL_law_179 (by decide) ?_
  refine PW.iadd (pc := 180) dL_law_180 ?_
  refine PW.sld (pc := 181) (j := 7 * j + 1) hX (nI_add _ _) (by omega) (by omega) dL_law_181 ?_
  refine PW.aload_n (pc := 182) dL_law_182 rfl ?_
  refine PW.iload_n (pc := 183) dL_law_183 rfl ?_
  refine PW.iconst (pc := 184) (v := nI 2) dL_law_184 (by decide) ?_
  refine PW.iadd (pc := 185) dL_law_185 ?_
  refine PW.sld (pc := 186) (j := 7 * j + 2) hX (nI_add _ _) (by omega) (by omega) dL_law_186 ?_
  refine PW.aload_n (pc := 187) dL_law_187 rfl ?_
  refine PW.iload_n (pc := 188) dL_law_188 rfl ?_
  refine PW.iconst (pc := 189) (v := nI 3) dL_law_189 (by decide) ?_
  refine PW.iadd (pc := 190) dL_law_190 ?_
  refine PW.sld (pc := 191) (j := 7 * j + 3) hX (nI_add _ _) (by omega) (by omega) dL_law_191 ?_
  refine PW.aload_n (pc := 192) dL_law_192 rfl ?_
  refine PW.iload_n (pc := 193) dL_law_193 rfl ?_
  refine PW.iconst (pc := 194) (v := nI 4) dL_law_194 (by decide) ?_
  refine PW.iadd (pc := 195) dL_law_195 ?_
  refine PW.sld (pc := 196) (j := 7 * j + 4) hX (nI_add _ _) (by omega) (by omega) dL_law_196 ?_
  refine PW.aload_n (pc := 197) dL_law_197 rfl ?_
  refine PW.iload_n (pc := 198) dL_law_198 rfl ?_
  refine PW.iconst (pc := 199) (v := nI 5) dL_law_199 (by decide) ?_
  refine PW.iadd (pc := 200) dL_law_200 ?_
  refine PW.sld (pc := 201) (j := 7 * j + 5) hX (nI_add _ _) (by omega) (by omega) dL_law_201 ?_
  refine PW.aload_n (pc := 202) dL_law_202 rfl ?_
  refine PW.iload_n (pc := 203) dL_law_203 rfl ?_
  refine PW.bipush (pc := 204) (v := nI 6) dL_law_204 (by decide) ?_
  refine PW.iadd (pc := 206) dL_law_206 ?_
  refine PW.sld (pc := 207) (j := 7 * j + 6) hX (nI_add _ _) (by omega) (by omega) dL_law_207 ?_
  refine cs_L_13 (pc := 208) hR (c_X6_thing ) ⟨Nat.le_of_ble_eq_true rfl, Nat.le_of_ble_eq_true rfl⟩ dL_law_208 (Nat.le_of_ble_eq_true rfl) (fun x1 u1 p1 => ?_)
  refine PW.aload_n (pc := 211) dL_law_211 rfl ?_
  refine PW.aload_n (pc := 212) dL_law_212 rfl ?_
  refine PW.iload_n (pc := 213) dL_law_213 rfl ?_
  refine PW.iconst (pc := 214) (v := nI 1) dL_law_214 (by decide) ?_
  refine PW.iadd (pc := 215) dL_law_215 ?_
  refine PW.sld (pc := 216) (j := 7 * j + 1) hX (nI_add _ _) (by omega) (by omega) dL_law_216 ?_
  refine PW.aload_n (pc := 217) dL_law_217 rfl ?_
  refine PW.iload_n (pc := 218) dL_law_218 rfl ?_
  refine PW.iconst (pc := 219) (v := nI 2) dL_law_219 (by decide) ?_
  refine PW.iadd (pc := 220) dL_law_220 ?_
  refine PW.sld (pc := 221) (j := 7 * j + 2) hX (nI_add _ _) (by omega) (by omega) dL_law_221 ?_
  refine PW.aload_n (pc := 222) dL_law_222 rfl ?_
  refine PW.iload_n (pc := 223) dL_law_223 rfl ?_
  refine PW.iconst (pc := 224) (v := nI 3) dL_law_224 (by decide) ?_
  refine PW.iadd (pc := 225) dL_law_225 ?_
  refine PW.sld (pc := 226) (j := 7 * j + 3) hX (nI_add _ _) (by omega) (by omega) dL_law_226 ?_
  refine PW.aload_n (pc := 227) dL_law_227 rfl ?_
  refine PW.iload_n (pc := 228) dL_law_228 rfl ?_
  refine PW.iconst (pc := 229) (v := nI 4) dL_law_229 (by decide) ?_
  refine PW.iadd (pc := 230) dL_law_230 ?_
  refine PW.sld (pc := 231) (j := 7 * j + 4) hX (nI_add _ _) (by omega) (by omega) dL_law_231 ?_
  refine PW.aload_n (pc := 232) dL_law_232 rfl ?_
  refine PW.iload_n (pc := 233) dL_law_233 rfl ?_
  refine PW.iconst (pc := 234) (v := nI 5) dL_law_234 (by decide) ?_
  refine PW.iadd (pc := 235) dL_law_235 ?_
  refine PW.sld (pc := 236) (j := 7 * j + 5) hX (nI_add _ _) (by omega) (by omega) dL_law_236 ?_
  refine PW.aload_n (pc := 237) dL_law_237 rfl ?_
  refine PW.iload_n (pc := 238) dL_law_238 rfl ?_
  refine PW.bipush (pc := 239) (v := nI 6) dL_law_239 (by decide) ?_
  refine PW.iadd (pc := 241) dL_law_241 ?_
  refine PW.sld (pc := 242) (j := 7 * j + 6) hX (nI_add _ _) (by omega) (by omega) dL_law_242 ?_
  refine cs_L_17 (pc := 243) hR (c_X7_thing ) ⟨Nat.le_of_ble_eq_true rfl, Nat.le_of_ble_eq_true rfl⟩ dL_law_243 (Nat.le_of_ble_eq_true rfl) (fun x2 u2 p2 => ?_)
  obtain ⟨e, n', k', hN⟩ := q_thing hI hj5 p1 p2
  exact PW.icmp_eq (pc := 246) (tgt := 1172) dL_law_246 (by decide) (fun _ => nx n' k' u2 hN) (fun c => absurd e c)
set_option maxHeartbeats 4000000 in
set_option maxRecDepth 20000 in
theorem s_field {Y : xY} {Ln j n k : Nat} {xs : Nat → Int32} {M : xM} (hX : xScr Ln xs Y) (hR : xRm Y 9 342) (hL : Ln ≤ 3584) (hj : 7 * j + 7 ≤ Ln) (hI : CI j n k M) (nx : ∀ n' k' u, CI (j + 1) n' k' u → PW cL_law RL 4 Y 1172 (lwL j) [] u) : PW cL_law RL 4 Y 251 (lwL j) [] M := by
  have hj5 : j < 512 := by omega
  refine PW.aload_n (pc := 251) dL_law_251 rfl ?_
  refine PW.aload_n (pc := 252) dL_law_252 rfl ?_
  refine PW.iload_n (pc := 253) dL_law_253 rfl ?_
  refine PW.iconst (pc := 254) (v := nI 1) dL_law_254 (by decide) ?_
  refine PW.iadd (pc := 255) dL_law_255 ?_
  refine PW.sld (pc := 256) (j := 7 * j + 1) hX (nI_add _ _) (by omega) (by omega) dL_law_256 ?_
  refine PW.aload_n (pc := 257) dL_law_257 rfl ?_
  refine PW.iload_n (pc := 258) dL_law_258 rfl ?_
  refine PW.iconst (pc := 259) (v := nI 2) dL_law_259 (by decide) ?_
  refine PW.iadd (pc := 260) dL_law_260 ?_
  refine PW.sld (pc := 261) (j := 7 * j + 2) hX (nI_add _ _) (by omega) (by omega) dL_law_261 ?_
  refine PW.aload_n (pc := 262) dL_law_262 rfl ?_
  refine PW.iload_n (pc := 263) dL_law_263 rfl ?_
  refine PW.iconst (pc := 264) (v := nI 3) dL_law_264 (by decide) ?_
  refine PW.iadd (pc := 265) dL_law_265 ?_
  refine PW.sld (pc := 266) (j := 7 * j + 3) hX (nI_add _ _) (by omega) (by omega) dL_law_266 ?_
  refine cs_L_18 (pc := 267) hR (c_X6_field (hn := hI.n8) (h10 := hI.n10)) ⟨Nat.le_of_ble_eq_true rfl, Nat.le_of_ble_eq_true rfl⟩ dL_law_267 (Nat.le_of_ble_eq_true rfl) (fun x1 u1 p1 => ?_)
  have em : eM M u1 := by
    repeat' split at p1
    all_goals first | (rw [p1.2]; exact eM.rf) | (rw [p1.2]; exact (eM.rf).up (by decide)) | (rw [p1.2]; exact ((eM.rf).up (by decide)).up (by decide)) | (rw [p1.2]; exact (((eM.rf).up (by decide)).up (by decide)).up (by decide)) | (rw [p1.2]; exact ((((eM.rf).up (by decide)).up (by decide)).up (by decide)).up (by decide)) | (rw [p1.2]; exact (((((eM.rf).up (by decide)).up (by decide)).up (by decide)).up (by decide)).up (by decide))
  obtain ⟨m6, m18, mB, mC, -⟩ := hI.md em
  refine PW.aload_n (pc := 270) dL_law_270 rfl ?_
  refine PW.aload_n (pc := 271) dL_law_271 rfl ?_
  refine PW.iload_n (pc := 272) dL_law_272 rfl ?_
  refine PW.iconst (pc := 273) (v := nI 1) dL_law_273 (by decide) ?_
  refine PW.iadd (pc := 274) dL_law_274 ?_
  refine PW.sld (pc := 275) (j := 7 * j + 1) hX (nI_add _ _) (by omega) (by omega) dL_law_275 ?_
  refine PW.aload_n (pc := 276) dL_law_276 rfl ?_
  refine PW.iload_n (pc := 277) dL_law_277 rfl ?_
  refine PW.iconst (pc := 278) (v := nI 2) dL_law_278 (by decide) ?_
  refine PW.iadd (pc := 279) dL_law_279 ?_
  refine PW.sld (pc := 280) (j := 7 * j + 2) hX (nI_add _ _) (by omega) (by omega) dL_law_280 ?_
  refine PW.aload_n (pc := 281) dL_law_281 rfl ?_
  refine PW.iload_n (pc := 282) dL_law_282 rfl ?_
  refine PW.iconst (pc := 283) (v := nI 3) dL_law_283 (by decide) ?_
  refine PW.iadd (pc := 284) dL_law_284 ?_
  refine PW.sld (pc := 285) (j := 7 * j + 3) hX (nI_add _ _) (by omega) (by omega) dL_law_285 ?_
  refine cs_L_22 (pc := 286) hR (c_X7_field (hn := m6) (h10 := hI.n10)) ⟨Nat.le_of_ble_eq_true rfl, Nat.le_of_ble_eq_true rfl⟩ dL_law_286 (Nat.le_of_ble_eq_true rfl) (fun x2 u2 p2 => ?_)
  obtain ⟨e, n', k', hN⟩ := q_field hI hj5 p1 p2
  exact PW.icmp_eq (pc := 289) (tgt := 1172) dL_law_289 (by decide) (fun _ => nx n' k' u2 hN) (fun c => absurd e c)
set_option maxHeartbeats 4000000 in
set_option maxRecDepth 20000 in
theorem s_need {Y : xY} {Ln j n k : Nat} {xs : Nat → Int32} {M : xM} (hX : xScr Ln xs Y) (hR : xRm Y 9 342) (hL : Ln ≤ 3584) (hj : 7 * j + 7 ≤ Ln) (hI : CI j n k M) (nx : ∀ n' k' u, CI (j + 1) n' k' u → PW cL_law RL 4 Y 1172 (lwL j) [] u) : PW cL_law RL 4 Y 294 (lwL j) [] M := by
  have hj5 : j < 512 := by omega
  refine PW.aload_n (pc := 294) dL_law_294 rfl ?_
  refine PW.aload_n (pc := 295) dL_law_295 rfl ?_
  refine PW.iload_n (pc := 296) dL_law_296 rfl ?_
  refine PW.iconst (pc := 297) (v := nI 1) dL_law_297 (by decide) ?_
  refine PW.iadd (pc := 298) dL_law_298 ?_
  refine PW.sld (pc := 299) (j := 7 * j + 1) hX (nI_add _ _) (by omega) (by omega) dL_law_299 ?_
  refine PW.aload_n (pc := 300) dL_law_300 rfl ?_
  refine PW.iload_n (pc := 301) dL_law_301 rfl ?_
  refine PW.iconst (pc := 302) (v := nI 2) dL_law_302 (by decide) ?_
  refine PW.iadd (pc := 303) dL_law_303 ?_
  refine PW.sld (pc := 304) (j := 7 * j + 2) hX (nI_add _ _) (by omega) (by omega) dL_law_304 ?_
  refine PW.aload_n (pc := 305) dL_law_305 rfl ?_
  refine PW.iload_n (pc := 306) dL_law_306 rfl ?_
  refine PW.iconst (pc := 307) (v := nI 3) dL_law_307 (by decide) ?_
  refine PW.iadd (pc := 308) dL_law_308 ?_
  refine PW.sld (pc := 309) (j := 7 * j + 3) hX (nI_add _ _) (by omega) (by omega) dL_law_309 ?_
  refine cs_L_23 (pc := 310) hR (c_X6_need (hn := hI.n8) (h10 := hI.n10)) ⟨Nat.le_of_ble_eq_true rfl, Nat.le_of_ble_eq_true rfl⟩ dL_law_310 (Nat.le_of_ble_eq_true rfl) (fun x1 u1 p1 => ?_)
  have em : eM M u1 := by
    repeat' split at p1
    all_goals first | (rw [p1.2]; exact eM.rf) | (rw [p1.2]; exact (eM.rf).up (by decide)) | (rw [p1.2]; exact ((eM.rf).up (by decide)).up (by decide)) | (rw [p1.2]; exact (((eM.rf).up (by decide)).up (by decide)).up (by decide)) | (rw [p1.2]; exact ((((eM.rf).up (by decide)).up (by decide)).up (by decide)).up (by decide)) | (rw [p1.2]; exact (((((eM.rf).up (by decide)).up (by decide)).up (by decide)).up (by decide)).up (by decide))
  obtain ⟨m6, m18, mB, mC, -⟩ := hI.md em
  refine PW.aload_n (pc := 313) dL_law_313 rfl ?_
  refine PW.aload_n (pc := 314) dL_law_314 rfl ?_
  refine PW.iload_n (pc := 315) dL_law_315 rfl ?_
  refine PW.iconst (pc := 316) (v := nI 1) dL_law_316 (by decide) ?_
  refine PW.iadd (pc := 317) dL_law_317 ?_
  refine PW.sld (pc := 318) (j := 7 * j + 1) hX (nI_add _ _) (by omega) (by omega) dL_law_318 ?_
  refine PW.aload_n (pc := 319) dL_law_319 rfl ?_
  refine PW.iload_n (pc := 320) dL_law_320 rfl ?_
  refine PW.iconst (pc := 321) (v := nI 2) dL_law_321 (by decide) ?_
  refine PW.iadd (pc := 322) dL_law_322 ?_
  refine PW.sld (pc := 323) (j := 7 * j + 2) hX (nI_add _ _) (by omega) (by omega) dL_law_323 ?_
  refine PW.aload_n (pc := 324) dL_law_324 rfl ?_
  refine PW.iload_n (pc := 325) dL_law_325 rfl ?_
  refine PW.iconst (pc := 326) (v := nI 3) dL_law_326 (by decide) ?_
  refine PW.iadd (pc := 327) dL_law_327 ?_
  refine PW.sld (pc := 328) (j := 7 * j + 3) hX (nI_add _ _) (by omega) (by omega) dL_law_328 ?_
  refine cs_L_26 (pc := 329) hR (c_X7_need (hn := m6) (h10 := hI.n10)) ⟨Nat.le_of_ble_eq_true rfl, Nat.le_of_ble_eq_true rfl⟩ dL_law_329 (Nat.le_of_ble_eq_true rfl) (fun x2 u2 p2 => ?_)
  obtain ⟨e, n', k', hN⟩ := q_need hI hj5 p1 p2
  exact PW.icmp_eq (pc := 332) (tgt := 1172) dL_law_332 (by decide) (fun _ => nx n' k' u2 hN) (fun c => absurd e c)
set_option maxHeartbeats 4000000 in
set_option maxRecDepth 20000 in
theorem s_rain {Y : xY} {Ln j n k : Nat} {xs : Nat → Int32} {M : xM} (hX : xScr Ln xs Y) (hR : xRm Y 9 342) (hL : Ln ≤ 3584) (hj : 7 * j + 7 ≤ Ln) (hI : CI j n k M) (nx : ∀ n' k' u, CI (j + 1) n' k' u → PW cL_law RL 4 Y 1172 (lwL j) [] u) : PW cL_law RL 4 Y 337 (lwL j) [] M := by
  have hj5 : j < 512 := by omega
  by_cases z : xs (7 * j + 2) = 0
  · refine PW.aload_n (pc := 337) dL_law_337 rfl ?_
    refine PW.aload_n (pc := 338) dL_law_338 rfl ?_
    refine PW.iload_n (pc := 339) dL_law_339 rfl ?_
    refine PW.iconst (pc := 340) (v := nI 1) dL_law_340 (by decide) ?_
    refine PW.iadd (pc := 341) dL_law_341 ?_
    refine PW.sld (pc := 342) (j := 7 * j + 1) hX (nI_add _ _) (by omega) (by omega) dL_law_342 ?_
    refine PW.aload_n (pc := 343) dL_law_343 rfl ?_
    refine PW.iload_n (pc := 344) dL_law_344 rfl ?_
    refine PW.iconst (pc := 345) (v := nI 2) dL_law_345 (by decide) ?_
    refine PW.iadd (pc := 346) dL_law_346 ?_
    refine PW.sld (pc := 347) (j := 7 * j + 2) hX (nI_add _ _) (by omega) (by omega) dL_law_347 ?_
    refine PW.if_eq (pc := 348) (tgt := 355) dL_law_348 (by decide) (fun _ => ?_) (fun c => absurd z c)
    refine PW.iconst (pc := 355) (v := nI 0) dL_law_355 (by decide) ?_
    have hb : nI 0 = 0 ∨ nI 0 = 1 := Or.inl rfl
    refine cs_L_27 (pc := 356) hR (c_X6_rain (hb := hb)) ⟨Nat.le_of_ble_eq_true rfl, Nat.le_of_ble_eq_true rfl⟩ dL_law_356 (Nat.le_of_ble_eq_true rfl) (fun x1 u1 p1 => ?_)
    refine PW.aload_n (pc := 359) dL_law_359 rfl ?_
    refine PW.aload_n (pc := 360) dL_law_360 rfl ?_
    refine PW.iload_n (pc := 361) dL_law_361 rfl ?_
    refine PW.iconst (pc := 362) (v := nI 1) dL_law_362 (by decide) ?_
    refine PW.iadd (pc := 363) dL_law_363 ?_
    refine PW.sld (pc := 364) (j := 7 * j + 1) hX (nI_add _ _) (by omega) (by omega) dL_law_364 ?_
    refine PW.aload_n (pc := 365) dL_law_365 rfl ?_
    refine PW.iload_n (pc := 366) dL_law_366 rfl ?_
    refine PW.iconst (pc := 367) (v := nI 2) dL_law_367 (by decide) ?_
    refine PW.iadd (pc := 368) dL_law_368 ?_
    refine PW.sld (pc := 369) (j := 7 * j + 2) hX (nI_add _ _) (by omega) (by omega) dL_law_369 ?_
    refine PW.if_eq (pc := 370) (tgt := 377) dL_law_370 (by decide) (fun _ => ?_) (fun c => absurd z c)
    refine PW.iconst (pc := 377) (v := nI 0) dL_law_377 (by decide) ?_
    refine cs_L_31 (pc := 378) hR (c_X7_rain (hb := hb)) ⟨Nat.le_of_ble_eq_true rfl, Nat.le_of_ble_eq_true rfl⟩ dL_law_378 (Nat.le_of_ble_eq_true rfl) (fun x2 u2 p2 => ?_)
    obtain ⟨e, n', k', hN⟩ := q_rain hI hj5 hb p1 p2
    exact PW.icmp_eq (pc := 381) (tgt := 1172) dL_law_381 (by decide) (fun _ => nx n' k' u2 hN) (fun c => absurd e c)
  · refine PW.aload_n (pc := 337) dL_law_337 rfl ?_
    refine PW.aload_n (pc := 338) dL_law_338 rfl ?_
    refine PW.iload_n (pc := 339) dL_law_339 rfl ?_
    refine PW.iconst (pc := 340) (v := nI 1) dL_law_340 (by decide) ?_
    refine PW.iadd (pc := 341) dL_law_341 ?_
    refine PW.sld (pc := 342) (j := 7 * j + 1) hX (nI_add _ _) (by omega) (by omega) dL_law_342 ?_
    refine PW.aload_n (pc := 343) dL_law_343 rfl ?_
    refine PW.iload_n (pc := 344) dL_law_344 rfl ?_
    refine PW.iconst (pc := 345) (v := nI 2) dL_law_345 (by decide) ?_
    refine PW.iadd (pc := 346) dL_law_346 ?_
    refine PW.sld (pc := 347) (j := 7 * j + 2) hX (nI_add _ _) (by omega) (by omega) dL_law_347 ?_
    refine PW.if_eq (pc := 348) (tgt := 355) dL_law_348 (by decide) (fun c => absurd c z) (fun _ => ?_)
    refine PW.iconst (pc := 351) (v := nI 1) dL_law_351 (by decide) ?_
    refine PW.goto (pc := 352) (tgt := 356) dL_law_352 (by decide) ?_
    have hb : nI 1 = 0 ∨ nI 1 = 1 := Or.inr rfl
    refine cs_L_27 (pc := 356) hR (c_X6_rain (hb := hb)) ⟨Nat.le_of_ble_eq_true rfl, Nat.le_of_ble_eq_true rfl⟩ dL_law_356 (Nat.le_of_ble_eq_true rfl) (fun x1 u1 p1 => ?_)
    refine PW.aload_n (pc := 359) dL_law_359 rfl ?_
    refine PW.aload_n (pc := 360) dL_law_360 rfl ?_
    refine PW.iload_n (pc := 361) dL_law_361 rfl ?_
    refine PW.iconst (pc := 362) (v := nI 1) dL_law_362 (by decide) ?_
    refine PW.iadd (pc := 363) dL_law_363 ?_
    refine PW.sld (pc := 364) (j := 7 * j + 1) hX (nI_add _ _) (by omega) (by omega) dL_law_364 ?_
    refine PW.aload_n (pc := 365) dL_law_365 rfl ?_
    refine PW.iload_n (pc := 366) dL_law_366 rfl ?_
    refine PW.iconst (pc := 367) (v := nI 2) dL_law_367 (by decide) ?_
    refine PW.iadd (pc := 368) dL_law_368 ?_
    refine PW.sld (pc := 369) (j := 7 * j + 2) hX (nI_add _ _) (by omega) (by omega) dL_law_369 ?_
    refine PW.if_eq (pc := 370) (tgt := 377) dL_law_370 (by decide) (fun c => absurd c z) (fun _ => ?_)
    refine PW.iconst (pc := 373) (v := nI 1) dL_law_373 (by decide) ?_
    refine PW.goto (pc := 374) (tgt := 378) dL_law_374 (by decide) ?_
    refine cs_L_31 (pc := 378) hR (c_X7_rain (hb := hb)) ⟨Nat.le_of_ble_eq_true rfl, Nat.le_of_ble_eq_true rfl⟩ dL_law_378 (Nat.le_of_ble_eq_true rfl) (fun x2 u2 p2 => ?_)
    obtain ⟨e, n', k', hN⟩ := q_rain hI hj5 hb p1 p2
    exact PW.icmp_eq (pc := 381) (tgt := 1172) dL_law_381 (by decide) (fun _ => nx n' k' u2 hN) (fun c => absurd e c)
set_option maxHeartbeats 4000000 in
set_option maxRecDepth 20000 in
theorem s_take {Y : xY} {Ln j n k : Nat} {xs : Nat → Int32} {M : xM} (hX : xScr Ln xs Y) (hR : xRm Y 9 342) (hL : Ln ≤ 3584) (hj : 7 * j + 7 ≤ Ln) (hI : CI j n k M) (nx : ∀ n' k' u, CI (j + 1) n' k' u → PW cL_law RL 4 Y 1172 (lwL j) [] u) : PW cL_law RL 4 Y 386 (lwL j) [] M := by
  have hj5 : j < 512 := by omega
  refine PW.aload_n (pc := 386) dL_law_386 rfl ?_
  refine PW.aload_n (pc := 387) dL_law_387 rfl ?_
  refine PW.iload_n (pc := 388) dL_law_388 rfl ?_
  refine PW.iconst (pc := 389) (v := nI 1) dL_law_389 (by decide) ?_
  refine PW.iadd (pc := 390) dL_law_390 ?_
  refine PW.sld (pc := 391) (j := 7 * j + 1) hX (nI_add _ _) (by omega) (by omega) dL_law_391 ?_
  refine cs_L_32 (pc := 392) hR (c_X6_take (hB := hI.hB)) ⟨Nat.le_of_ble_eq_true rfl, Nat.le_of_ble_eq_true rfl⟩ dL_law_392 (Nat.le_of_ble_eq_true rfl) (fun x1 u1 p1 => ?_)
  have em : eM M u1 := by
    repeat' split at p1
    all_goals first | exact eM.r p1.2 | exact (eM.rf.up (by decide)).tr (eM.r p1.2) | (obtain ⟨-, w, f, h⟩ := p1; rw [h]; exact (eM.r f).up (by decide))
  obtain ⟨m6, m18, mB, mC, -⟩ := hI.md em
  refine PW.aload_n (pc := 395) dL_law_395 rfl ?_
  refine PW.aload_n (pc := 396) dL_law_396 rfl ?_
  refine PW.iload_n (pc := 397) dL_law_397 rfl ?_
  refine PW.iconst (pc := 398) (v := nI 1) dL_law_398 (by decide) ?_
  refine PW.iadd (pc := 399) dL_law_399 ?_
  refine PW.sld (pc := 400) (j := 7 * j + 1) hX (nI_add _ _) (by omega) (by omega) dL_law_400 ?_
  refine cs_L_36 (pc := 401) hR (c_X7_take (hB := mB)) ⟨Nat.le_of_ble_eq_true rfl, Nat.le_of_ble_eq_true rfl⟩ dL_law_401 (Nat.le_of_ble_eq_true rfl) (fun x2 u2 p2 => ?_)
  obtain ⟨e, n', k', hN⟩ := q_take hI hj5 p1 p2
  exact PW.icmp_eq (pc := 404) (tgt := 1172) dL_law_404 (by decide) (fun _ => nx n' k' u2 hN) (fun c => absurd e c)
set_option maxHeartbeats 4000000 in
set_option maxRecDepth 20000 in
theorem s_hire {Y : xY} {Ln j n k : Nat} {xs : Nat → Int32} {M : xM} (hX : xScr Ln xs Y) (hR : xRm Y 9 342) (hL : Ln ≤ 3584) (hj : 7 * j + 7 ≤ Ln) (hI : CI j n k M) (nx : ∀ n' k' u, CI (j + 1) n' k' u → PW cL_law RL 4 Y 1172 (lwL j) [] u) : PW cL_law RL 4 Y 409 (lwL j) [] M := by
  have hj5 : j < 512 := by omega
  refine PW.aload_n (pc := 409) dL_law_409 rfl ?_
  refine PW.aload_n (pc := 410) dL_law_410 rfl ?_
  refine PW.iload_n (pc := 411) dL_law_411 rfl ?_
  refine PW.iconst (pc := 412) (v := nI 1) dL_law_412 (by decide) ?_
  refine PW.iadd (pc := 413) dL_law_413 ?_
  refine PW.sld (pc := 414) (j := 7 * j + 1) hX (nI_add _ _) (by omega) (by omega) dL_law_414 ?_
  refine cs_L_37 (pc := 415) hR (c_X6_hire (hB := hI.hB)) ⟨Nat.le_of_ble_eq_true rfl, Nat.le_of_ble_eq_true rfl⟩ dL_law_415 (Nat.le_of_ble_eq_true rfl) (fun x1 u1 p1 => ?_)
  have em : eM M u1 := by
    repeat' split at p1
    all_goals first | exact eM.r p1.2 | exact (eM.rf.up (by decide)).tr (eM.r p1.2) | (obtain ⟨-, w, f, h⟩ := p1; rw [h]; exact (eM.r f).up (by decide))
  obtain ⟨m6, m18, mB, mC, -⟩ := hI.md em
  refine PW.aload_n (pc := 418) dL_law_418 rfl ?_
  refine PW.aload_n (pc := 419) dL_law_419 rfl ?_
  refine PW.iload_n (pc := 420) dL_law_420 rfl ?_
  refine PW.iconst (pc := 421) (v := nI 1) dL_law_421 (by decide) ?_
  refine PW.iadd (pc := 422) dL_law_422 ?_
  refine PW.sld (pc := 423) (j := 7 * j + 1) hX (nI_add _ _) (by omega) (by omega) dL_law_423 ?_
  refine cs_L_40 (pc := 424) hR (c_X7_hire (hB := mB)) ⟨Nat.le_of_ble_eq_true rfl, Nat.le_of_ble_eq_true rfl⟩ dL_law_424 (Nat.le_of_ble_eq_true rfl) (fun x2 u2 p2 => ?_)
  obtain ⟨e, n', k', hN⟩ := q_hire hI hj5 p1 p2
  exact PW.icmp_eq (pc := 427) (tgt := 1172) dL_law_427 (by decide) (fun _ => nx n' k' u2 hN) (fun c => absurd e c)
set_option maxHeartbeats 4000000 in
set_option maxRecDepth 20000 in
theorem s_giveUp {Y : xY} {Ln j n k : Nat} {xs : Nat → Int32} {M : xM} (hX : xScr Ln xs Y) (hR : xRm Y 9 342) (hL : Ln ≤ 3584) (hj : 7 * j + 7 ≤ Ln) (hI : CI j n k M) (nx : ∀ n' k' u, CI (j + 1) n' k' u → PW cL_law RL 4 Y 1172 (lwL j) [] u) : PW cL_law RL 4 Y 432 (lwL j) [] M := by
  have hj5 : j < 512 := by omega
  refine PW.aload_n (pc := 432) dL_law_432 rfl ?_
  refine PW.aload_n (pc := 433) dL_law_433 rfl ?_
  refine PW.iload_n (pc := 434) dL_law_434 rfl ?_
  refine PW.iconst (pc := 435) (v := nI 1) dL_law_435 (by decide) ?_
  refine PW.iadd (pc := 436) dL_law_436 ?_
  refine PW.sld (pc := 437) (j := 7 * j + 1) hX (nI_add _ _) (by omega) (by omega) dL_law_437 ?_
  refine cs_L_41 (pc := 438) hR (c_X6_giveUp (hn := hI.n8) (h10 := hI.n10)) ⟨Nat.le_of_ble_eq_true rfl, Nat.le_of_ble_eq_true rfl⟩ dL_law_438 (Nat.le_of_ble_eq_true rfl) (fun x1 u1 p1 => ?_)
  have em : eM M u1 := by
    repeat' split at p1
    all_goals first | (rw [p1.2]; exact eM.rf) | (rw [p1.2]; exact (eM.rf).up (by decide)) | (rw [p1.2]; exact ((eM.rf).up (by decide)).up (by decide)) | (rw [p1.2]; exact (((eM.rf).up (by decide)).up (by decide)).up (by decide)) | (rw [p1.2]; exact ((((eM.rf).up (by decide)).up (by decide)).up (by decide)).up (by decide)) | (rw [p1.2]; exact (((((eM.rf).up (by decide)).up (by decide)).up (by decide)).up (by decide)).up (by decide))
  obtain ⟨m6, m18, mB, mC, -⟩ := hI.md em
  refine PW.aload_n (pc := 441) dL_law_441 rfl ?_
  refine PW.aload_n (pc := 442) dL_law_442 rfl ?_
  refine PW.iload_n (pc := 443) dL_law_443 rfl ?_
  refine PW.iconst (pc := 444) (v := nI 1) dL_law_444 (by decide) ?_
  refine PW.iadd (pc := 445) dL_law_445 ?_
  refine PW.sld (pc := 446) (j := 7 * j + 1) hX (nI_add _ _) (by omega) (by omega) dL_law_446 ?_
  refine cs_L_44 (pc := 447) hR (c_X7_giveUp (hn := m6) (h10 := hI.n10)) ⟨Nat.le_of_ble_eq_true rfl, Nat.le_of_ble_eq_true rfl⟩ dL_law_447 (Nat.le_of_ble_eq_true rfl) (fun x2 u2 p2 => ?_)
  obtain ⟨e, n', k', hN⟩ := q_giveUp hI hj5 p1 p2
  exact PW.icmp_eq (pc := 450) (tgt := 1172) dL_law_450 (by decide) (fun _ => nx n' k' u2 hN) (fun c => absurd e c)
set_option maxHeartbeats 4000000 in
set_option maxRecDepth 20000 in
theorem s_change {Y : xY} {Ln j n k : Nat} {xs : Nat → Int32} {M : xM} (hX : xScr Ln xs Y) (hR : xRm Y 9 342) (hL : Ln ≤ 3584) (hj : 7 * j + 7 ≤ Ln) (hI : CI j n k M) (nx : ∀ n' k' u, CI (j + 1) n' k' u → PW cL_law RL 4 Y 1172 (lwL j) [] u) : PW cL_law RL 4 Y 455 (lwL j) [] M := by
  have hj5 : j < 512 := by omega
  refine PW.aload_n (pc := 455) dL_law_455 rfl ?_
  refine PW.aload_n (pc := 456) dL_law_456 rfl ?_
  refine PW.iload_n (pc := 457) dL_law_457 rfl ?_
  refine PW.iconst (pc := 458) (v := nI 1) dL_law_458 (by decide) ?_
  refine PW.iadd (pc := 459) dL_law_459 ?_
  refine PW.sld (pc := 460) (j := 7 * j + 1) hX (nI_add _ _) (by omega) (by omega) dL_law_460 ?_
  refine PW.aload_n (pc := 461) dL_law_461 rfl ?_
  refine PW.iload_n (pc := 462) dL_law_462 rfl ?_
  refine PW.iconst (pc := 463) (v := nI 2) dL_law_463 (by decide) ?_
  refine PW.iadd (pc := 464) dL_law_464 ?_
  refine PW.sld (pc := 465) (j := 7 * j + 2) hX (nI_add _ _) (by omega) (by omega) dL_law_465 ?_
  refine PW.aload_n (pc := 466) dL_law_466 rfl ?_
  refine PW.iload_n (pc := 467) dL_law_467 rfl ?_
  refine PW.iconst (pc := 468) (v := nI 3) dL_law_468 (by decide) ?_
  refine PW.iadd (pc := 469) dL_law_469 ?_
  refine PW.sld (pc := 470) (j := 7 * j + 3) hX (nI_add _ _) (by omega) (by omega) dL_law_470 ?_
  refine cs_L_45 (pc := 471) hR (c_X6_change (hB := hI.hB)) ⟨Nat.le_of_ble_eq_true rfl, Nat.le_of_ble_eq_true rfl⟩ dL_law_471 (Nat.le_of_ble_eq_true rfl) (fun x1 u1 p1 => ?_)
  have em : eM M u1 := by
    repeat' split at p1
    all_goals first | exact eM.r p1.2 | exact (eM.rf.up (by decide)).tr (eM.r p1.2) | (obtain ⟨-, w, f, h⟩ := p1; rw [h]; exact (eM.r f).up (by decide))
  obtain ⟨m6, m18, mB, mC, -⟩ := hI.md em
  refine PW.aload_n (pc := 474) dL_law_474 rfl ?_
  refine PW.aload_n (pc := 475) dL_law_475 rfl ?_
  refine PW.iload_n (pc := 476) dL_law_476 rfl ?_
  refine PW.iconst (pc := 477) (v := nI 1) dL_law_477 (by decide) ?_
  refine PW.iadd (pc := 478) dL_law_478 ?_
  refine PW.sld (pc := 479) (j := 7 * j + 1) hX (nI_add _ _) (by omega) (by omega) dL_law_479 ?_
  refine PW.aload_n (pc := 480) dL_law_480 rfl ?_
  refine PW.iload_n (pc := 481) dL_law_481 rfl ?_
  refine PW.iconst (pc := 482) (v := nI 2) dL_law_482 (by decide) ?_
  refine PW.iadd (pc := 483) dL_law_483 ?_
  refine PW.sld (pc := 484) (j := 7 * j + 2) hX (nI_add _ _) (by omega) (by omega) dL_law_484 ?_
  refine PW.aload_n (pc := 485) dL_law_485 rfl ?_
  refine PW.iload_n (pc := 486) dL_law_486 rfl ?_
  refine PW.iconst (pc := 487) (v := nI 3) dL_law_487 (by decide) ?_
  refine PW.iadd (pc := 488) dL_law_488 ?_
  refine PW.sld (pc := 489) (j := 7 * j + 3) hX (nI_add _ _) (by omega) (by omega) dL_law_489 ?_
  refine cs_L_48 (pc := 490) hR (c_X7_change (hB := mB)) ⟨Nat.le_of_ble_eq_true rfl, Nat.le_of_ble_eq_true rfl⟩ dL_law_490 (Nat.le_of_ble_eq_true rfl) (fun x2 u2 p2 => ?_)
  obtain ⟨e, n', k', hN⟩ := q_change hI hj5 p1 p2
  exact PW.icmp_eq (pc := 493) (tgt := 1172) dL_law_493 (by decide) (fun _ => nx n' k' u2 hN) (fun c => absurd e c)
set_option maxHeartbeats 4000000 in
set_option maxRecDepth 20000 in
theorem s_back {Y : xY} {Ln j n k : Nat} {xs : Nat → Int32} {M : xM} (hX : xScr Ln xs Y) (hR : xRm Y 9 342) (hL : Ln ≤ 3584) (hj : 7 * j + 7 ≤ Ln) (hI : CI j n k M) (nx : ∀ n' k' u, CI (j + 1) n' k' u → PW cL_law RL 4 Y 1172 (lwL j) [] u) : PW cL_law RL 4 Y 498 (lwL j) [] M := by
  have hj5 : j < 512 := by omega
  refine PW.aload_n (pc := 498) dL_law_498 rfl ?_
  refine PW.aload_n (pc := 499) dL_law_499 rfl ?_
  refine PW.iload_n (pc := 500) dL_law_500 rfl ?_
  refine PW.iconst (pc := 501) (v := nI 1) dL_law_501 (by decide) ?_
  refine PW.iadd (pc := 502) dL_law_502 ?_
  refine PW.sld (pc := 503) (j := 7 * j + 1) hX (nI_add _ _) (by omega) (by omega) dL_law_503 ?_
  refine cs_L_49 (pc := 504) hR (c_X6_back (hn := hI.n8) (h10 := hI.n10)) ⟨Nat.le_of_ble_eq_true rfl, Nat.le_of_ble_eq_true rfl⟩ dL_law_504 (Nat.le_of_ble_eq_true rfl) (fun x1 u1 p1 => ?_)
  have em : eM M u1 := by
    repeat' split at p1
    all_goals first | (rw [p1.2]; exact eM.rf) | (rw [p1.2]; exact (eM.rf).up (by decide)) | (rw [p1.2]; exact ((eM.rf).up (by decide)).up (by decide)) | (rw [p1.2]; exact (((eM.rf).up (by decide)).up (by decide)).up (by decide)) | (rw [p1.2]; exact ((((eM.rf).up (by decide)).up (by decide)).up (by decide)).up (by decide)) | (rw [p1.2]; exact (((((eM.rf).up (by decide)).up (by decide)).up (by decide)).up (by decide)).up (by decide))
  obtain ⟨m6, m18, mB, mC, -⟩ := hI.md em
  refine PW.aload_n (pc := 507) dL_law_507 rfl ?_
  refine PW.aload_n (pc := 508) dL_law_508 rfl ?_
  refine PW.iload_n (pc := 509) dL_law_509 rfl ?_
  refine PW.iconst (pc := 510) (v := nI 1) dL_law_510 (by decide) ?_
  refine PW.iadd (pc := 511) dL_law_511 ?_
  refine PW.sld (pc := 512) (j := 7 * j + 1) hX (nI_add _ _) (by omega) (by omega) dL_law_512 ?_
  refine cs_L_52 (pc := 513) hR (c_X7_back (hn := m6) (h10 := hI.n10)) ⟨Nat.le_of_ble_eq_true rfl, Nat.le_of_ble_eq_true rfl⟩ dL_law_513 (Nat.le_of_ble_eq_true rfl) (fun x2 u2 p2 => ?_)
  obtain ⟨e, n', k', hN⟩ := q_back hI hj5 p1 p2
  exact PW.icmp_eq (pc := 516) (tgt := 1172) dL_law_516 (by decide) (fun _ => nx n' k' u2 hN) (fun c => absurd e c)
set_option maxHeartbeats 4000000 in
set_option maxRecDepth 20000 in
theorem s_missing {Y : xY} {Ln j n k : Nat} {xs : Nat → Int32} {M : xM} (hX : xScr Ln xs Y) (hR : xRm Y 9 342) (hL : Ln ≤ 3584) (hj : 7 * j + 7 ≤ Ln) (hI : CI j n k M) (nx : ∀ n' k' u, CI (j + 1) n' k' u → PW cL_law RL 4 Y 1172 (lwL j) [] u) : PW cL_law RL 4 Y 521 (lwL j) [] M := by
  have hj5 : j < 512 := by omega
  refine PW.aload_n (pc := 521) dL_law_521 rfl ?_
  refine PW.aload_n (pc := 522) dL_law_522 rfl ?_
  refine PW.iload_n (pc := 523) dL_law_523 rfl ?_
  refine PW.iconst (pc := 524) (v := nI 1) dL_law_524 (by decide) ?_
  refine PW.iadd (pc := 525) dL_law_525 ?_
  refine PW.sld (pc := 526) (j := 7 * j + 1) hX (nI_add _ _) (by omega) (by omega) dL_law_526 ?_
  refine PW.aload_n (pc := 527) dL_law_527 rfl ?_
  refine PW.iload_n (pc := 528) dL_law_528 rfl ?_
  refine PW.iconst (pc := 529) (v := nI 2) dL_law_529 (by decide) ?_
  refine PW.iadd (pc := 530) dL_law_530 ?_
  refine PW.sld (pc := 531) (j := 7 * j + 2) hX (nI_add _ _) (by omega) (by omega) dL_law_531 ?_
  refine PW.aload_n (pc := 532) dL_law_532 rfl ?_
  refine PW.iload_n (pc := 533) dL_law_533 rfl ?_
  refine PW.iconst (pc := 534) (v := nI 3) dL_law_534 (by decide) ?_
  refine PW.iadd (pc := 535) dL_law_535 ?_
  refine PW.sld (pc := 536) (j := 7 * j + 3) hX (nI_add _ _) (by omega) (by omega) dL_law_536 ?_
  refine cs_L_53 (pc := 537) hR (c_X6_missing (hn := hI.n8) (h10 := hI.n10)) ⟨Nat.le_of_ble_eq_true rfl, Nat.le_of_ble_eq_true rfl⟩ dL_law_537 (Nat.le_of_ble_eq_true rfl) (fun x1 u1 p1 => ?_)
  have em : eM M u1 := by
    repeat' split at p1
    all_goals first | (rw [p1.2]; exact eM.rf) | (rw [p1.2]; exact (eM.rf).up (by decide)) | (rw [p1.2]; exact ((eM.rf).up (by decide)).up (by decide)) | (rw [p1.2]; exact (((eM.rf).up (by decide)).up (by decide)).up (by decide)) | (rw [p1.2]; exact ((((eM.rf).up (by decide)).up (by decide)).up (by decide)).up (by decide)) | (rw [p1.2]; exact (((((eM.rf).up (by decide)).up (by decide)).up (by decide)).up (by decide)).up (by decide))
  obtain ⟨m6, m18, mB, mC, -⟩ := hI.md em
  refine PW.aload_n (pc := 540) dL_law_540 rfl ?_
  refine PW.aload_n (pc := 541) dL_law_541 rfl ?_
  refine PW.iload_n (pc := 542) dL_law_542 rfl ?_
  refine PW.iconst (pc := 543) (v := nI 1) dL_law_543 (by decide) ?_
  refine PW.iadd (pc := 544) dL_law_544 ?_
  refine PW.sld (pc := 545) (j := 7 * j + 1) hX (nI_add _ _) (by omega) (by omega) dL_law_545 ?_
  refine PW.aload_n (pc := 546) dL_law_546 rfl ?_
  refine PW.iload_n (pc := 547) dL_law_547 rfl ?_
  refine PW.iconst (pc := 548) (v := nI 2) dL_law_548 (by decide) ?_
  refine PW.iadd (pc := 549) dL_law_549 ?_
  refine PW.sld (pc := 550) (j := 7 * j + 2) hX (nI_add _ _) (by omega) (by omega) dL_law_550 ?_
  refine PW.aload_n (pc := 551) dL_law_551 rfl ?_
  refine PW.iload_n (pc := 552) dL_law_552 rfl ?_
  refine PW.iconst (pc := 553) (v := nI 3) dL_law_553 (by decide) ?_
  refine PW.iadd (pc := 554) dL_law_554 ?_
  refine PW.sld (pc := 555) (j := 7 * j + 3) hX (nI_add _ _) (by omega) (by omega) dL_law_555 ?_
  refine cs_L_56 (pc := 556) hR (c_X7_missing (hn := m6) (h10 := hI.n10)) ⟨Nat.le_of_ble_eq_true rfl, Nat.le_of_ble_eq_true rfl⟩ dL_law_556 (Nat.le_of_ble_eq_true rfl) (fun x2 u2 p2 => ?_)
  obtain ⟨e, n', k', hN⟩ := q_missing hI hj5 p1 p2
  exact PW.icmp_eq (pc := 559) (tgt := 1172) dL_law_559 (by decide) (fun _ => nx n' k' u2 hN) (fun c => absurd e c)
set_option maxHeartbeats 4000000 in
set_option maxRecDepth 20000 in
theorem s_mend {Y : xY} {Ln j n k : Nat} {xs : Nat → Int32} {M : xM} (hX : xScr Ln xs Y) (hR : xRm Y 9 342) (hL : Ln ≤ 3584) (hj : 7 * j + 7 ≤ Ln) (hI : CI j n k M) (nx : ∀ n' k' u, CI (j + 1) n' k' u → PW cL_law RL 4 Y 1172 (lwL j) [] u) : PW cL_law RL 4 Y 564 (lwL j) [] M := by
  have hj5 : j < 512 := by omega
  refine PW.aload_n (pc := 564) dL_law_564 rfl ?_
  refine PW.aload_n (pc := 565) dL_law_565 rfl ?_
  refine PW.iload_n (pc := 566) dL_law_566 rfl ?_
  refine PW.iconst (pc := 567) (v := nI 1) dL_law_567 (by decide) ?_
  refine PW.iadd (pc := 568) dL_law_568 ?_
  refine PW.sld (pc := 569) (j := 7 * j + 1) hX (nI_add _ _) (by omega) (by omega) dL_law_569 ?_
  refine PW.aload_n (pc := 570) dL_law_570 rfl ?_
  refine PW.iload_n (pc := 571) dL_law_571 rfl ?_
  refine PW.iconst (pc := 572) (v := nI 2) dL_law_572 (by decide) ?_
  refine PW.iadd (pc := 573) dL_law_573 ?_
  refine PW.sld (pc := 574) (j := 7 * j + 2) hX (nI_add _ _) (by omega) (by omega) dL_law_574 ?_
  refine cs_L_57 (pc := 575) hR (c_X6_mend ) ⟨Nat.le_of_ble_eq_true rfl, Nat.le_of_ble_eq_true rfl⟩ dL_law_575 (Nat.le_of_ble_eq_true rfl) (fun x1 u1 p1 => ?_)
  refine PW.aload_n (pc := 578) dL_law_578 rfl ?_
  refine PW.aload_n (pc := 579) dL_law_579 rfl ?_
  refine PW.iload_n (pc := 580) dL_law_580 rfl ?_
  refine PW.iconst (pc := 581) (v := nI 1) dL_law_581 (by decide) ?_
  refine PW.iadd (pc := 582) dL_law_582 ?_
  refine PW.sld (pc := 583) (j := 7 * j + 1) hX (nI_add _ _) (by omega) (by omega) dL_law_583 ?_
  refine PW.aload_n (pc := 584) dL_law_584 rfl ?_
  refine PW.iload_n (pc := 585) dL_law_585 rfl ?_
  refine PW.iconst (pc := 586) (v := nI 2) dL_law_586 (by decide) ?_
  refine PW.iadd (pc := 587) dL_law_587 ?_
  refine PW.sld (pc := 588) (j := 7 * j + 2) hX (nI_add _ _) (by omega) (by omega) dL_law_588 ?_
  refine cs_L_61 (pc := 589) hR (c_X7_mend ) ⟨Nat.le_of_ble_eq_true rfl, Nat.le_of_ble_eq_true rfl⟩ dL_law_589 (Nat.le_of_ble_eq_true rfl) (fun x2 u2 p2 => ?_)
  obtain ⟨e, n', k', hN⟩ := q_mend hI hj5 p1 p2
  exact PW.icmp_eq (pc := 592) (tgt := 1172) dL_law_592 (by decide) (fun _ => nx n' k' u2 hN) (fun c => absurd e c)
set_option maxHeartbeats 4000000 in
set_option maxRecDepth 20000 in
theorem s_about {Y : xY} {Ln j n k : Nat} {xs : Nat → Int32} {M : xM} (hX : xScr Ln xs Y) (hR : xRm Y 9 342) (hL : Ln ≤ 3584) (hj : 7 * j + 7 ≤ Ln) (hI : CI j n k M) (nx : ∀ n' k' u, CI (j + 1) n' k' u → PW cL_law RL 4 Y 1172 (lwL j) [] u) : PW cL_law RL 4 Y 597 (lwL j) [] M := by
  have hj5 : j < 512 := by omega
  refine PW.aload_n (pc := 597) dL_law_597 rfl ?_
  refine PW.aload_n (pc := 598) dL_law_598 rfl ?_
  refine PW.iload_n (pc := 599) dL_law_599 rfl ?_
  refine PW.iconst (pc := 600) (v := nI 1) dL_law_600 (by decide) ?_
  refine PW.iadd (pc := 601) dL_law_601 ?_
  refine PW.sld (pc := 602) (j := 7 * j + 1) hX (nI_add _ _) (by omega) (by omega) dL_law_602 ?_
  refine PW.aload_n (pc := 603) dL_law_603 rfl ?_
  refine PW.iload_n (pc := 604) dL_law_604 rfl ?_
  refine PW.iconst (pc := 605) (v := nI 2) dL_law_605 (by decide) ?_
  refine PW.iadd (pc := 606) dL_law_606 ?_
  refine PW.sld (pc := 607) (j := 7 * j + 2) hX (nI_add _ _) (by omega) (by omega) dL_law_607 ?_
  refine cs_L_62 (pc := 608) hR (c_X6_about (hn := hI.n8) (h10 := hI.n10)) ⟨Nat.le_of_ble_eq_true rfl, Nat.le_of_ble_eq_true rfl⟩ dL_law_608 (Nat.le_of_ble_eq_true rfl) (fun x1 u1 p1 => ?_)
  have em : eM M u1 := by rw [p1.2]; exact eM.rf
  obtain ⟨m6, m18, mB, mC, -⟩ := hI.md em
  refine PW.aload_n (pc := 611) dL_law_611 rfl ?_
  refine PW.aload_n (pc := 612) dL_law_612 rfl ?_
  refine PW.iload_n (pc := 613) dL_law_613 rfl ?_
  refine PW.iconst (pc := 614) (v := nI 1) dL_law_614 (by decide) ?_
  refine PW.iadd (pc := 615) dL_law_615 ?_
  refine PW.sld (pc := 616) (j := 7 * j + 1) hX (nI_add _ _) (by omega) (by omega) dL_law_616 ?_
  refine PW.aload_n (pc := 617) dL_law_617 rfl ?_
  refine PW.iload_n (pc := 618) dL_law_618 rfl ?_
  refine PW.iconst (pc := 619) (v := nI 2) dL_law_619 (by decide) ?_
  refine PW.iadd (pc := 620) dL_law_620 ?_
  refine PW.sld (pc := 621) (j := 7 * j + 2) hX (nI_add _ _) (by omega) (by omega) dL_law_621 ?_
  refine cs_L_65 (pc := 622) hR (c_X7_about (hn := m6) (h10 := hI.n10)) ⟨Nat.le_of_ble_eq_true rfl, Nat.le_of_ble_eq_true rfl⟩ dL_law_622 (Nat.le_of_ble_eq_true rfl) (fun x2 u2 p2 => ?_)
  obtain ⟨e, n', k', hN⟩ := q_about hI hj5 p1 p2
  exact PW.icmp_eq (pc := 625) (tgt := 1172) dL_law_625 (by decide) (fun _ => nx n' k' u2 hN) (fun c => absurd e c)
set_option maxHeartbeats 4000000 in
set_option maxRecDepth 20000 in
theorem s_lack {Y : xY} {Ln j n k : Nat} {xs : Nat → Int32} {M : xM} (hX : xScr Ln xs Y) (hR : xRm Y 9 342) (hL : Ln ≤ 3584) (hj : 7 * j + 7 ≤ Ln) (hI : CI j n k M) (nx : ∀ n' k' u, CI (j + 1) n' k' u → PW cL_law RL 4 Y 1172 (lwL j) [] u) : PW cL_law RL 4 Y 630 (lwL j) [] M := by
  have hj5 : j < 512 := by omega
  refine PW.aload_n (pc := 630) dL_law_630 rfl ?_
  refine PW.aload_n (pc := 631) dL_law_631 rfl ?_
  refine PW.iload_n (pc := 632) dL_law_632 rfl ?_
  refine PW.iconst (pc := 633) (v := nI 1) dL_law_633 (by decide) ?_
  refine PW.iadd (pc := 634) dL_law_634 ?_
  refine PW.sld (pc := 635) (j := 7 * j + 1) hX (nI_add _ _) (by omega) (by omega) dL_law_635 ?_
  refine PW.aload_n (pc := 636) dL_law_636 rfl ?_
  refine PW.iload_n (pc := 637) dL_law_637 rfl ?_
  refine PW.iconst (pc := 638) (v := nI 2) dL_law_638 (by decide) ?_
  refine PW.iadd (pc := 639) dL_law_639 ?_
  refine PW.sld (pc := 640) (j := 7 * j + 2) hX (nI_add _ _) (by omega) (by omega) dL_law_640 ?_
  refine cs_L_66 (pc := 641) hR (c_X6_lack (hB := hI.hB)) ⟨Nat.le_of_ble_eq_true rfl, Nat.le_of_ble_eq_true rfl⟩ dL_law_641 (Nat.le_of_ble_eq_true rfl) (fun x1 u1 p1 => ?_)
  have em : eM M u1 := eM.r p1.2
  obtain ⟨m6, m18, mB, mC, -⟩ := hI.md em
  refine PW.aload_n (pc := 644) dL_law_644 rfl ?_
  refine PW.aload_n (pc := 645) dL_law_645 rfl ?_
  refine PW.iload_n (pc := 646) dL_law_646 rfl ?_
  refine PW.iconst (pc := 647) (v := nI 1) dL_law_647 (by decide) ?_
  refine PW.iadd (pc := 648) dL_law_648 ?_
  refine PW.sld (pc := 649) (j := 7 * j + 1) hX (nI_add _ _) (by omega) (by omega) dL_law_649 ?_
  refine PW.aload_n (pc := 650) dL_law_650 rfl ?_
  refine PW.iload_n (pc := 651) dL_law_651 rfl ?_
  refine PW.iconst (pc := 652) (v := nI 2) dL_law_652 (by decide) ?_
  refine PW.iadd (pc := 653) dL_law_653 ?_
  refine PW.sld (pc := 654) (j := 7 * j + 2) hX (nI_add _ _) (by omega) (by omega) dL_law_654 ?_
  refine cs_L_69 (pc := 655) hR (c_X7_lack (hB := mB)) ⟨Nat.le_of_ble_eq_true rfl, Nat.le_of_ble_eq_true rfl⟩ dL_law_655 (Nat.le_of_ble_eq_true rfl) (fun x2 u2 p2 => ?_)
  obtain ⟨e, n', k', hN⟩ := q_lack hI hj5 p1 p2
  exact PW.icmp_eq (pc := 658) (tgt := 1172) dL_law_658 (by decide) (fun _ => nx n' k' u2 hN) (fun c => absurd e c)
set_option maxHeartbeats 4000000 in
set_option maxRecDepth 20000 in
theorem s_fits {Y : xY} {Ln j n k : Nat} {xs : Nat → Int32} {M : xM} (hX : xScr Ln xs Y) (hR : xRm Y 9 342) (hL : Ln ≤ 3584) (hj : 7 * j + 7 ≤ Ln) (hI : CI j n k M) (nx : ∀ n' k' u, CI (j + 1) n' k' u → PW cL_law RL 4 Y 1172 (lwL j) [] u) : PW cL_law RL 4 Y 663 (lwL j) [] M := by
  have hj5 : j < 512 := by omega
  refine PW.aload_n (pc := 663) dL_law_663 rfl ?_
  refine PW.aload_n (pc := 664) dL_law_664 rfl ?_
  refine PW.iload_n (pc := 665) dL_law_665 rfl ?_
  refine PW.iconst (pc := 666) (v := nI 1) dL_law_666 (by decide) ?_
  refine PW.iadd (pc := 667) dL_law_667 ?_
  refine PW.sld (pc := 668) (j := 7 * j + 1) hX (nI_add _ _) (by omega) (by omega) dL_law_668 ?_
  refine cs_L_70 (pc := 669) hR (c_X6_fits (hB := hI.hB)) ⟨Nat.le_of_ble_eq_true rfl, Nat.le_of_ble_eq_true rfl⟩ dL_law_669 (Nat.le_of_ble_eq_true rfl) (fun x1 u1 p1 => ?_)
  have em : eM M u1 := eM.r p1.2
  obtain ⟨m6, m18, mB, mC, -⟩ := hI.md em
  refine PW.aload_n (pc := 672) dL_law_672 rfl ?_
  refine PW.aload_n (pc := 673) dL_law_673 rfl ?_
  refine PW.iload_n (pc := 674) dL_law_674 rfl ?_
  refine PW.iconst (pc := 675) (v := nI 1) dL_law_675 (by decide) ?_
  refine PW.iadd (pc := 676) dL_law_676 ?_
  refine PW.sld (pc := 677) (j := 7 * j + 1) hX (nI_add _ _) (by omega) (by omega) dL_law_677 ?_
  refine cs_L_73 (pc := 678) hR (c_X7_fits (hB := mB)) ⟨Nat.le_of_ble_eq_true rfl, Nat.le_of_ble_eq_true rfl⟩ dL_law_678 (Nat.le_of_ble_eq_true rfl) (fun x2 u2 p2 => ?_)
  obtain ⟨e, n', k', hN⟩ := q_fits hI hj5 p1 p2
  exact PW.icmp_eq (pc := 681) (tgt := 1172) dL_law_681 (by decide) (fun _ => nx n' k' u2 hN) (fun c => absurd e c)
set_option maxHeartbeats 4000000 in
set_option maxRecDepth 20000 in
theorem s_best {Y : xY} {Ln j n k : Nat} {xs : Nat → Int32} {M : xM} (hX : xScr Ln xs Y) (hR : xRm Y 9 342) (hL : Ln ≤ 3584) (hj : 7 * j + 7 ≤ Ln) (hI : CI j n k M) (nx : ∀ n' k' u, CI (j + 1) n' k' u → PW cL_law RL 4 Y 1172 (lwL j) [] u) : PW cL_law RL 4 Y 686 (lwL j) [] M := by
  have hj5 : j < 512 := by omega
  refine PW.aload_n (pc := 686) dL_law_686 rfl ?_
  refine cs_L_74 (pc := 687) hR (c_X6_best (hB := hI.hB)) ⟨Nat.le_of_ble_eq_true rfl, Nat.le_of_ble_eq_true rfl⟩ dL_law_687 (Nat.le_of_ble_eq_true rfl) (fun x1 u1 p1 => ?_)
  have em : eM M u1 := eM.r p1.2
  obtain ⟨m6, m18, mB, mC, -⟩ := hI.md em
  refine PW.aload_n (pc := 690) dL_law_690 rfl ?_
  refine cs_L_78 (pc := 691) hR (c_X7_best (hB := mB)) ⟨Nat.le_of_ble_eq_true rfl, Nat.le_of_ble_eq_true rfl⟩ dL_law_691 (Nat.le_of_ble_eq_true rfl) (fun x2 u2 p2 => ?_)
  obtain ⟨e, n', k', hN⟩ := q_best hI hj5 p1 p2
  exact PW.icmp_eq (pc := 694) (tgt := 1172) dL_law_694 (by decide) (fun _ => nx n' k' u2 hN) (fun c => absurd e c)
set_option maxHeartbeats 4000000 in
set_option maxRecDepth 20000 in
theorem s_dearest {Y : xY} {Ln j n k : Nat} {xs : Nat → Int32} {M : xM} (hX : xScr Ln xs Y) (hR : xRm Y 9 342) (hL : Ln ≤ 3584) (hj : 7 * j + 7 ≤ Ln) (hI : CI j n k M) (nx : ∀ n' k' u, CI (j + 1) n' k' u → PW cL_law RL 4 Y 1172 (lwL j) [] u) : PW cL_law RL 4 Y 699 (lwL j) [] M := by
  have hj5 : j < 512 := by omega
  refine PW.aload_n (pc := 699) dL_law_699 rfl ?_
  refine cs_L_79 (pc := 700) hR (c_X6_dearest (hB := hI.hB)) ⟨Nat.le_of_ble_eq_true rfl, Nat.le_of_ble_eq_true rfl⟩ dL_law_700 (Nat.le_of_ble_eq_true rfl) (fun x1 u1 p1 => ?_)
  have em : eM M u1 := eM.r p1.2
  obtain ⟨m6, m18, mB, mC, -⟩ := hI.md em
  refine PW.aload_n (pc := 703) dL_law_703 rfl ?_
  refine cs_L_82 (pc := 704) hR (c_X7_dearest (hB := mB)) ⟨Nat.le_of_ble_eq_true rfl, Nat.le_of_ble_eq_true rfl⟩ dL_law_704 (Nat.le_of_ble_eq_true rfl) (fun x2 u2 p2 => ?_)
  obtain ⟨e, n', k', hN⟩ := q_dearest hI hj5 p1 p2
  exact PW.icmp_eq (pc := 707) (tgt := 1172) dL_law_707 (by decide) (fun _ => nx n' k' u2 hN) (fun c => absurd e c)
set_option maxHeartbeats 4000000 in
set_option maxRecDepth 20000 in
theorem s_hired {Y : xY} {Ln j n k : Nat} {xs : Nat → Int32} {M : xM} (hX : xScr Ln xs Y) (hR : xRm Y 9 342) (hL : Ln ≤ 3584) (hj : 7 * j + 7 ≤ Ln) (hI : CI j n k M) (nx : ∀ n' k' u, CI (j + 1) n' k' u → PW cL_law RL 4 Y 1172 (lwL j) [] u) : PW cL_law RL 4 Y 712 (lwL j) [] M := by
  have hj5 : j < 512 := by omega
  refine PW.aload_n (pc := 712) dL_law_712 rfl ?_
  refine PW.aload_n (pc := 713) dL_law_713 rfl ?_
  refine PW.iload_n (pc := 714) dL_law_714 rfl ?_
  refine PW.iconst (pc := 715) (v := nI 1) dL_law_715 (by decide) ?_
  refine PW.iadd (pc := 716) dL_law_716 ?_
  refine PW.sld (pc := 717) (j := 7 * j + 1) hX (nI_add _ _) (by omega) (by omega) dL_law_717 ?_
  refine cs_L_83 (pc := 718) hR (c_X6_hired (hB := hI.hB)) ⟨Nat.le_of_ble_eq_true rfl, Nat.le_of_ble_eq_true rfl⟩ dL_law_718 (Nat.le_of_ble_eq_true rfl) (fun x1 u1 p1 => ?_)
  have em : eM M u1 := eM.r p1.2
  obtain ⟨m6, m18, mB, mC, -⟩ := hI.md em
  refine PW.aload_n (pc := 721) dL_law_721 rfl ?_
  refine PW.aload_n (pc := 722) dL_law_722 rfl ?_
  refine PW.iload_n (pc := 723) dL_law_723 rfl ?_
  refine PW.iconst (pc := 724) (v := nI 1) dL_law_724 (by decide) ?_
  refine PW.iadd (pc := 725) dL_law_725 ?_
  refine PW.sld (pc := 726) (j := 7 * j + 1) hX (nI_add _ _) (by omega) (by omega) dL_law_726 ?_
  refine cs_L_87 (pc := 727) hR (c_X7_hired (hB := mB)) ⟨Nat.le_of_ble_eq_true rfl, Nat.le_of_ble_eq_true rfl⟩ dL_law_727 (Nat.le_of_ble_eq_true rfl) (fun x2 u2 p2 => ?_)
  obtain ⟨e, n', k', hN⟩ := q_hired hI hj5 p1 p2
  refine PW.lcmp (pc := 730) dL_law_730 ?_
  exact PW.if_eq (pc := 731) (tgt := 1172) dL_law_731 (by decide) (fun _ => nx n' k' u2 hN) (fun c => absurd (lg_cmp_rf e) c)
set_option maxHeartbeats 4000000 in
set_option maxRecDepth 20000 in
theorem s_fewest {Y : xY} {Ln j n k : Nat} {xs : Nat → Int32} {M : xM} (hX : xScr Ln xs Y) (hR : xRm Y 9 342) (hL : Ln ≤ 3584) (hj : 7 * j + 7 ≤ Ln) (hI : CI j n k M) (nx : ∀ n' k' u, CI (j + 1) n' k' u → PW cL_law RL 4 Y 1172 (lwL j) [] u) : PW cL_law RL 4 Y 736 (lwL j) [] M := by
  have hj5 : j < 512 := by omega
  refine PW.aload_n (pc := 736) dL_law_736 rfl ?_
  refine cs_L_88 (pc := 737) hR (c_X6_fewest (hB := hI.hB)) ⟨Nat.le_of_ble_eq_true rfl, Nat.le_of_ble_eq_true rfl⟩ dL_law_737 (Nat.le_of_ble_eq_true rfl) (fun x1 u1 p1 => ?_)
  have em : eM M u1 := eM.r p1.2
  obtain ⟨m6, m18, mB, mC, -⟩ := hI.md em
  refine PW.aload_n (pc := 740) dL_law_740 rfl ?_
  refine cs_L_91 (pc := 741) hR (c_X7_fewest (hB := mB)) ⟨Nat.le_of_ble_eq_true rfl, Nat.le_of_ble_eq_true rfl⟩ dL_law_741 (Nat.le_of_ble_eq_true rfl) (fun x2 u2 p2 => ?_)
  obtain ⟨e, n', k', hN⟩ := q_fewest hI hj5 p1 p2
  exact PW.icmp_eq (pc := 744) (tgt := 1172) dL_law_744 (by decide) (fun _ => nx n' k' u2 hN) (fun c => absurd e c)
set_option maxHeartbeats 4000000 in
set_option maxRecDepth 20000 in
theorem s_bays {Y : xY} {Ln j n k : Nat} {xs : Nat → Int32} {M : xM} (hX : xScr Ln xs Y) (hR : xRm Y 9 342) (hL : Ln ≤ 3584) (hj : 7 * j + 7 ≤ Ln) (hI : CI j n k M) (nx : ∀ n' k' u, CI (j + 1) n' k' u → PW cL_law RL 4 Y 1172 (lwL j) [] u) : PW cL_law RL 4 Y 749 (lwL j) [] M := by
  have hj5 : j < 512 := by omega
  refine PW.aload_n (pc := 749) dL_law_749 rfl ?_
  refine PW.aload_n (pc := 750) dL_law_750 rfl ?_
  refine PW.iload_n (pc := 751) dL_law_751 rfl ?_
  refine PW.iconst (pc := 752) (v := nI 1) dL_law_752 (by decide) ?_
  refine PW.iadd (pc := 753) dL_law_753 ?_
  refine PW.sld (pc := 754) (j := 7 * j + 1) hX (nI_add _ _) (by omega) (by omega) dL_law_754 ?_
  refine PW.aload_n (pc := 755) dL_law_755 rfl ?_
  refine PW.iload_n (pc := 756) dL_law_756 rfl ?_
  refine PW.iconst (pc := 757) (v := nI 2) dL_law_757 (by decide) ?_
  refine PW.iadd (pc := 758) dL_law_758 ?_
  refine PW.sld (pc := 759) (j := 7 * j + 2) hX (nI_add _ _) (by omega) (by omega) dL_law_759 ?_
  refine cs_L_92 (pc := 760) hR (c_X6_bays ) ⟨Nat.le_of_ble_eq_true rfl, Nat.le_of_ble_eq_true rfl⟩ dL_law_760 (Nat.le_of_ble_eq_true rfl) (fun x1 u1 p1 => ?_)
  refine PW.aload_n (pc := 763) dL_law_763 rfl ?_
  refine PW.aload_n (pc := 764) dL_law_764 rfl ?_
  refine PW.iload_n (pc := 765) dL_law_765 rfl ?_
  refine PW.iconst (pc := 766) (v := nI 1) dL_law_766 (by decide) ?_
  refine PW.iadd (pc := 767) dL_law_767 ?_
  refine PW.sld (pc := 768) (j := 7 * j + 1) hX (nI_add _ _) (by omega) (by omega) dL_law_768 ?_
  refine PW.aload_n (pc := 769) dL_law_769 rfl ?_
  refine PW.iload_n (pc := 770) dL_law_770 rfl ?_
  refine PW.iconst (pc := 771) (v := nI 2) dL_law_771 (by decide) ?_
  refine PW.iadd (pc := 772) dL_law_772 ?_
  refine PW.sld (pc := 773) (j := 7 * j + 2) hX (nI_add _ _) (by omega) (by omega) dL_law_773 ?_
  refine cs_L_95 (pc := 774) hR (c_X7_bays ) ⟨Nat.le_of_ble_eq_true rfl, Nat.le_of_ble_eq_true rfl⟩ dL_law_774 (Nat.le_of_ble_eq_true rfl) (fun x2 u2 p2 => ?_)
  obtain ⟨e, n', k', hN⟩ := q_bays hI hj5 p1 p2
  exact PW.icmp_eq (pc := 777) (tgt := 1172) dL_law_777 (by decide) (fun _ => nx n' k' u2 hN) (fun c => absurd e c)
set_option maxHeartbeats 4000000 in
set_option maxRecDepth 20000 in
theorem s_law {Y : xY} {Ln j n k : Nat} {xs : Nat → Int32} {M : xM} (hX : xScr Ln xs Y) (hR : xRm Y 9 342) (hL : Ln ≤ 3584) (hj : 7 * j + 7 ≤ Ln) (hI : CI j n k M) (nx : ∀ n' k' u, CI (j + 1) n' k' u → PW cL_law RL 4 Y 1172 (lwL j) [] u) : PW cL_law RL 4 Y 782 (lwL j) [] M := by
  have hj5 : j < 512 := by omega
  refine PW.aload_n (pc := 782) dL_law_782 rfl ?_
  refine PW.aload_n (pc := 783) dL_law_783 rfl ?_
  refine PW.iload_n (pc := 784) dL_law_784 rfl ?_
  refine PW.iconst (pc := 785) (v := nI 1) dL_law_785 (by decide) ?_
  refine PW.iadd (pc := 786) dL_law_786 ?_
  refine PW.sld (pc := 787) (j := 7 * j + 1) hX (nI_add _ _) (by omega) (by omega) dL_law_787 ?_
  refine PW.aload_n (pc := 788) dL_law_788 rfl ?_
  refine PW.iload_n (pc := 789) dL_law_789 rfl ?_
  refine PW.iconst (pc := 790) (v := nI 2) dL_law_790 (by decide) ?_
  refine PW.iadd (pc := 791) dL_law_791 ?_
  refine PW.sld (pc := 792) (j := 7 * j + 2) hX (nI_add _ _) (by omega) (by omega) dL_law_792 ?_
  refine cs_L_96 (pc := 793) hR (c_X6_law (hn := hI.k22) (h6 := hI.k6)) ⟨Nat.le_of_ble_eq_true rfl, Nat.le_of_ble_eq_true rfl⟩ dL_law_793 (Nat.le_of_ble_eq_true rfl) (fun x1 u1 p1 => ?_)
  have em : eM M u1 := by
    repeat' split at p1
    all_goals first | (rw [p1.2]; exact eM.rf) | (rw [p1.2]; exact (eM.rf).up (by decide)) | (rw [p1.2]; exact ((eM.rf).up (by decide)).up (by decide)) | (rw [p1.2]; exact (((eM.rf).up (by decide)).up (by decide)).up (by decide)) | (rw [p1.2]; exact ((((eM.rf).up (by decide)).up (by decide)).up (by decide)).up (by decide)) | (rw [p1.2]; exact (((((eM.rf).up (by decide)).up (by decide)).up (by decide)).up (by decide)).up (by decide))
  obtain ⟨m6, m18, mB, mC, -⟩ := hI.md em
  refine PW.aload_n (pc := 796) dL_law_796 rfl ?_
  refine PW.aload_n (pc := 797) dL_law_797 rfl ?_
  refine PW.iload_n (pc := 798) dL_law_798 rfl ?_
  refine PW.iconst (pc := 799) (v := nI 1) dL_law_799 (by decide) ?_
  refine PW.iadd (pc := 800) dL_law_800 ?_
  refine PW.sld (pc := 801) (j := 7 * j + 1) hX (nI_add _ _) (by omega) (by omega) dL_law_801 ?_
  refine PW.aload_n (pc := 802) dL_law_802 rfl ?_
  refine PW.iload_n (pc := 803) dL_law_803 rfl ?_
  refine PW.iconst (pc := 804) (v := nI 2) dL_law_804 (by decide) ?_
  refine PW.iadd (pc := 805) dL_law_805 ?_
  refine PW.sld (pc := 806) (j := 7 * j + 2) hX (nI_add _ _) (by omega) (by omega) dL_law_806 ?_
  refine cs_L_99 (pc := 807) hR (c_X7_law (hn := m18) (h6 := hI.k6)) ⟨Nat.le_of_ble_eq_true rfl, Nat.le_of_ble_eq_true rfl⟩ dL_law_807 (Nat.le_of_ble_eq_true rfl) (fun x2 u2 p2 => ?_)
  obtain ⟨e, n', k', hN⟩ := q_law hI hj5 p1 p2
  exact PW.icmp_eq (pc := 810) (tgt := 1172) dL_law_810 (by decide) (fun _ => nx n' k' u2 hN) (fun c => absurd e c)
set_option maxHeartbeats 4000000 in
set_option maxRecDepth 20000 in
theorem s_unlaw {Y : xY} {Ln j n k : Nat} {xs : Nat → Int32} {M : xM} (hX : xScr Ln xs Y) (hR : xRm Y 9 342) (hL : Ln ≤ 3584) (hj : 7 * j + 7 ≤ Ln) (hI : CI j n k M) (nx : ∀ n' k' u, CI (j + 1) n' k' u → PW cL_law RL 4 Y 1172 (lwL j) [] u) : PW cL_law RL 4 Y 815 (lwL j) [] M := by
  have hj5 : j < 512 := by omega
  refine PW.aload_n (pc := 815) dL_law_815 rfl ?_
  refine cs_L_100 (pc := 816) hR (c_X6_unlaw ) ⟨Nat.le_of_ble_eq_true rfl, Nat.le_of_ble_eq_true rfl⟩ dL_law_816 (Nat.le_of_ble_eq_true rfl) (fun x1 u1 p1 => ?_)
  refine PW.aload_n (pc := 819) dL_law_819 rfl ?_
  refine cs_L_103 (pc := 820) hR (c_X7_unlaw ) ⟨Nat.le_of_ble_eq_true rfl, Nat.le_of_ble_eq_true rfl⟩ dL_law_820 (Nat.le_of_ble_eq_true rfl) (fun x2 u2 p2 => ?_)
  obtain ⟨e, n', k', hN⟩ := q_unlaw hI hj5 p1 p2
  exact PW.icmp_eq (pc := 823) (tgt := 1172) dL_law_823 (by decide) (fun _ => nx n' k' u2 hN) (fun c => absurd e c)
set_option maxHeartbeats 4000000 in
set_option maxRecDepth 20000 in
theorem s_doors {Y : xY} {Ln j n k : Nat} {xs : Nat → Int32} {M : xM} (hX : xScr Ln xs Y) (hR : xRm Y 9 342) (hL : Ln ≤ 3584) (hj : 7 * j + 7 ≤ Ln) (hI : CI j n k M) (nx : ∀ n' k' u, CI (j + 1) n' k' u → PW cL_law RL 4 Y 1172 (lwL j) [] u) : PW cL_law RL 4 Y 828 (lwL j) [] M := by
  have hj5 : j < 512 := by omega
  refine PW.aload_n (pc := 828) dL_law_828 rfl ?_
  refine PW.aload_n (pc := 829) dL_law_829 rfl ?_
  refine PW.iload_n (pc := 830) dL_law_830 rfl ?_
  refine PW.iconst (pc := 831) (v := nI 1) dL_law_831 (by decide) ?_
  refine PW.iadd (pc := 832) dL_law_832 ?_
  refine PW.sld (pc := 833) (j := 7 * j + 1) hX (nI_add _ _) (by omega) (by omega) dL_law_833 ?_
  refine cs_L_104 (pc := 834) hR (c_X6_doors (hn := hI.k22) (h6 := hI.k6)) ⟨Nat.le_of_ble_eq_true rfl, Nat.le_of_ble_eq_true rfl⟩ dL_law_834 (Nat.le_of_ble_eq_true rfl) (fun x1 u1 p1 => ?_)
  have em : eM M u1 := by rw [p1.2]; exact eM.rf
  obtain ⟨m6, m18, mB, mC, -⟩ := hI.md em
  refine PW.aload_n (pc := 837) dL_law_837 rfl ?_
  refine PW.aload_n (pc := 838) dL_law_838 rfl ?_
  refine PW.iload_n (pc := 839) dL_law_839 rfl ?_
  refine PW.iconst (pc := 840) (v := nI 1) dL_law_840 (by decide) ?_
  refine PW.iadd (pc := 841) dL_law_841 ?_
  refine PW.sld (pc := 842) (j := 7 * j + 1) hX (nI_add _ _) (by omega) (by omega) dL_law_842 ?_
  refine cs_L_107 (pc := 843) hR (c_X7_doors (hn := m18) (h6 := hI.k6)) ⟨Nat.le_of_ble_eq_true rfl, Nat.le_of_ble_eq_true rfl⟩ dL_law_843 (Nat.le_of_ble_eq_true rfl) (fun x2 u2 p2 => ?_)
  obtain ⟨e, n', k', hN⟩ := q_doors hI hj5 p1 p2
  exact PW.icmp_eq (pc := 846) (tgt := 1172) dL_law_846 (by decide) (fun _ => nx n' k' u2 hN) (fun c => absurd e c)
set_option maxHeartbeats 4000000 in
set_option maxRecDepth 20000 in
theorem s_keeps {Y : xY} {Ln j n k : Nat} {xs : Nat → Int32} {M : xM} (hX : xScr Ln xs Y) (hR : xRm Y 9 342) (hL : Ln ≤ 3584) (hj : 7 * j + 7 ≤ Ln) (hI : CI j n k M) (nx : ∀ n' k' u, CI (j + 1) n' k' u → PW cL_law RL 4 Y 1172 (lwL j) [] u) : PW cL_law RL 4 Y 851 (lwL j) [] M := by
  have hj5 : j < 512 := by omega
  refine PW.aload_n (pc := 851) dL_law_851 rfl ?_
  refine PW.aload_n (pc := 852) dL_law_852 rfl ?_
  refine PW.iload_n (pc := 853) dL_law_853 rfl ?_
  refine PW.iconst (pc := 854) (v := nI 1) dL_law_854 (by decide) ?_
  refine PW.iadd (pc := 855) dL_law_855 ?_
  refine PW.sld (pc := 856) (j := 7 * j + 1) hX (nI_add _ _) (by omega) (by omega) dL_law_856 ?_
  refine PW.aload_n (pc := 857) dL_law_857 rfl ?_
  refine PW.iload_n (pc := 858) dL_law_858 rfl ?_
  refine PW.iconst (pc := 859) (v := nI 2) dL_law_859 (by decide) ?_
  refine PW.iadd (pc := 860) dL_law_860 ?_
  refine PW.sld (pc := 861) (j := 7 * j + 2) hX (nI_add _ _) (by omega) (by omega) dL_law_861 ?_
  refine cs_L_108 (pc := 862) hR (c_X6_keeps (hn := hI.k22) (h6 := hI.k6)) ⟨Nat.le_of_ble_eq_true rfl, Nat.le_of_ble_eq_true rfl⟩ dL_law_862 (Nat.le_of_ble_eq_true rfl) (fun x1 u1 p1 => ?_)
  have em : eM M u1 := by rw [p1.2]; exact eM.rf
  obtain ⟨m6, m18, mB, mC, -⟩ := hI.md em
  refine PW.aload_n (pc := 865) dL_law_865 rfl ?_
  refine PW.aload_n (pc := 866) dL_law_866 rfl ?_
  refine PW.iload_n (pc := 867) dL_law_867 rfl ?_
  refine PW.iconst (pc := 868) (v := nI 1) dL_law_868 (by decide) ?_
  refine PW.iadd (pc := 869) dL_law_869 ?_
  refine PW.sld (pc := 870) (j := 7 * j + 1) hX (nI_add _ _) (by omega) (by omega) dL_law_870 ?_
  refine PW.aload_n (pc := 871) dL_law_871 rfl ?_
  refine PW.iload_n (pc := 872) dL_law_872 rfl ?_
  refine PW.iconst (pc := 873) (v := nI 2) dL_law_873 (by decide) ?_
  refine PW.iadd (pc := 874) dL_law_874 ?_
  refine PW.sld (pc := 875) (j := 7 * j + 2) hX (nI_add _ _) (by omega) (by omega) dL_law_875 ?_
  refine cs_L_111 (pc := 876) hR (c_X7_keeps (hn := m18) (h6 := hI.k6)) ⟨Nat.le_of_ble_eq_true rfl, Nat.le_of_ble_eq_true rfl⟩ dL_law_876 (Nat.le_of_ble_eq_true rfl) (fun x2 u2 p2 => ?_)
  obtain ⟨e, n', k', hN⟩ := q_keeps hI hj5 p1 p2
  exact PW.icmp_eq (pc := 879) (tgt := 1172) dL_law_879 (by decide) (fun _ => nx n' k' u2 hN) (fun c => absurd e c)
set_option maxHeartbeats 4000000 in
set_option maxRecDepth 20000 in
theorem s_soil {Y : xY} {Ln j n k : Nat} {xs : Nat → Int32} {M : xM} (hX : xScr Ln xs Y) (hR : xRm Y 9 342) (hL : Ln ≤ 3584) (hj : 7 * j + 7 ≤ Ln) (hI : CI j n k M) (nx : ∀ n' k' u, CI (j + 1) n' k' u → PW cL_law RL 4 Y 1172 (lwL j) [] u) : PW cL_law RL 4 Y 884 (lwL j) [] M := by
  have hj5 : j < 512 := by omega
  refine PW.aload_n (pc := 884) dL_law_884 rfl ?_
  refine PW.aload_n (pc := 885) dL_law_885 rfl ?_
  refine PW.iload_n (pc := 886) dL_law_886 rfl ?_
  refine PW.iconst (pc := 887) (v := nI 1) dL_law_887 (by decide) ?_
  refine PW.iadd (pc := 888) dL_law_888 ?_
  refine PW.sld (pc := 889) (j := 7 * j + 1) hX (nI_add _ _) (by omega) (by omega) dL_law_889 ?_
  refine PW.aload_n (pc := 890) dL_law_890 rfl ?_
  refine PW.iload_n (pc := 891) dL_law_891 rfl ?_
  refine PW.iconst (pc := 892) (v := nI 2) dL_law_892 (by decide) ?_
  refine PW.iadd (pc := 893) dL_law_893 ?_
  refine PW.sld (pc := 894) (j := 7 * j + 2) hX (nI_add _ _) (by omega) (by omega) dL_law_894 ?_
  refine cs_L_112 (pc := 895) hR (c_X6_soil ) ⟨Nat.le_of_ble_eq_true rfl, Nat.le_of_ble_eq_true rfl⟩ dL_law_895 (Nat.le_of_ble_eq_true rfl) (fun x1 u1 p1 => ?_)
  refine PW.aload_n (pc := 898) dL_law_898 rfl ?_
  refine PW.aload_n (pc := 899) dL_law_899 rfl ?_
  refine PW.iload_n (pc := 900) dL_law_900 rfl ?_
  refine PW.iconst (pc := 901) (v := nI 1) dL_law_901 (by decide) ?_
  refine PW.iadd (pc := 902) dL_law_902 ?_
  refine PW.sld (pc := 903) (j := 7 * j + 1) hX (nI_add _ _) (by omega) (by omega) dL_law_903 ?_
  refine PW.aload_n (pc := 904) dL_law_904 rfl ?_
  refine PW.iload_n (pc := 905) dL_law_905 rfl ?_
  refine PW.iconst (pc := 906) (v := nI 2) dL_law_906 (by decide) ?_
  refine PW.iadd (pc := 907) dL_law_907 ?_
  refine PW.sld (pc := 908) (j := 7 * j + 2) hX (nI_add _ _) (by omega) (by omega) dL_law_908 ?_
  refine cs_L_115 (pc := 909) hR (c_X7_soil ) ⟨Nat.le_of_ble_eq_true rfl, Nat.le_of_ble_eq_true rfl⟩ dL_law_909 (Nat.le_of_ble_eq_true rfl) (fun x2 u2 p2 => ?_)
  obtain ⟨e, n', k', hN⟩ := q_soil hI hj5 p1 p2
  exact PW.icmp_eq (pc := 912) (tgt := 1172) dL_law_912 (by decide) (fun _ => nx n' k' u2 hN) (fun c => absurd e c)
set_option maxHeartbeats 4000000 in
set_option maxRecDepth 20000 in
theorem s_pitch {Y : xY} {Ln j n k : Nat} {xs : Nat → Int32} {M : xM} (hX : xScr Ln xs Y) (hR : xRm Y 9 342) (hL : Ln ≤ 3584) (hj : 7 * j + 7 ≤ Ln) (hI : CI j n k M) (nx : ∀ n' k' u, CI (j + 1) n' k' u → PW cL_law RL 4 Y 1172 (lwL j) [] u) : PW cL_law RL 4 Y 917 (lwL j) [] M := by
  have hj5 : j < 512 := by omega
  refine PW.aload_n (pc := 917) dL_law_917 rfl ?_
  refine PW.aload_n (pc := 918) dL_law_918 rfl ?_
  refine PW.iload_n (pc := 919) dL_law_919 rfl ?_
  refine PW.iconst (pc := 920) (v := nI 1) dL_law_920 (by decide) ?_
  refine PW.iadd (pc := 921) dL_law_921 ?_
  refine PW.sld (pc := 922) (j := 7 * j + 1) hX (nI_add _ _) (by omega) (by omega) dL_law_922 ?_
  refine PW.aload_n (pc := 923) dL_law_923 rfl ?_
  refine PW.iload_n (pc := 924) dL_law_924 rfl ?_
  refine PW.iconst (pc := 925) (v := nI 2) dL_law_925 (by decide) ?_
  refine PW.iadd (pc := 926) dL_law_926 ?_
  refine PW.sld (pc := 927) (j := 7 * j + 2) hX (nI_add _ _) (by omega) (by omega) dL_law_927 ?_
  refine PW.aload_n (pc := 928) dL_law_928 rfl ?_
  refine PW.iload_n (pc := 929) dL_law_929 rfl ?_
  refine PW.iconst (pc := 930) (v := nI 3) dL_law_930 (by decide) ?_
  refine PW.iadd (pc := 931) dL_law_931 ?_
  refine PW.sld (pc := 932) (j := 7 * j + 3) hX (nI_add _ _) (by omega) (by omega) dL_law_932 ?_
  refine PW.aload_n (pc := 933) dL_law_933 rfl ?_
  refine PW.iload_n (pc := 934) dL_law_934 rfl ?_
  refine PW.iconst (pc := 935) (v := nI 4) dL_law_935 (by decide) ?_
  refine PW.iadd (pc := 936) dL_law_936 ?_
  refine PW.sld (pc := 937) (j := 7 * j + 4) hX (nI_add _ _) (by omega) (by omega) dL_law_937 ?_
  refine cs_L_116 (pc := 938) hR (c_X6_pitch (hn := hI.n8) (h10 := hI.n10)) ⟨Nat.le_of_ble_eq_true rfl, Nat.le_of_ble_eq_true rfl⟩ dL_law_938 (Nat.le_of_ble_eq_true rfl) (fun x1 u1 p1 => ?_)
  have em : eM M u1 := by
    repeat' split at p1
    all_goals first | (rw [p1.2]; exact eM.rf) | (rw [p1.2]; exact (eM.rf).up (by decide)) | (rw [p1.2]; exact ((eM.rf).up (by decide)).up (by decide)) | (rw [p1.2]; exact (((eM.rf).up (by decide)).up (by decide)).up (by decide)) | (rw [p1.2]; exact ((((eM.rf).up (by decide)).up (by decide)).up (by decide)).up (by decide)) | (rw [p1.2]; exact (((((eM.rf).up (by decide)).up (by decide)).up (by decide)).up (by decide)).up (by decide))
  obtain ⟨m6, m18, mB, mC, -⟩ := hI.md em
  refine PW.aload_n (pc := 941) dL_law_941 rfl ?_
  refine PW.aload_n (pc := 942) dL_law_942 rfl ?_
  refine PW.iload_n (pc := 943) dL_law_943 rfl ?_
  refine PW.iconst (pc := 944) (v := nI 1) dL_law_944 (by decide) ?_
  refine PW.iadd (pc := 945) dL_law_945 ?_
  refine PW.sld (pc := 946) (j := 7 * j + 1) hX (nI_add _ _) (by omega) (by omega) dL_law_946 ?_
  refine PW.aload_n (pc := 947) dL_law_947 rfl ?_
  refine PW.iload_n (pc := 948) dL_law_948 rfl ?_
  refine PW.iconst (pc := 949) (v := nI 2) dL_law_949 (by decide) ?_
  refine PW.iadd (pc := 950) dL_law_950 ?_
  refine PW.sld (pc := 951) (j := 7 * j + 2) hX (nI_add _ _) (by omega) (by omega) dL_law_951 ?_
  refine PW.aload_n (pc := 952) dL_law_952 rfl ?_
  refine PW.iload_n (pc := 953) dL_law_953 rfl ?_
  refine PW.iconst (pc := 954) (v := nI 3) dL_law_954 (by decide) ?_
  refine PW.iadd (pc := 955) dL_law_955 ?_
  refine PW.sld (pc := 956) (j := 7 * j + 3) hX (nI_add _ _) (by omega) (by omega) dL_law_956 ?_
  refine PW.aload_n (pc := 957) dL_law_957 rfl ?_
  refine PW.iload_n (pc := 958) dL_law_958 rfl ?_
  refine PW.iconst (pc := 959) (v := nI 4) dL_law_959 (by decide) ?_
  refine PW.iadd (pc := 960) dL_law_960 ?_
  refine PW.sld (pc := 961) (j := 7 * j + 4) hX (nI_add _ _) (by omega) (by omega) dL_law_961 ?_
  refine cs_L_120 (pc := 962) hR (c_X7_pitch (hn := m6) (h10 := hI.n10)) ⟨Nat.le_of_ble_eq_true rfl, Nat.le_of_ble_eq_true rfl⟩ dL_law_962 (Nat.le_of_ble_eq_true rfl) (fun x2 u2 p2 => ?_)
  obtain ⟨e, n', k', hN⟩ := q_pitch hI hj5 p1 p2
  exact PW.icmp_eq (pc := 965) (tgt := 1172) dL_law_965 (by decide) (fun _ => nx n' k' u2 hN) (fun c => absurd e c)
set_option maxHeartbeats 4000000 in
set_option maxRecDepth 20000 in
theorem s_bears {Y : xY} {Ln j n k : Nat} {xs : Nat → Int32} {M : xM} (hX : xScr Ln xs Y) (hR : xRm Y 9 342) (hL : Ln ≤ 3584) (hj : 7 * j + 7 ≤ Ln) (hI : CI j n k M) (nx : ∀ n' k' u, CI (j + 1) n' k' u → PW cL_law RL 4 Y 1172 (lwL j) [] u) : PW cL_law RL 4 Y 970 (lwL j) [] M := by
  have hj5 : j < 512 := by omega
  refine PW.aload_n (pc := 970) dL_law_970 rfl ?_
  refine PW.aload_n (pc := 971) dL_law_971 rfl ?_
  refine PW.iload_n (pc := 972) dL_law_972 rfl ?_
  refine PW.iconst (pc := 973) (v := nI 1) dL_law_973 (by decide) ?_
  refine PW.iadd (pc := 974) dL_law_974 ?_
  refine PW.sld (pc := 975) (j := 7 * j + 1) hX (nI_add _ _) (by omega) (by omega) dL_law_975 ?_
  refine cs_L_121 (pc := 976) hR (c_X6_bears (hn := hI.n8) (h10 := hI.n10) (hC := hI.hC)) ⟨Nat.le_of_ble_eq_true rfl, Nat.le_of_ble_eq_true rfl⟩ dL_law_976 (Nat.le_of_ble_eq_true rfl) (fun x1 u1 p1 => ?_)
  have em : eM M u1 := by rw [p1.2]; exact eM.rf
  obtain ⟨m6, m18, mB, mC, -⟩ := hI.md em
  refine PW.aload_n (pc := 979) dL_law_979 rfl ?_
  refine PW.aload_n (pc := 980) dL_law_980 rfl ?_
  refine PW.iload_n (pc := 981) dL_law_981 rfl ?_
  refine PW.iconst (pc := 982) (v := nI 1) dL_law_982 (by decide) ?_
  refine PW.iadd (pc := 983) dL_law_983 ?_
  refine PW.sld (pc := 984) (j := 7 * j + 1) hX (nI_add _ _) (by omega) (by omega) dL_law_984 ?_
  refine cs_L_124 (pc := 985) hR (c_X7_bears (hn := m6) (h10 := hI.n10) (hC := mC)) ⟨Nat.le_of_ble_eq_true rfl, Nat.le_of_ble_eq_true rfl⟩ dL_law_985 (Nat.le_of_ble_eq_true rfl) (fun x2 u2 p2 => ?_)
  obtain ⟨e, n', k', hN⟩ := q_bears hI hj5 p1 p2
  exact PW.icmp_eq (pc := 988) (tgt := 1172) dL_law_988 (by decide) (fun _ => nx n' k' u2 hN) (fun c => absurd e c)
set_option maxHeartbeats 4000000 in
set_option maxRecDepth 20000 in
theorem s_gust {Y : xY} {Ln j n k : Nat} {xs : Nat → Int32} {M : xM} (hX : xScr Ln xs Y) (hR : xRm Y 9 342) (hL : Ln ≤ 3584) (hj : 7 * j + 7 ≤ Ln) (hI : CI j n k M) (nx : ∀ n' k' u, CI (j + 1) n' k' u → PW cL_law RL 4 Y 1172 (lwL j) [] u) : PW cL_law RL 4 Y 993 (lwL j) [] M := by
  have hj5 : j < 512 := by omega
  refine PW.aload_n (pc := 993) dL_law_993 rfl ?_
  refine PW.aload_n (pc := 994) dL_law_994 rfl ?_
  refine PW.iload_n (pc := 995) dL_law_995 rfl ?_
  refine PW.iconst (pc := 996) (v := nI 1) dL_law_996 (by decide) ?_
  refine PW.iadd (pc := 997) dL_law_997 ?_
  refine PW.sld (pc := 998) (j := 7 * j + 1) hX (nI_add _ _) (by omega) (by omega) dL_law_998 ?_
  refine PW.aload_n (pc := 999) dL_law_999 rfl ?_
  refine PW.iload_n (pc := 1000) dL_law_1000 rfl ?_
  refine PW.iconst (pc := 1001) (v := nI 2) dL_law_1001 (by decide) ?_
  refine PW.iadd (pc := 1002) dL_law_1002 ?_
  refine PW.sld (pc := 1003) (j := 7 * j + 2) hX (nI_add _ _) (by omega) (by omega) dL_law_1003 ?_
  refine cs_L_125 (pc := 1004) hR (c_X6_gust (hn := hI.n8) (h10 := hI.n10) (hC := hI.hC)) ⟨Nat.le_of_ble_eq_true rfl, Nat.le_of_ble_eq_true rfl⟩ dL_law_1004 (Nat.le_of_ble_eq_true rfl) (fun x1 u1 p1 => ?_)
  have em : eM M u1 := by rw [p1.2]; exact eM.rf
  obtain ⟨m6, m18, mB, mC, -⟩ := hI.md em
  refine PW.aload_n (pc := 1007) dL_law_1007 rfl ?_
  refine PW.aload_n (pc := 1008) dL_law_1008 rfl ?_
  refine PW.iload_n (pc := 1009) dL_law_1009 rfl ?_
  refine PW.iconst (pc := 1010) (v := nI 1) dL_law_1010 (by decide) ?_
  refine PW.iadd (pc := 1011) dL_law_1011 ?_
  refine PW.sld (pc := 1012) (j := 7 * j + 1) hX (nI_add _ _) (by omega) (by omega) dL_law_1012 ?_
  refine PW.aload_n (pc := 1013) dL_law_1013 rfl ?_
  refine PW.iload_n (pc := 1014) dL_law_1014 rfl ?_
  refine PW.iconst (pc := 1015) (v := nI 2) dL_law_1015 (by decide) ?_
  refine PW.iadd (pc := 1016) dL_law_1016 ?_
  refine PW.sld (pc := 1017) (j := 7 * j + 2) hX (nI_add _ _) (by omega) (by omega) dL_law_1017 ?_
  refine cs_L_128 (pc := 1018) hR (c_X7_gust (hn := m6) (h10 := hI.n10) (hC := mC)) ⟨Nat.le_of_ble_eq_true rfl, Nat.le_of_ble_eq_true rfl⟩ dL_law_1018 (Nat.le_of_ble_eq_true rfl) (fun x2 u2 p2 => ?_)
  obtain ⟨e, n', k', hN⟩ := q_gust hI hj5 p1 p2
  exact PW.icmp_eq (pc := 1021) (tgt := 1172) dL_law_1021 (by decide) (fun _ => nx n' k' u2 hN) (fun c => absurd e c)
set_option maxHeartbeats 4000000 in
set_option maxRecDepth 20000 in
theorem s_hours {Y : xY} {Ln j n k : Nat} {xs : Nat → Int32} {M : xM} (hX : xScr Ln xs Y) (hR : xRm Y 9 342) (hL : Ln ≤ 3584) (hj : 7 * j + 7 ≤ Ln) (hI : CI j n k M) (nx : ∀ n' k' u, CI (j + 1) n' k' u → PW cL_law RL 4 Y 1172 (lwL j) [] u) : PW cL_law RL 4 Y 1026 (lwL j) [] M := by
  have hj5 : j < 512 := by omega
  refine PW.aload_n (pc := 1026) dL_law_1026 rfl ?_
  refine PW.aload_n (pc := 1027) dL_law_1027 rfl ?_
  refine PW.iload_n (pc := 1028) dL_law_1028 rfl ?_
  refine PW.iconst (pc := 1029) (v := nI 1) dL_law_1029 (by decide) ?_
  refine PW.iadd (pc := 1030) dL_law_1030 ?_
  refine PW.sld (pc := 1031) (j := 7 * j + 1) hX (nI_add _ _) (by omega) (by omega) dL_law_1031 ?_
  refine PW.aload_n (pc := 1032) dL_law_1032 rfl ?_
  refine PW.iload_n (pc := 1033) dL_law_1033 rfl ?_
  refine PW.iconst (pc := 1034) (v := nI 2) dL_law_1034 (by decide) ?_
  refine PW.iadd (pc := 1035) dL_law_1035 ?_
  refine PW.sld (pc := 1036) (j := 7 * j + 2) hX (nI_add _ _) (by omega) (by omega) dL_law_1036 ?_
  refine cs_L_129 (pc := 1037) hR (c_X6_hours (hn := hI.n8) (h10 := hI.n10) (hC := hI.hC)) ⟨Nat.le_of_ble_eq_true rfl, Nat.le_of_ble_eq_true rfl⟩ dL_law_1037 (Nat.le_of_ble_eq_true rfl) (fun x1 u1 p1 => ?_)
  have em : eM M u1 := eM.c p1.2
  obtain ⟨m6, m18, mB, mC, -⟩ := hI.md em
  refine PW.aload_n (pc := 1040) dL_law_1040 rfl ?_
  refine PW.aload_n (pc := 1041) dL_law_1041 rfl ?_
  refine PW.iload_n (pc := 1042) dL_law_1042 rfl ?_
  refine PW.iconst (pc := 1043) (v := nI 1) dL_law_1043 (by decide) ?_
  refine PW.iadd (pc := 1044) dL_law_1044 ?_
  refine PW.sld (pc := 1045) (j := 7 * j + 1) hX (nI_add _ _) (by omega) (by omega) dL_law_1045 ?_
  refine PW.aload_n (pc := 1046) dL_law_1046 rfl ?_
  refine PW.iload_n (pc := 1047) dL_law_1047 rfl ?_
  refine PW.iconst (pc := 1048) (v := nI 2) dL_law_1048 (by decide) ?_
  refine PW.iadd (pc := 1049) dL_law_1049 ?_
  refine PW.sld (pc := 1050) (j := 7 * j + 2) hX (nI_add _ _) (by omega) (by omega) dL_law_1050 ?_
  refine cs_L_132 (pc := 1051) hR (c_X7_hours (hn := m6) (h10 := hI.n10) (hC := mC)) ⟨Nat.le_of_ble_eq_true rfl, Nat.le_of_ble_eq_true rfl⟩ dL_law_1051 (Nat.le_of_ble_eq_true rfl) (fun x2 u2 p2 => ?_)
  obtain ⟨e, n', k', hN⟩ := q_hours hI hj5 p1 p2
  exact PW.icmp_eq (pc := 1054) (tgt := 1172) dL_law_1054 (by decide) (fun _ => nx n' k' u2 hN) (fun c => absurd e c)
set_option maxHeartbeats 4000000 in
set_option maxRecDepth 20000 in
theorem s_crew {Y : xY} {Ln j n k : Nat} {xs : Nat → Int32} {M : xM} (hX : xScr Ln xs Y) (hR : xRm Y 9 342) (hL : Ln ≤ 3584) (hj : 7 * j + 7 ≤ Ln) (hI : CI j n k M) (nx : ∀ n' k' u, CI (j + 1) n' k' u → PW cL_law RL 4 Y 1172 (lwL j) [] u) : PW cL_law RL 4 Y 1059 (lwL j) [] M := by
  have hj5 : j < 512 := by omega
  refine PW.aload_n (pc := 1059) dL_law_1059 rfl ?_
  refine PW.aload_n (pc := 1060) dL_law_1060 rfl ?_
  refine PW.iload_n (pc := 1061) dL_law_1061 rfl ?_
  refine PW.iconst (pc := 1062) (v := nI 1) dL_law_1062 (by decide) ?_
  refine PW.iadd (pc := 1063) dL_law_1063 ?_
  refine PW.sld (pc := 1064) (j := 7 * j + 1) hX (nI_add _ _) (by omega) (by omega) dL_law_1064 ?_
  refine PW.aload_n (pc := 1065) dL_law_1065 rfl ?_
  refine PW.iload_n (pc := 1066) dL_law_1066 rfl ?_
  refine PW.iconst (pc := 1067) (v := nI 2) dL_law_1067 (by decide) ?_
  refine PW.iadd (pc := 1068) dL_law_1068 ?_
  refine PW.sld (pc := 1069) (j := 7 * j + 2) hX (nI_add _ _) (by omega) (by omega) dL_law_1069 ?_
  refine PW.aload_n (pc := 1070) dL_law_1070 rfl ?_
  refine PW.iload_n (pc := 1071) dL_law_1071 rfl ?_
  refine PW.iconst (pc := 1072) (v := nI 3) dL_law_1072 (by decide) ?_
  refine PW.iadd (pc := 1073) dL_law_1073 ?_
  refine PW.sld (pc := 1074) (j := 7 * j + 3) hX (nI_add _ _) (by omega) (by omega) dL_law_1074 ?_
  refine cs_L_133 (pc := 1075) hR (c_X6_crew (hn := hI.n8) (h10 := hI.n10) (hC := hI.hC)) ⟨Nat.le_of_ble_eq_true rfl, Nat.le_of_ble_eq_true rfl⟩ dL_law_1075 (Nat.le_of_ble_eq_true rfl) (fun x1 u1 p1 => ?_)
  have em : eM M u1 := eM.c p1.2
  obtain ⟨m6, m18, mB, mC, -⟩ := hI.md em
  refine PW.aload_n (pc := 1078) dL_law_1078 rfl ?_
  refine PW.aload_n (pc := 1079) dL_law_1079 rfl ?_
  refine PW.iload_n (pc := 1080) dL_law_1080 rfl ?_
  refine PW.iconst (pc := 1081) (v := nI 1) dL_law_1081 (by decide) ?_
  refine PW.iadd (pc := 1082) dL_law_1082 ?_
  refine PW.sld (pc := 1083) (j := 7 * j + 1) hX (nI_add _ _) (by omega) (by omega) dL_law_1083 ?_
  refine PW.aload_n (pc := 1084) dL_law_1084 rfl ?_
  refine PW.iload_n (pc := 1085) dL_law_1085 rfl ?_
  refine PW.iconst (pc := 1086) (v := nI 2) dL_law_1086 (by decide) ?_
  refine PW.iadd (pc := 1087) dL_law_1087 ?_
  refine PW.sld (pc := 1088) (j := 7 * j + 2) hX (nI_add _ _) (by omega) (by omega) dL_law_1088 ?_
  refine PW.aload_n (pc := 1089) dL_law_1089 rfl ?_
  refine PW.iload_n (pc := 1090) dL_law_1090 rfl ?_
  refine PW.iconst (pc := 1091) (v := nI 3) dL_law_1091 (by decide) ?_
  refine PW.iadd (pc := 1092) dL_law_1092 ?_
  refine PW.sld (pc := 1093) (j := 7 * j + 3) hX (nI_add _ _) (by omega) (by omega) dL_law_1093 ?_
  refine cs_L_136 (pc := 1094) hR (c_X7_crew (hn := m6) (h10 := hI.n10) (hC := mC)) ⟨Nat.le_of_ble_eq_true rfl, Nat.le_of_ble_eq_true rfl⟩ dL_law_1094 (Nat.le_of_ble_eq_true rfl) (fun x2 u2 p2 => ?_)
  obtain ⟨e, n', k', hN⟩ := q_crew hI hj5 p1 p2
  exact PW.icmp_eq (pc := 1097) (tgt := 1172) dL_law_1097 (by decide) (fun _ => nx n' k' u2 hN) (fun c => absurd e c)
set_option maxHeartbeats 4000000 in
set_option maxRecDepth 20000 in
theorem s_loads {Y : xY} {Ln j n k : Nat} {xs : Nat → Int32} {M : xM} (hX : xScr Ln xs Y) (hR : xRm Y 9 342) (hL : Ln ≤ 3584) (hj : 7 * j + 7 ≤ Ln) (hI : CI j n k M) (nx : ∀ n' k' u, CI (j + 1) n' k' u → PW cL_law RL 4 Y 1172 (lwL j) [] u) : PW cL_law RL 4 Y 1102 (lwL j) [] M := by
  have hj5 : j < 512 := by omega
  refine PW.aload_n (pc := 1102) dL_law_1102 rfl ?_
  refine PW.aload_n (pc := 1103) dL_law_1103 rfl ?_
  refine PW.iload_n (pc := 1104) dL_law_1104 rfl ?_
  refine PW.iconst (pc := 1105) (v := nI 1) dL_law_1105 (by decide) ?_
  refine PW.iadd (pc := 1106) dL_law_1106 ?_
  refine PW.sld (pc := 1107) (j := 7 * j + 1) hX (nI_add _ _) (by omega) (by omega) dL_law_1107 ?_
  refine PW.aload_n (pc := 1108) dL_law_1108 rfl ?_
  refine PW.iload_n (pc := 1109) dL_law_1109 rfl ?_
  refine PW.iconst (pc := 1110) (v := nI 2) dL_law_1110 (by decide) ?_
  refine PW.iadd (pc := 1111) dL_law_1111 ?_
  refine PW.sld (pc := 1112) (j := 7 * j + 2) hX (nI_add _ _) (by omega) (by omega) dL_law_1112 ?_
  refine cs_L_137 (pc := 1113) hR (c_X6_loads (hn := hI.n8) (h10 := hI.n10)) ⟨Nat.le_of_ble_eq_true rfl, Nat.le_of_ble_eq_true rfl⟩ dL_law_1113 (Nat.le_of_ble_eq_true rfl) (fun x1 u1 p1 => ?_)
  have em : eM M u1 := by rw [p1.2]; exact eM.rf
  obtain ⟨m6, m18, mB, mC, -⟩ := hI.md em
  refine PW.aload_n (pc := 1116) dL_law_1116 rfl ?_
  refine PW.aload_n (pc := 1117) dL_law_1117 rfl ?_
  refine PW.iload_n (pc := 1118) dL_law_1118 rfl ?_
  refine PW.iconst (pc := 1119) (v := nI 1) dL_law_1119 (by decide) ?_
  refine PW.iadd (pc := 1120) dL_law_1120 ?_
  refine PW.sld (pc := 1121) (j := 7 * j + 1) hX (nI_add _ _) (by omega) (by omega) dL_law_1121 ?_
  refine PW.aload_n (pc := 1122) dL_law_1122 rfl ?_
  refine PW.iload_n (pc := 1123) dL_law_1123 rfl ?_
  refine PW.iconst (pc := 1124) (v := nI 2) dL_law_1124 (by decide) ?_
  refine PW.iadd (pc := 1125) dL_law_1125 ?_
  refine PW.sld (pc := 1126) (j := 7 * j + 2) hX (nI_add _ _) (by omega) (by omega) dL_law_1126 ?_
  refine cs_L_140 (pc := 1127) hR (c_X7_loads (hn := m6) (h10 := hI.n10)) ⟨Nat.le_of_ble_eq_true rfl, Nat.le_of_ble_eq_true rfl⟩ dL_law_1127 (Nat.le_of_ble_eq_true rfl) (fun x2 u2 p2 => ?_)
  obtain ⟨e, n', k', hN⟩ := q_loads hI hj5 p1 p2
  exact PW.icmp_eq (pc := 1130) (tgt := 1172) dL_law_1130 (by decide) (fun _ => nx n' k' u2 hN) (fun c => absurd e c)
set_option maxHeartbeats 4000000 in
set_option maxRecDepth 20000 in
theorem s_count {Y : xY} {Ln j n k : Nat} {xs : Nat → Int32} {M : xM} (hX : xScr Ln xs Y) (hR : xRm Y 9 342) (hL : Ln ≤ 3584) (hj : 7 * j + 7 ≤ Ln) (hI : CI j n k M) (nx : ∀ n' k' u, CI (j + 1) n' k' u → PW cL_law RL 4 Y 1172 (lwL j) [] u) : PW cL_law RL 4 Y 1135 (lwL j) [] M := by
  have hj5 : j < 512 := by omega
  refine PW.aload_n (pc := 1135) dL_law_1135 rfl ?_
  refine PW.aload_n (pc := 1136) dL_law_1136 rfl ?_
  refine PW.iload_n (pc := 1137) dL_law_1137 rfl ?_
  refine PW.iconst (pc := 1138) (v := nI 1) dL_law_1138 (by decide) ?_
  refine PW.iadd (pc := 1139) dL_law_1139 ?_
  refine PW.sld (pc := 1140) (j := 7 * j + 1) hX (nI_add _ _) (by omega) (by omega) dL_law_1140 ?_
  refine cs_L_141 (pc := 1141) hR (c_X6_count (hn := hI.n8) (h10 := hI.n10)) ⟨Nat.le_of_ble_eq_true rfl, Nat.le_of_ble_eq_true rfl⟩ dL_law_1141 (Nat.le_of_ble_eq_true rfl) (fun x1 u1 p1 => ?_)
  have em : eM M u1 := by rw [p1.2]; exact eM.rf
  obtain ⟨m6, m18, mB, mC, -⟩ := hI.md em
  refine PW.aload_n (pc := 1144) dL_law_1144 rfl ?_
  refine PW.aload_n (pc := 1145) dL_law_1145 rfl ?_
  refine PW.iload_n (pc := 1146) dL_law_1146 rfl ?_
  refine PW.iconst (pc := 1147) (v := nI 1) dL_law_1147 (by decide) ?_
  refine PW.iadd (pc := 1148) dL_law_1148 ?_
  refine PW.sld (pc := 1149) (j := 7 * j + 1) hX (nI_add _ _) (by omega) (by omega) dL_law_1149 ?_
  refine cs_L_144 (pc := 1150) hR (c_X7_count (hn := m6) (h10 := hI.n10)) ⟨Nat.le_of_ble_eq_true rfl, Nat.le_of_ble_eq_true rfl⟩ dL_law_1150 (Nat.le_of_ble_eq_true rfl) (fun x2 u2 p2 => ?_)
  obtain ⟨e, n', k', hN⟩ := q_count hI hj5 p1 p2
  exact PW.icmp_eq (pc := 1153) (tgt := 1172) dL_law_1153 (by decide) (fun _ => nx n' k' u2 hN) (fun c => absurd e c)
set_option maxHeartbeats 4000000 in
set_option maxRecDepth 20000 in
theorem s_digest {Y : xY} {Ln j n k : Nat} {xs : Nat → Int32} {M : xM} (hX : xScr Ln xs Y) (hR : xRm Y 9 342) (hL : Ln ≤ 3584) (hj : 7 * j + 7 ≤ Ln) (hI : CI j n k M) (nx : ∀ n' k' u, CI (j + 1) n' k' u → PW cL_law RL 4 Y 1172 (lwL j) [] u) : PW cL_law RL 4 Y 1158 (lwL j) [] M := by
  have hj5 : j < 512 := by omega
  refine PW.aload_n (pc := 1158) dL_law_1158 rfl ?_
  refine cs_L_145 (pc := 1159) hR (c_X6_digest (hn := hI.n8) (h10 := hI.n10) (hk := hI.k22) (h6 := hI.k6)) ⟨Nat.le_of_ble_eq_true rfl, Nat.le_of_ble_eq_true rfl⟩ dL_law_1159 (Nat.le_of_ble_eq_true rfl) (fun x1 u1 p1 => ?_)
  have em : eM M u1 := by rw [p1.2]; exact eM.rf
  obtain ⟨m6, m18, mB, mC, -⟩ := hI.md em
  refine PW.aload_n (pc := 1162) dL_law_1162 rfl ?_
  refine cs_L_149 (pc := 1163) hR (c_X7_digest (hn := m6) (h10 := hI.n10) (hk := m18) (h6 := hI.k6)) ⟨Nat.le_of_ble_eq_true rfl, Nat.le_of_ble_eq_true rfl⟩ dL_law_1163 (Nat.le_of_ble_eq_true rfl) (fun x2 u2 p2 => ?_)
  obtain ⟨e, n', k', hN⟩ := q_digest hI hj5 p1 p2
  refine PW.lcmp (pc := 1166) dL_law_1166 ?_
  exact PW.if_eq (pc := 1167) (tgt := 1172) dL_law_1167 (by decide) (fun _ => nx n' k' u2 hN) (fun c => absurd (lg_cmp_rf e) c)
set_option maxHeartbeats 4000000 in
set_option maxRecDepth 20000 in
theorem l_iter {Y : xY} {Ln j n k : Nat} {xs : Nat → Int32} {M : xM} (hX : xScr Ln xs Y) (hR : xRm Y 9 342) (hL : Ln ≤ 3584) (hj : 7 * j + 7 ≤ Ln) (hI : CI j n k M) (nx : ∀ n' k' u, CI (j + 1) n' k' u → PW cL_law RL 4 Y 1172 (lwL j) [] u) : PW cL_law RL 4 Y 27 (lwL j) [] M := by
  refine PW.aload_n (pc := 27) dL_law_27 rfl ?_
  refine PW.iload_n (pc := 28) dL_law_28 rfl ?_
  refine PW.sld (pc := 29) (j := 7 * j) hX rfl (by omega) (by omega) dL_law_29 ?_
  refine PW.bipush (pc := 30) (v := nI 31) dL_law_30 (by decide) ?_
  refine PW.iand (pc := 32) dL_law_32 ?_
  obtain ⟨v, hv, ev⟩ := and31 (xs (7 * j))
  rw [ev]
  rcases (show v = 0 ∨ v = 1 ∨ v = 2 ∨ v = 3 ∨ v = 4 ∨ v = 5 ∨ v = 6 ∨ v = 7 ∨ v = 8 ∨ v = 9 ∨ v = 10 ∨ v = 11 ∨ v = 12 ∨ v = 13 ∨ v = 14 ∨ v = 15 ∨ v = 16 ∨ v = 17 ∨ v = 18 ∨ v = 19 ∨ v = 20 ∨ v = 21 ∨ v = 22 ∨ v = 23 ∨ v = 24 ∨ v = 25 ∨ v = 26 ∨ v = 27 ∨ v = 28 ∨ v = 29 ∨ v = 30 ∨ v = 31 by omega) with rfl | rfl | rfl | rfl | rfl | rfl | rfl | rfl | rfl | rfl | rfl | rfl | rfl | rfl | rfl | rfl | rfl | rfl | rfl | rfl | rfl | rfl | rfl | rfl | rfl | rfl | rfl | rfl | rfl | rfl | rfl | rfl
  · exact PW.tswIn (pc := 33) (off := 143) (tgt := 176) dL_law_33 (by decide) (by decide) (by decide) (by decide) (s_thing hX hR hL hj hI nx)
  · exact PW.tswIn (pc := 33) (off := 218) (tgt := 251) dL_law_33 (by decide) (by decide) (by decide) (by decide) (s_field hX hR hL hj hI nx)
  · exact PW.tswIn (pc := 33) (off := 261) (tgt := 294) dL_law_33 (by decide) (by decide) (by decide) (by decide) (s_need hX hR hL hj hI nx)
  · exact PW.tswIn (pc := 33) (off := 304) (tgt := 337) dL_law_33 (by decide) (by decide) (by decide) (by decide) (s_rain hX hR hL hj hI nx)
  · exact PW.tswIn (pc := 33) (off := 353) (tgt := 386) dL_law_33 (by decide) (by decide) (by decide) (by decide) (s_take hX hR hL hj hI nx)
  · exact PW.tswIn (pc := 33) (off := 376) (tgt := 409) dL_law_33 (by decide) (by decide) (by decide) (by decide) (s_hire hX hR hL hj hI nx)
  · exact PW.tswIn (pc := 33) (off := 399) (tgt := 432) dL_law_33 (by decide) (by decide) (by decide) (by decide) (s_giveUp hX hR hL hj hI nx)
  · exact PW.tswIn (pc := 33) (off := 422) (tgt := 455) dL_law_33 (by decide) (by decide) (by decide) (by decide) (s_change hX hR hL hj hI nx)
  · exact PW.tswIn (pc := 33) (off := 465) (tgt := 498) dL_law_33 (by decide) (by decide) (by decide) (by decide) (s_back hX hR hL hj hI nx)
  · exact PW.tswIn (pc := 33) (off := 488) (tgt := 521) dL_law_33 (by decide) (by decide) (by decide) (by decide) (s_missing hX hR hL hj hI nx)
  · exact PW.tswIn (pc := 33) (off := 531) (tgt := 564) dL_law_33 (by decide) (by decide) (by decide) (by decide) (s_mend hX hR hL hj hI nx)
  · exact PW.tswIn (pc := 33) (off := 564) (tgt := 597) dL_law_33 (by decide) (by decide) (by decide) (by decide) (s_about hX hR hL hj hI nx)
  · exact PW.tswIn (pc := 33) (off := 597) (tgt := 630) dL_law_33 (by decide) (by decide) (by decide) (by decide) (s_lack hX hR hL hj hI nx)
  · exact PW.tswIn (pc := 33) (off := 630) (tgt := 663) dL_law_33 (by decide) (by decide) (by decide) (by decide) (s_fits hX hR hL hj hI nx)
  · exact PW.tswIn (pc := 33) (off := 653) (tgt := 686) dL_law_33 (by decide) (by decide) (by decide) (by decide) (s_best hX hR hL hj hI nx)
  · exact PW.tswIn (pc := 33) (off := 666) (tgt := 699) dL_law_33 (by decide) (by decide) (by decide) (by decide) (s_dearest hX hR hL hj hI nx)
  · exact PW.tswIn (pc := 33) (off := 679) (tgt := 712) dL_law_33 (by decide) (by decide) (by decide) (by decide) (s_hired hX hR hL hj hI nx)
  · exact PW.tswIn (pc := 33) (off := 703) (tgt := 736) dL_law_33 (by decide) (by decide) (by decide) (by decide) (s_fewest hX hR hL hj hI nx)
  · exact PW.tswIn (pc := 33) (off := 716) (tgt := 749) dL_law_33 (by decide) (by decide) (by decide) (by decide) (s_bays hX hR hL hj hI nx)
  · exact PW.tswIn (pc := 33) (off := 749) (tgt := 782) dL_law_33 (by decide) (by decide) (by decide) (by decide) (s_law hX hR hL hj hI nx)
  · exact PW.tswIn (pc := 33) (off := 782) (tgt := 815) dL_law_33 (by decide) (by decide) (by decide) (by decide) (s_unlaw hX hR hL hj hI nx)
  · exact PW.tswIn (pc := 33) (off := 795) (tgt := 828) dL_law_33 (by decide) (by decide) (by decide) (by decide) (s_doors hX hR hL hj hI nx)
  · exact PW.tswIn (pc := 33) (off := 818) (tgt := 851) dL_law_33 (by decide) (by decide) (by decide) (by decide) (s_keeps hX hR hL hj hI nx)
  · exact PW.tswIn (pc := 33) (off := 851) (tgt := 884) dL_law_33 (by decide) (by decide) (by decide) (by decide) (s_soil hX hR hL hj hI nx)
  · exact PW.tswIn (pc := 33) (off := 884) (tgt := 917) dL_law_33 (by decide) (by decide) (by decide) (by decide) (s_pitch hX hR hL hj hI nx)
  · exact PW.tswIn (pc := 33) (off := 937) (tgt := 970) dL_law_33 (by decide) (by decide) (by decide) (by decide) (s_bears hX hR hL hj hI nx)
  · exact PW.tswIn (pc := 33) (off := 960) (tgt := 993) dL_law_33 (by decide) (by decide) (by decide) (by decide) (s_gust hX hR hL hj hI nx)
  · exact PW.tswIn (pc := 33) (off := 993) (tgt := 1026) dL_law_33 (by decide) (by decide) (by decide) (by decide) (s_hours hX hR hL hj hI nx)
  · exact PW.tswIn (pc := 33) (off := 1026) (tgt := 1059) dL_law_33 (by decide) (by decide) (by decide) (by decide) (s_crew hX hR hL hj hI nx)
  · exact PW.tswIn (pc := 33) (off := 1069) (tgt := 1102) dL_law_33 (by decide) (by decide) (by decide) (by decide) (s_loads hX hR hL hj hI nx)
  · exact PW.tswIn (pc := 33) (off := 1102) (tgt := 1135) dL_law_33 (by decide) (by decide) (by decide) (by decide) (s_count hX hR hL hj hI nx)
  · exact PW.tswIn (pc := 33) (off := 1125) (tgt := 1158) dL_law_33 (by decide) (by decide) (by decide) (by decide) (s_digest hX hR hL hj hI nx)
theorem l_left {Ln i : Nat} (hL : Ln ≤ 3584) (hi : i ≤ Ln + 6) (c : ¬ nI Ln - nI 7 < nI i) : i + 7 ≤ Ln := by
  refine Nat.le_of_not_lt (fun h => c ?_)
  rw [Int32.lt_iff_toInt_lt, Int32.toInt_sub, nI_toInt (by omega), nI_toInt (by omega), nI_toInt (by omega)]
  rw [Int.bmod_eq_of_le (by omega) (by omega)]
  omega
set_option maxHeartbeats 4000000 in
set_option maxRecDepth 20000 in
theorem l_law {Y : xY} {Ln : Nat} {xs : Nat → Int32} (hX : xScr Ln xs Y) (hR : xRm Y 9 342) (hE : xEnd Y) (hL : Ln ≤ 3584) : ∀ (f j n k : Nat) (M : xM), 7 * j ≤ Ln + 6 → Ln + 7 - 7 * j ≤ f → CI j n k M → PW cL_law RL 4 Y 18 (lwL j) [] M := by
  intro f
  induction f with
  | zero => intro j n k M h1 h2 _; omega
  | succ f ih =>
    intro j n k M h1 h2 hI
    refine PW.iload_n (pc := 18) dL_law_18 rfl ?_
    refine PW.aload_n (pc := 19) dL_law_19 rfl ?_
    refine PW.slen (pc := 20) hX dL_law_20 ?_
    refine PW.bipush (pc := 21) (v := nI 7) dL_law_21 (by decide) ?_
    refine PW.isub (pc := 23) dL_law_23 ?_
    refine PW.icmp_gt (pc := 24) (tgt := 1178) dL_law_24 (by decide) (fun c => ?_) (fun c => ?_)
    · refine PW.iconst (pc := 1178) (v := 1) dL_law_1178 (by decide) ?_
      exact PW.lwret (pc := 1179) hE dL_law_1179
    · have hj := l_left hL h1 c
      refine l_iter hX hR hL hj hI (fun n' k' u hN => ?_)
      refine PW.iinc (pc := 1172) (v := nI (7 * (j + 1))) dL_law_1172 rfl (nI_add (7 * j) 7) (by decide) rfl ?_
      refine PW.goto (pc := 1175) (tgt := 18) dL_law_1175 (by decide) ?_
      exact PW.locs (L2 := lwL (j + 1)) rfl (ih (j + 1) n' k' u (by omega) (by omega) hN)

/-! the law: its cases, by program (wip/whole/gen_law.py) -/
theorem inL {i j L : Nat} (h : i + j < L) (hL : L ≤ 3072) : vp_in (nI i + nI j) L := by rw [nI_add]; exact pk_in (i + j) L h rfl (by omega)
section LC
variable {p : Program} {l : Launch} {e : Env} {s : State} {m : MethodId} {below : List Frame} {meth : Method} {c : Code} {Q : State → Prop} {G : wG} {M : wM} {b L i : Nat} {xs : Nat → Int32} {V : wV} {hs : List wV} {tl : Nat} {tx : Nat → Int32} {cells slots : Nat}
def lvL (G : wG) (b i : Nat) : List (Nat × Value) := [(3, .int (nI i)), (2, .ref (ga G 96)), (1, .ref (ga G 0)), (0, .ref b)]
/-- what lies behind a case -/
def goesOn (p : Program) (l : Launch) (e : Env) (s : State) (m : MethodId) (below : List Frame) (meth : Method) (c : Code) (Q : State → Prop) (G : wG) (b i cells slots : Nat) : Prop := ∀ (V : wV) (hs : List wV) (tl : Nat) (tx : Nat → Int32) (M : wM), TXo tl tx → IC V hs tl tx M → IM V hs tl tx M → lAt p l e room_1 s m #[Value.ref b] below meth c Q 4 cells slots G M 822 (lvL G b i) []
set_option maxHeartbeats 4000000 in
theorem law_set (hC : wC p m c cL_law 4 s #[Value.ref b] wsL_law RL G) (hX : lX s G b L xs) (hL : L ≤ 3072) (hi : i + 6 ≤ L) (hcs : cells ≤ room_1.cells ∧ slots ≤ room_1.slots) (ht : TXo tl tx) (hc : IC V hs tl tx M) (hm : IM V hs tl tx M) (next : goesOn p l e s m below meth c Q G b i cells slots) : lAt p l e room_1 s m #[Value.ref b] below meth c Q 4 cells slots G M 136 (lvL G b i) [] := by
  obtain ⟨r, V2, hs2, tl2, tx2, M2, M3, b1, b2, b3, b4, b5⟩ := case_both (both_set ht (xs (nI i + nI 1).toNatClampNeg) (xs (nI i + nI 2).toNatClampNeg)) hc hm
  refine la_aload_n hC dL_law_136 rfl 2 rfl ?_
  refine la_aload_n hC dL_law_137 rfl 3 rfl ?_
  refine la_iload_n hC dL_law_138 rfl 0 rfl ?_
  refine la_iconst (v := nI 1) hC dL_law_139 rfl ?_
  refine la_iadd hC dL_law_140 ?_
  refine la_sld hC hX (inL (by omega) hL) dL_law_141 ?_
  refine la_aload_n hC dL_law_142 rfl 3 rfl ?_
  refine la_iload_n hC dL_law_143 rfl 0 rfl ?_
  refine la_iconst (v := nI 2) hC dL_law_144 rfl ?_
  refine la_iadd hC dL_law_145 ?_
  refine la_sld hC hX (inL (by omega) hL) dL_law_146 ?_
  refine la_calli (rest := []) (lr_V hC (kX6_set l G b1) (cwV 2 hC.1.2.2.2.2 gL_law_X6_set rfl rfl rfl (by decide +kernel) ⟨(Nat.le_of_ble_eq_true rfl), (Nat.le_of_ble_eq_true rfl)⟩) (show kd 0 = 6 from rfl) (by decide) (ce6 (show kd 0 = 6 from rfl)) rfl rfl rfl rfl (Nat.le_of_ble_eq_true rfl) hcs dL_law_147) ?_
  refine la_aload_n hC dL_law_150 rfl 1 rfl ?_
  refine la_aload_n hC dL_law_151 rfl 3 rfl ?_
  refine la_iload_n hC dL_law_152 rfl 0 rfl ?_
  refine la_iconst (v := nI 1) hC dL_law_153 rfl ?_
  refine la_iadd hC dL_law_154 ?_
  refine la_sld hC hX (inL (by omega) hL) dL_law_155 ?_
  refine la_aload_n hC dL_law_156 rfl 3 rfl ?_
  refine la_iload_n hC dL_law_157 rfl 0 rfl ?_
  refine la_iconst (v := nI 2) hC dL_law_158 rfl ?_
  refine la_iadd hC dL_law_159 ?_
  refine la_sld hC hX (inL (by omega) hL) dL_law_160 ?_
  refine la_calli (rest := [.int r]) (lr_V hC (kX7_set l G b2) (cwV 2 hC.1.2.2.2.2 gL_law_X7_set rfl rfl rfl (by decide +kernel) ⟨(Nat.le_of_ble_eq_true rfl), (Nat.le_of_ble_eq_true rfl)⟩) (show kd 96 = 7 from rfl) (by decide) (ce7 (show kd 96 = 7 from rfl)) rfl rfl rfl rfl (Nat.le_of_ble_eq_true rfl) hcs dL_law_161) ?_
  refine la_eq hC 822 dL_law_164 (by decide) (fun _ => ?_) (fun h => absurd rfl h)
  exact next _ _ _ _ _ b3 b4 b5
set_option maxHeartbeats 4000000 in
theorem law_base (hC : wC p m c cL_law 4 s #[Value.ref b] wsL_law RL G) (hX : lX s G b L xs) (hL : L ≤ 3072) (hi : i + 6 ≤ L) (hcs : cells ≤ room_1.cells ∧ slots ≤ room_1.slots) (ht : TXo tl tx) (hc : IC V hs tl tx M) (hm : IM V hs tl tx M) (next : goesOn p l e s m below meth c Q G b i cells slots) : lAt p l e room_1 s m #[Value.ref b] below meth c Q 4 cells slots G M 169 (lvL G b i) [] := by
  obtain ⟨r, V2, hs2, tl2, tx2, M2, M3, b1, b2, b3, b4, b5⟩ := case_both (both_base ht (xs (nI i + nI 1).toNatClampNeg) (xs (nI i + nI 2).toNatClampNeg) (xs (nI i + nI 3).toNatClampNeg)) hc hm
  refine la_aload_n hC dL_law_169 rfl 2 rfl ?_
  refine la_aload_n hC dL_law_170 rfl 3 rfl ?_
  refine la_iload_n hC dL_law_171 rfl 0 rfl ?_
  refine la_iconst (v := nI 1) hC dL_law_172 rfl ?_
  refine la_iadd hC dL_law_173 ?_
  refine la_sld hC hX (inL (by omega) hL) dL_law_174 ?_
  refine la_aload_n hC dL_law_175 rfl 3 rfl ?_
  refine la_iload_n hC dL_law_176 rfl 0 rfl ?_
  refine la_iconst (v := nI 2) hC dL_law_177 rfl ?_
  refine la_iadd hC dL_law_178 ?_
  refine la_sld hC hX (inL (by omega) hL) dL_law_179 ?_
  refine la_aload_n hC dL_law_180 rfl 3 rfl ?_
  refine la_iload_n hC dL_law_181 rfl 0 rfl ?_
  refine la_iconst (v := nI 3) hC dL_law_182 rfl ?_
  refine la_iadd hC dL_law_183 ?_
  refine la_sld hC hX (inL (by omega) hL) dL_law_184 ?_
  refine la_calli (rest := []) (lr_V hC (kX6_base l G b1) (cwV 3 hC.1.2.2.2.2 gL_law_X6_base rfl rfl rfl (by decide +kernel) ⟨(Nat.le_of_ble_eq_true rfl), (Nat.le_of_ble_eq_true rfl)⟩) (show kd 0 = 6 from rfl) (by decide) (ce6 (show kd 0 = 6 from rfl)) rfl rfl rfl rfl (Nat.le_of_ble_eq_true rfl) hcs dL_law_185) ?_
  refine la_aload_n hC dL_law_188 rfl 1 rfl ?_
  refine la_aload_n hC dL_law_189 rfl 3 rfl ?_
  refine la_iload_n hC dL_law_190 rfl 0 rfl ?_
  refine la_iconst (v := nI 1) hC dL_law_191 rfl ?_
  refine la_iadd hC dL_law_192 ?_
  refine la_sld hC hX (inL (by omega) hL) dL_law_193 ?_
  refine la_aload_n hC dL_law_194 rfl 3 rfl ?_
  refine la_iload_n hC dL_law_195 rfl 0 rfl ?_
  refine la_iconst (v := nI 2) hC dL_law_196 rfl ?_
  refine la_iadd hC dL_law_197 ?_
  refine la_sld hC hX (inL (by omega) hL) dL_law_198 ?_
  refine la_aload_n hC dL_law_199 rfl 3 rfl ?_
  refine la_iload_n hC dL_law_200 rfl 0 rfl ?_
  refine la_iconst (v := nI 3) hC dL_law_201 rfl ?_
  refine la_iadd hC dL_law_202 ?_
  refine la_sld hC hX (inL (by omega) hL) dL_law_203 ?_
  refine la_calli (rest := [.int r]) (lr_V hC (kX7_base l G b2) (cwV 3 hC.1.2.2.2.2 gL_law_X7_base rfl rfl rfl (by decide +kernel) ⟨(Nat.le_of_ble_eq_true rfl), (Nat.le_of_ble_eq_true rfl)⟩) (show kd 96 = 7 from rfl) (by decide) (ce7 (show kd 96 = 7 from rfl)) rfl rfl rfl rfl (Nat.le_of_ble_eq_true rfl) hcs dL_law_204) ?_
  refine la_eq hC 822 dL_law_207 (by decide) (fun _ => ?_) (fun h => absurd rfl h)
  exact next _ _ _ _ _ b3 b4 b5
set_option maxHeartbeats 4000000 in
theorem law_read (hC : wC p m c cL_law 4 s #[Value.ref b] wsL_law RL G) (hX : lX s G b L xs) (hL : L ≤ 3072) (hi : i + 6 ≤ L) (hcs : cells ≤ room_1.cells ∧ slots ≤ room_1.slots) (ht : TXo tl tx) (hc : IC V hs tl tx M) (hm : IM V hs tl tx M) (next : goesOn p l e s m below meth c Q G b i cells slots) : lAt p l e room_1 s m #[Value.ref b] below meth c Q 4 cells slots G M 212 (lvL G b i) [] := by
  obtain ⟨r, V2, hs2, tl2, tx2, M2, M3, b1, b2, b3, b4, b5⟩ := case_both (both_read ht (xs (nI i + nI 1).toNatClampNeg) (xs (nI i + nI 2).toNatClampNeg) (xs (nI i + nI 3).toNatClampNeg) (xs (nI i + nI 4).toNatClampNeg) (xs (nI i + nI 5).toNatClampNeg)) hc hm
  refine la_aload_n hC dL_law_212 rfl 2 rfl ?_
  refine la_aload_n hC dL_law_213 rfl 3 rfl ?_
  refine la_iload_n hC dL_law_214 rfl 0 rfl ?_
  refine la_iconst (v := nI 1) hC dL_law_215 rfl ?_
  refine la_iadd hC dL_law_216 ?_
  refine la_sld hC hX (inL (by omega) hL) dL_law_217 ?_
  refine la_aload_n hC dL_law_218 rfl 3 rfl ?_
  refine la_iload_n hC dL_law_219 rfl 0 rfl ?_
  refine la_iconst (v := nI 2) hC dL_law_220 rfl ?_
  refine la_iadd hC dL_law_221 ?_
  refine la_sld hC hX (inL (by omega) hL) dL_law_222 ?_
  refine la_aload_n hC dL_law_223 rfl 3 rfl ?_
  refine la_iload_n hC dL_law_224 rfl 0 rfl ?_
  refine la_iconst (v := nI 3) hC dL_law_225 rfl ?_
  refine la_iadd hC dL_law_226 ?_
  refine la_sld hC hX (inL (by omega) hL) dL_law_227 ?_
  refine la_aload_n hC dL_law_228 rfl 3 rfl ?_
  refine la_iload_n hC dL_law_229 rfl 0 rfl ?_
  refine la_iconst (v := nI 4) hC dL_law_230 rfl ?_
  refine la_iadd hC dL_law_231 ?_
  refine la_sld hC hX (inL (by omega) hL) dL_law_232 ?_
  refine la_aload_n hC dL_law_233 rfl 3 rfl ?_
  refine la_iload_n hC dL_law_234 rfl 0 rfl ?_
  refine la_iconst (v := nI 5) hC dL_law_235 rfl ?_
  refine la_iadd hC dL_law_236 ?_
  refine la_sld hC hX (inL (by omega) hL) dL_law_237 ?_
  refine la_calli (rest := []) (lr_V hC (kX6_read l G b1) (cwV 5 hC.1.2.2.2.2 gL_law_X6_read rfl rfl rfl (by decide +kernel) ⟨(Nat.le_of_ble_eq_true rfl), (Nat.le_of_ble_eq_true rfl)⟩) (show kd 0 = 6 from rfl) (by decide) (ce6 (show kd 0 = 6 from rfl)) rfl rfl rfl rfl (Nat.le_of_ble_eq_true rfl) hcs dL_law_238) ?_
  refine la_aload_n hC dL_law_241 rfl 1 rfl ?_
  refine la_aload_n hC dL_law_242 rfl 3 rfl ?_
  refine la_iload_n hC dL_law_243 rfl 0 rfl ?_
  refine la_iconst (v := nI 1) hC dL_law_244 rfl ?_
  refine la_iadd hC dL_law_245 ?_
  refine la_sld hC hX (inL (by omega) hL) dL_law_246 ?_
  refine la_aload_n hC dL_law_247 rfl 3 rfl ?_
  refine la_iload_n hC dL_law_248 rfl 0 rfl ?_
  refine la_iconst (v := nI 2) hC dL_law_249 rfl ?_
  refine la_iadd hC dL_law_250 ?_
  refine la_sld hC hX (inL (by omega) hL) dL_law_251 ?_
  refine la_aload_n hC dL_law_252 rfl 3 rfl ?_
  refine la_iload_n hC dL_law_253 rfl 0 rfl ?_
  refine la_iconst (v := nI 3) hC dL_law_254 rfl ?_
  refine la_iadd hC dL_law_255 ?_
  refine la_sld hC hX (inL (by omega) hL) dL_law_256 ?_
  refine la_aload_n hC dL_law_257 rfl 3 rfl ?_
  refine la_iload_n hC dL_law_258 rfl 0 rfl ?_
  refine la_iconst (v := nI 4) hC dL_law_259 rfl ?_
  refine la_iadd hC dL_law_260 ?_
  refine la_sld hC hX (inL (by omega) hL) dL_law_261 ?_
  refine la_aload_n hC dL_law_262 rfl 3 rfl ?_
  refine la_iload_n hC dL_law_263 rfl 0 rfl ?_
  refine la_iconst (v := nI 5) hC dL_law_264 rfl ?_
  refine la_iadd hC dL_law_265 ?_
  refine la_sld hC hX (inL (by omega) hL) dL_law_266 ?_
  refine la_calli (rest := [.int r]) (lr_V hC (kX7_read l G b2) (cwV 5 hC.1.2.2.2.2 gL_law_X7_read rfl rfl rfl (by decide +kernel) ⟨(Nat.le_of_ble_eq_true rfl), (Nat.le_of_ble_eq_true rfl)⟩) (show kd 96 = 7 from rfl) (by decide) (ce7 (show kd 96 = 7 from rfl)) rfl rfl rfl rfl (Nat.le_of_ble_eq_true rfl) hcs dL_law_267) ?_
  refine la_eq hC 822 dL_law_270 (by decide) (fun _ => ?_) (fun h => absurd rfl h)
  exact next _ _ _ _ _ b3 b4 b5
set_option maxHeartbeats 4000000 in
theorem law_drop (hC : wC p m c cL_law 4 s #[Value.ref b] wsL_law RL G) (hX : lX s G b L xs) (hL : L ≤ 3072) (hi : i + 6 ≤ L) (hcs : cells ≤ room_1.cells ∧ slots ≤ room_1.slots) (ht : TXo tl tx) (hc : IC V hs tl tx M) (hm : IM V hs tl tx M) (next : goesOn p l e s m below meth c Q G b i cells slots) : lAt p l e room_1 s m #[Value.ref b] below meth c Q 4 cells slots G M 275 (lvL G b i) [] := by
  obtain ⟨r, V2, hs2, tl2, tx2, M2, M3, b1, b2, b3, b4, b5⟩ := case_both (both_drop ht hc.1 (xs (nI i + nI 1).toNatClampNeg) (xs (nI i + nI 2).toNatClampNeg)) hc hm
  refine la_aload_n hC dL_law_275 rfl 2 rfl ?_
  refine la_aload_n hC dL_law_276 rfl 3 rfl ?_
  refine la_iload_n hC dL_law_277 rfl 0 rfl ?_
  refine la_iconst (v := nI 1) hC dL_law_278 rfl ?_
  refine la_iadd hC dL_law_279 ?_
  refine la_sld hC hX (inL (by omega) hL) dL_law_280 ?_
  refine la_aload_n hC dL_law_281 rfl 3 rfl ?_
  refine la_iload_n hC dL_law_282 rfl 0 rfl ?_
  refine la_iconst (v := nI 2) hC dL_law_283 rfl ?_
  refine la_iadd hC dL_law_284 ?_
  refine la_sld hC hX (inL (by omega) hL) dL_law_285 ?_
  refine la_calli (rest := []) (lr_V hC (kX6_drop l G b1) (cwV 2 hC.1.2.2.2.2 gL_law_X6_drop rfl rfl rfl (by decide +kernel) ⟨(Nat.le_of_ble_eq_true rfl), (Nat.le_of_ble_eq_true rfl)⟩) (show kd 0 = 6 from rfl) (by decide) (ce6 (show kd 0 = 6 from rfl)) rfl rfl rfl rfl (Nat.le_of_ble_eq_true rfl) hcs dL_law_286) ?_
  refine la_aload_n hC dL_law_289 rfl 1 rfl ?_
  refine la_aload_n hC dL_law_290 rfl 3 rfl ?_
  refine la_iload_n hC dL_law_291 rfl 0 rfl ?_
  refine la_iconst (v := nI 1) hC dL_law_292 rfl ?_
  refine la_iadd hC dL_law_293 ?_
  refine la_sld hC hX (inL (by omega) hL) dL_law_294 ?_
  refine la_aload_n hC dL_law_295 rfl 3 rfl ?_
  refine la_iload_n hC dL_law_296 rfl 0 rfl ?_
  refine la_iconst (v := nI 2) hC dL_law_297 rfl ?_
  refine la_iadd hC dL_law_298 ?_
  refine la_sld hC hX (inL (by omega) hL) dL_law_299 ?_
  refine la_calli (rest := [.int r]) (lr_V hC (kX7_drop l G b2) (cwV 2 hC.1.2.2.2.2 gL_law_X7_drop rfl rfl rfl (by decide +kernel) ⟨(Nat.le_of_ble_eq_true rfl), (Nat.le_of_ble_eq_true rfl)⟩) (show kd 96 = 7 from rfl) (by decide) (ce7 (show kd 96 = 7 from rfl)) rfl rfl rfl rfl (Nat.le_of_ble_eq_true rfl) hcs dL_law_300) ?_
  refine la_eq hC 822 dL_law_303 (by decide) (fun _ => ?_) (fun h => absurd rfl h)
  exact next _ _ _ _ _ b3 b4 b5
set_option maxHeartbeats 4000000 in
theorem law_reading (hC : wC p m c cL_law 4 s #[Value.ref b] wsL_law RL G) (hX : lX s G b L xs) (hL : L ≤ 3072) (hi : i + 6 ≤ L) (hcs : cells ≤ room_1.cells ∧ slots ≤ room_1.slots) (ht : TXo tl tx) (hc : IC V hs tl tx M) (hm : IM V hs tl tx M) (next : goesOn p l e s m below meth c Q G b i cells slots) : lAt p l e room_1 s m #[Value.ref b] below meth c Q 4 cells slots G M 308 (lvL G b i) [] := by
  obtain ⟨r, V2, hs2, tl2, tx2, M2, M3, b1, b2, b3, b4, b5⟩ := case_both (both_reading ht hc.1 (xs (nI i + nI 1).toNatClampNeg) (xs (nI i + nI 2).toNatClampNeg) (xs (nI i + nI 3).toNatClampNeg)) hc hm
  refine la_aload_n hC dL_law_308 rfl 2 rfl ?_
  refine la_aload_n hC dL_law_309 rfl 3 rfl ?_
  refine la_iload_n hC dL_law_310 rfl 0 rfl ?_
  refine la_iconst (v := nI 1) hC dL_law_311 rfl ?_
  refine la_iadd hC dL_law_312 ?_
  refine la_sld hC hX (inL (by omega) hL) dL_law_313 ?_
  refine la_aload_n hC dL_law_314 rfl 3 rfl ?_
  refine la_iload_n hC dL_law_315 rfl 0 rfl ?_
  refine la_iconst (v := nI 2) hC dL_law_316 rfl ?_
  refine la_iadd hC dL_law_317 ?_
  refine la_sld hC hX (inL (by omega) hL) dL_law_318 ?_
  refine la_aload_n hC dL_law_319 rfl 3 rfl ?_
  refine la_iload_n hC dL_law_320 rfl 0 rfl ?_
  refine la_iconst (v := nI 3) hC dL_law_321 rfl ?_
  refine la_iadd hC dL_law_322 ?_
  refine la_sld hC hX (inL (by omega) hL) dL_law_323 ?_
  refine la_calli (rest := []) (lr_V hC (kX6_reading l G b1) (cwV 3 hC.1.2.2.2.2 gL_law_X6_reading rfl rfl rfl (by decide +kernel) ⟨(Nat.le_of_ble_eq_true rfl), (Nat.le_of_ble_eq_true rfl)⟩) (show kd 0 = 6 from rfl) (by decide) (ce6 (show kd 0 = 6 from rfl)) rfl rfl rfl rfl (Nat.le_of_ble_eq_true rfl) hcs dL_law_324) ?_
  refine la_aload_n hC dL_law_327 rfl 1 rfl ?_
  refine la_aload_n hC dL_law_328 rfl 3 rfl ?_
  refine la_iload_n hC dL_law_329 rfl 0 rfl ?_
  refine la_iconst (v := nI 1) hC dL_law_330 rfl ?_
  refine la_iadd hC dL_law_331 ?_
  refine la_sld hC hX (inL (by omega) hL) dL_law_332 ?_
  refine la_aload_n hC dL_law_333 rfl 3 rfl ?_
  refine la_iload_n hC dL_law_334 rfl 0 rfl ?_
  refine la_iconst (v := nI 2) hC dL_law_335 rfl ?_
  refine la_iadd hC dL_law_336 ?_
  refine la_sld hC hX (inL (by omega) hL) dL_law_337 ?_
  refine la_aload_n hC dL_law_338 rfl 3 rfl ?_
  refine la_iload_n hC dL_law_339 rfl 0 rfl ?_
  refine la_iconst (v := nI 3) hC dL_law_340 rfl ?_
  refine la_iadd hC dL_law_341 ?_
  refine la_sld hC hX (inL (by omega) hL) dL_law_342 ?_
  refine la_calli (rest := [.int r]) (lr_V hC (kX7_reading l G b2) (cwV 3 hC.1.2.2.2.2 gL_law_X7_reading rfl rfl rfl (by decide +kernel) ⟨(Nat.le_of_ble_eq_true rfl), (Nat.le_of_ble_eq_true rfl)⟩) (show kd 96 = 7 from rfl) (by decide) (ce7 (show kd 96 = 7 from rfl)) rfl rfl rfl rfl (Nat.le_of_ble_eq_true rfl) hcs dL_law_343) ?_
  refine la_eq hC 822 dL_law_346 (by decide) (fun _ => ?_) (fun h => absurd rfl h)
  exact next _ _ _ _ _ b3 b4 b5
set_option maxHeartbeats 4000000 in
theorem law_count (hC : wC p m c cL_law 4 s #[Value.ref b] wsL_law RL G) (hX : lX s G b L xs) (hL : L ≤ 3072) (hi : i + 6 ≤ L) (hcs : cells ≤ room_1.cells ∧ slots ≤ room_1.slots) (ht : TXo tl tx) (hc : IC V hs tl tx M) (hm : IM V hs tl tx M) (next : goesOn p l e s m below meth c Q G b i cells slots) : lAt p l e room_1 s m #[Value.ref b] below meth c Q 4 cells slots G M 351 (lvL G b i) [] := by
  obtain ⟨r, V2, hs2, tl2, tx2, M2, M3, b1, b2, b3, b4, b5⟩ := case_both (both_count ht hc.1 (xs (nI i + nI 1).toNatClampNeg)) hc hm
  refine la_aload_n hC dL_law_351 rfl 2 rfl ?_
  refine la_aload_n hC dL_law_352 rfl 3 rfl ?_
  refine la_iload_n hC dL_law_353 rfl 0 rfl ?_
  refine la_iconst (v := nI 1) hC dL_law_354 rfl ?_
  refine la_iadd hC dL_law_355 ?_
  refine la_sld hC hX (inL (by omega) hL) dL_law_356 ?_
  refine la_calli (rest := []) (lr_V hC (kX6_count l G b1) (cwV 1 hC.1.2.2.2.2 gL_law_X6_count rfl rfl rfl (by decide +kernel) ⟨(Nat.le_of_ble_eq_true rfl), (Nat.le_of_ble_eq_true rfl)⟩) (show kd 0 = 6 from rfl) (by decide) (ce6 (show kd 0 = 6 from rfl)) rfl rfl rfl rfl (Nat.le_of_ble_eq_true rfl) hcs dL_law_357) ?_
  refine la_aload_n hC dL_law_360 rfl 1 rfl ?_
  refine la_aload_n hC dL_law_361 rfl 3 rfl ?_
  refine la_iload_n hC dL_law_362 rfl 0 rfl ?_
  refine la_iconst (v := nI 1) hC dL_law_363 rfl ?_
  refine la_iadd hC dL_law_364 ?_
  refine la_sld hC hX (inL (by omega) hL) dL_law_365 ?_
  refine la_calli (rest := [.int r]) (lr_V hC (kX7_count l G b2) (cwV 1 hC.1.2.2.2.2 gL_law_X7_count rfl rfl rfl (by decide +kernel) ⟨(Nat.le_of_ble_eq_true rfl), (Nat.le_of_ble_eq_true rfl)⟩) (show kd 96 = 7 from rfl) (by decide) (ce7 (show kd 96 = 7 from rfl)) rfl rfl rfl rfl (Nat.le_of_ble_eq_true rfl) hcs dL_law_366) ?_
  refine la_eq hC 822 dL_law_369 (by decide) (fun _ => ?_) (fun h => absurd rfl h)
  exact next _ _ _ _ _ b3 b4 b5
set_option maxHeartbeats 4000000 in
theorem law_undo (hC : wC p m c cL_law 4 s #[Value.ref b] wsL_law RL G) (hX : lX s G b L xs) (hL : L ≤ 3072) (hi : i + 6 ≤ L) (hcs : cells ≤ room_1.cells ∧ slots ≤ room_1.slots) (ht : TXo tl tx) (hc : IC V hs tl tx M) (hm : IM V hs tl tx M) (next : goesOn p l e s m below meth c Q G b i cells slots) : lAt p l e room_1 s m #[Value.ref b] below meth c Q 4 cells slots G M 374 (lvL G b i) [] := by
  obtain ⟨r, V2, hs2, tl2, tx2, M2, M3, b1, b2, b3, b4, b5⟩ := case_both (both_undo ht ) hc hm
  refine la_aload_n hC dL_law_374 rfl 2 rfl ?_
  refine la_calli (rest := []) (lr_V hC (kX6_undo l G b1) (cwV 0 hC.1.2.2.2.2 gL_law_X6_undo rfl rfl rfl (by decide +kernel) ⟨(Nat.le_of_ble_eq_true rfl), (Nat.le_of_ble_eq_true rfl)⟩) (show kd 0 = 6 from rfl) (by decide) (ce6 (show kd 0 = 6 from rfl)) rfl rfl rfl rfl (Nat.le_of_ble_eq_true rfl) hcs dL_law_375) ?_
  refine la_aload_n hC dL_law_378 rfl 1 rfl ?_
  refine la_calli (rest := [.int r]) (lr_V hC (kX7_undo l G b2) (cwV 0 hC.1.2.2.2.2 gL_law_X7_undo rfl rfl rfl (by decide +kernel) ⟨(Nat.le_of_ble_eq_true rfl), (Nat.le_of_ble_eq_true rfl)⟩) (show kd 96 = 7 from rfl) (by decide) (ce7 (show kd 96 = 7 from rfl)) rfl rfl rfl rfl (Nat.le_of_ble_eq_true rfl) hcs dL_law_379) ?_
  refine la_eq hC 822 dL_law_382 (by decide) (fun _ => ?_) (fun h => absurd rfl h)
  exact next _ _ _ _ _ b3 b4 b5
set_option maxHeartbeats 4000000 in
theorem law_baseAt (hC : wC p m c cL_law 4 s #[Value.ref b] wsL_law RL G) (hX : lX s G b L xs) (hL : L ≤ 3072) (hi : i + 6 ≤ L) (hcs : cells ≤ room_1.cells ∧ slots ≤ room_1.slots) (ht : TXo tl tx) (hc : IC V hs tl tx M) (hm : IM V hs tl tx M) (next : goesOn p l e s m below meth c Q G b i cells slots) : lAt p l e room_1 s m #[Value.ref b] below meth c Q 4 cells slots G M 387 (lvL G b i) [] := by
  obtain ⟨r, V2, hs2, tl2, tx2, M2, M3, b1, b2, b3, b4, b5⟩ := case_both (both_baseAt ht hc.1 (xs (nI i + nI 1).toNatClampNeg) (xs (nI i + nI 2).toNatClampNeg)) hc hm
  obtain ⟨b1, rfl⟩ := pw_some b1
  refine la_aload_n hC dL_law_387 rfl 2 rfl ?_
  refine la_aload_n hC dL_law_388 rfl 3 rfl ?_
  refine la_iload_n hC dL_law_389 rfl 0 rfl ?_
  refine la_iconst (v := nI 1) hC dL_law_390 rfl ?_
  refine la_iadd hC dL_law_391 ?_
  refine la_sld hC hX (inL (by omega) hL) dL_law_392 ?_
  refine la_aload_n hC dL_law_393 rfl 3 rfl ?_
  refine la_iload_n hC dL_law_394 rfl 0 rfl ?_
  refine la_iconst (v := nI 2) hC dL_law_395 rfl ?_
  refine la_iadd hC dL_law_396 ?_
  refine la_sld hC hX (inL (by omega) hL) dL_law_397 ?_
  refine la_calli (rest := []) (lr_V hC (kX6_baseAt l G b1) (cwV 2 hC.1.2.2.2.2 gL_law_X6_baseAt rfl rfl rfl (by decide +kernel) ⟨(Nat.le_of_ble_eq_true rfl), (Nat.le_of_ble_eq_true rfl)⟩) (show kd 0 = 6 from rfl) (by decide) (ce6 (show kd 0 = 6 from rfl)) rfl rfl rfl rfl (Nat.le_of_ble_eq_true rfl) hcs dL_law_398) ?_
  refine la_aload_n hC dL_law_401 rfl 1 rfl ?_
  refine la_aload_n hC dL_law_402 rfl 3 rfl ?_
  refine la_iload_n hC dL_law_403 rfl 0 rfl ?_
  refine la_iconst (v := nI 1) hC dL_law_404 rfl ?_
  refine la_iadd hC dL_law_405 ?_
  refine la_sld hC hX (inL (by omega) hL) dL_law_406 ?_
  refine la_aload_n hC dL_law_407 rfl 3 rfl ?_
  refine la_iload_n hC dL_law_408 rfl 0 rfl ?_
  refine la_iconst (v := nI 2) hC dL_law_409 rfl ?_
  refine la_iadd hC dL_law_410 ?_
  refine la_sld hC hX (inL (by omega) hL) dL_law_411 ?_
  refine la_calli (rest := [.int r]) (lr_V hC (kX7_baseAt l G b2) (cwV 2 hC.1.2.2.2.2 gL_law_X7_baseAt rfl rfl rfl (by decide +kernel) ⟨(Nat.le_of_ble_eq_true rfl), (Nat.le_of_ble_eq_true rfl)⟩) (show kd 96 = 7 from rfl) (by decide) (ce7 (show kd 96 = 7 from rfl)) rfl rfl rfl rfl (Nat.le_of_ble_eq_true rfl) hcs dL_law_412) ?_
  refine la_eq hC 822 dL_law_415 (by decide) (fun _ => ?_) (fun h => absurd rfl h)
  exact next _ _ _ _ _ b3 b4 b5
set_option maxHeartbeats 4000000 in
theorem law_step (hC : wC p m c cL_law 4 s #[Value.ref b] wsL_law RL G) (hX : lX s G b L xs) (hL : L ≤ 3072) (hi : i + 6 ≤ L) (hcs : cells ≤ room_1.cells ∧ slots ≤ room_1.slots) (ht : TXo tl tx) (hc : IC V hs tl tx M) (hm : IM V hs tl tx M) (next : goesOn p l e s m below meth c Q G b i cells slots) : lAt p l e room_1 s m #[Value.ref b] below meth c Q 4 cells slots G M 420 (lvL G b i) [] := by
  obtain ⟨r, V2, hs2, tl2, tx2, M2, M3, b1, b2, b3, b4, b5⟩ := case_both (both_step ht hc.1 (xs (nI i + nI 1).toNatClampNeg)) hc hm
  obtain ⟨b1, rfl⟩ := pw_some b1
  obtain ⟨b2, rfl⟩ := pw_some b2
  refine la_aload_n hC dL_law_420 rfl 2 rfl ?_
  refine la_aload_n hC dL_law_421 rfl 3 rfl ?_
  refine la_iload_n hC dL_law_422 rfl 0 rfl ?_
  refine la_iconst (v := nI 1) hC dL_law_423 rfl ?_
  refine la_iadd hC dL_law_424 ?_
  refine la_sld hC hX (inL (by omega) hL) dL_law_425 ?_
  refine la_calli (rest := []) (lr_V hC (kX6_step l G b1) (cwV 1 hC.1.2.2.2.2 gL_law_X6_step rfl rfl rfl (by decide +kernel) ⟨(Nat.le_of_ble_eq_true rfl), (Nat.le_of_ble_eq_true rfl)⟩) (show kd 0 = 6 from rfl) (by decide) (ce6 (show kd 0 = 6 from rfl)) rfl rfl rfl rfl (Nat.le_of_ble_eq_true rfl) hcs dL_law_426) ?_
  refine la_aload_n hC dL_law_429 rfl 1 rfl ?_
  refine la_aload_n hC dL_law_430 rfl 3 rfl ?_
  refine la_iload_n hC dL_law_431 rfl 0 rfl ?_
  refine la_iconst (v := nI 1) hC dL_law_432 rfl ?_
  refine la_iadd hC dL_law_433 ?_
  refine la_sld hC hX (inL (by omega) hL) dL_law_434 ?_
  refine la_calli (rest := [.int r]) (lr_V hC (kX7_step l G b2) (cwV 1 hC.1.2.2.2.2 gL_law_X7_step rfl rfl rfl (by decide +kernel) ⟨(Nat.le_of_ble_eq_true rfl), (Nat.le_of_ble_eq_true rfl)⟩) (show kd 96 = 7 from rfl) (by decide) (ce7 (show kd 96 = 7 from rfl)) rfl rfl rfl rfl (Nat.le_of_ble_eq_true rfl) hcs dL_law_435) ?_
  refine la_eq hC 822 dL_law_438 (by decide) (fun _ => ?_) (fun h => absurd rfl h)
  exact next _ _ _ _ _ b3 b4 b5
set_option maxHeartbeats 4000000 in
theorem law_raw (hC : wC p m c cL_law 4 s #[Value.ref b] wsL_law RL G) (hX : lX s G b L xs) (hL : L ≤ 3072) (hi : i + 6 ≤ L) (hcs : cells ≤ room_1.cells ∧ slots ≤ room_1.slots) (ht : TXo tl tx) (hc : IC V hs tl tx M) (hm : IM V hs tl tx M) (next : goesOn p l e s m below meth c Q G b i cells slots) : lAt p l e room_1 s m #[Value.ref b] below meth c Q 4 cells slots G M 443 (lvL G b i) [] := by
  obtain ⟨r, V2, hs2, tl2, tx2, M2, M3, b1, b2, b3, b4, b5⟩ := case_both (both_raw ht hc.1 (xs (nI i + nI 1).toNatClampNeg) (xs (nI i + nI 2).toNatClampNeg)) hc hm
  refine la_aload_n hC dL_law_443 rfl 2 rfl ?_
  refine la_aload_n hC dL_law_444 rfl 3 rfl ?_
  refine la_iload_n hC dL_law_445 rfl 0 rfl ?_
  refine la_iconst (v := nI 1) hC dL_law_446 rfl ?_
  refine la_iadd hC dL_law_447 ?_
  refine la_sld hC hX (inL (by omega) hL) dL_law_448 ?_
  refine la_aload_n hC dL_law_449 rfl 3 rfl ?_
  refine la_iload_n hC dL_law_450 rfl 0 rfl ?_
  refine la_iconst (v := nI 2) hC dL_law_451 rfl ?_
  refine la_iadd hC dL_law_452 ?_
  refine la_sld hC hX (inL (by omega) hL) dL_law_453 ?_
  refine la_calli (rest := []) (lr_V hC (kX6_raw l G b1) (cwV 2 hC.1.2.2.2.2 gL_law_X6_raw rfl rfl rfl (by decide +kernel) ⟨(Nat.le_of_ble_eq_true rfl), (Nat.le_of_ble_eq_true rfl)⟩) (show kd 0 = 6 from rfl) (by decide) (ce6 (show kd 0 = 6 from rfl)) rfl rfl rfl rfl (Nat.le_of_ble_eq_true rfl) hcs dL_law_454) ?_
  refine la_aload_n hC dL_law_457 rfl 1 rfl ?_
  refine la_aload_n hC dL_law_458 rfl 3 rfl ?_
  refine la_iload_n hC dL_law_459 rfl 0 rfl ?_
  refine la_iconst (v := nI 1) hC dL_law_460 rfl ?_
  refine la_iadd hC dL_law_461 ?_
  refine la_sld hC hX (inL (by omega) hL) dL_law_462 ?_
  refine la_aload_n hC dL_law_463 rfl 3 rfl ?_
  refine la_iload_n hC dL_law_464 rfl 0 rfl ?_
  refine la_iconst (v := nI 2) hC dL_law_465 rfl ?_
  refine la_iadd hC dL_law_466 ?_
  refine la_sld hC hX (inL (by omega) hL) dL_law_467 ?_
  refine la_calli (rest := [.int r]) (lr_V hC (kX7_raw l G b2) (cwV 2 hC.1.2.2.2.2 gL_law_X7_raw rfl rfl rfl (by decide +kernel) ⟨(Nat.le_of_ble_eq_true rfl), (Nat.le_of_ble_eq_true rfl)⟩) (show kd 96 = 7 from rfl) (by decide) (ce7 (show kd 96 = 7 from rfl)) rfl rfl rfl rfl (Nat.le_of_ble_eq_true rfl) hcs dL_law_468) ?_
  refine la_eq hC 822 dL_law_471 (by decide) (fun _ => ?_) (fun h => absurd rfl h)
  exact next _ _ _ _ _ b3 b4 b5
set_option maxHeartbeats 4000000 in
theorem law_would (hC : wC p m c cL_law 4 s #[Value.ref b] wsL_law RL G) (hX : lX s G b L xs) (hL : L ≤ 3072) (hi : i + 6 ≤ L) (hcs : cells ≤ room_1.cells ∧ slots ≤ room_1.slots) (ht : TXo tl tx) (hc : IC V hs tl tx M) (hm : IM V hs tl tx M) (next : goesOn p l e s m below meth c Q G b i cells slots) : lAt p l e room_1 s m #[Value.ref b] below meth c Q 4 cells slots G M 476 (lvL G b i) [] := by
  obtain ⟨r, V2, hs2, tl2, tx2, M2, M3, b1, b2, b3, b4, b5⟩ := case_both (both_would ht hc.1 (xs (nI i + nI 1).toNatClampNeg) (xs (nI i + nI 2).toNatClampNeg) (xs (nI i + nI 3).toNatClampNeg)) hc hm
  obtain ⟨b1, rfl⟩ := pw_some b1
  refine la_aload_n hC dL_law_476 rfl 2 rfl ?_
  refine la_aload_n hC dL_law_477 rfl 3 rfl ?_
  refine la_iload_n hC dL_law_478 rfl 0 rfl ?_
  refine la_iconst (v := nI 1) hC dL_law_479 rfl ?_
  refine la_iadd hC dL_law_480 ?_
  refine la_sld hC hX (inL (by omega) hL) dL_law_481 ?_
  refine la_aload_n hC dL_law_482 rfl 3 rfl ?_
  refine la_iload_n hC dL_law_483 rfl 0 rfl ?_
  refine la_iconst (v := nI 2) hC dL_law_484 rfl ?_
  refine la_iadd hC dL_law_485 ?_
  refine la_sld hC hX (inL (by omega) hL) dL_law_486 ?_
  refine la_aload_n hC dL_law_487 rfl 3 rfl ?_
  refine la_iload_n hC dL_law_488 rfl 0 rfl ?_
  refine la_iconst (v := nI 3) hC dL_law_489 rfl ?_
  refine la_iadd hC dL_law_490 ?_
  refine la_sld hC hX (inL (by omega) hL) dL_law_491 ?_
  refine la_calli (rest := []) (lr_V hC (kX6_would l G b1) (cwV 3 hC.1.2.2.2.2 gL_law_X6_would rfl rfl rfl (by decide +kernel) ⟨(Nat.le_of_ble_eq_true rfl), (Nat.le_of_ble_eq_true rfl)⟩) (show kd 0 = 6 from rfl) (by decide) (ce6 (show kd 0 = 6 from rfl)) rfl rfl rfl rfl (Nat.le_of_ble_eq_true rfl) hcs dL_law_492) ?_
  refine la_aload_n hC dL_law_495 rfl 1 rfl ?_
  refine la_aload_n hC dL_law_496 rfl 3 rfl ?_
  refine la_iload_n hC dL_law_497 rfl 0 rfl ?_
  refine la_iconst (v := nI 1) hC dL_law_498 rfl ?_
  refine la_iadd hC dL_law_499 ?_
  refine la_sld hC hX (inL (by omega) hL) dL_law_500 ?_
  refine la_aload_n hC dL_law_501 rfl 3 rfl ?_
  refine la_iload_n hC dL_law_502 rfl 0 rfl ?_
  refine la_iconst (v := nI 2) hC dL_law_503 rfl ?_
  refine la_iadd hC dL_law_504 ?_
  refine la_sld hC hX (inL (by omega) hL) dL_law_505 ?_
  refine la_aload_n hC dL_law_506 rfl 3 rfl ?_
  refine la_iload_n hC dL_law_507 rfl 0 rfl ?_
  refine la_iconst (v := nI 3) hC dL_law_508 rfl ?_
  refine la_iadd hC dL_law_509 ?_
  refine la_sld hC hX (inL (by omega) hL) dL_law_510 ?_
  refine la_calli (rest := [.int r]) (lr_V hC (kX7_would l G b2) (cwV 3 hC.1.2.2.2.2 gL_law_X7_would rfl rfl rfl (by decide +kernel) ⟨(Nat.le_of_ble_eq_true rfl), (Nat.le_of_ble_eq_true rfl)⟩) (show kd 96 = 7 from rfl) (by decide) (ce7 (show kd 96 = 7 from rfl)) rfl rfl rfl rfl (Nat.le_of_ble_eq_true rfl) hcs dL_law_511) ?_
  refine la_eq hC 822 dL_law_514 (by decide) (fun _ => ?_) (fun h => absurd rfl h)
  exact next _ _ _ _ _ b3 b4 b5
set_option maxHeartbeats 4000000 in
theorem law_pressureFor (hC : wC p m c cL_law 4 s #[Value.ref b] wsL_law RL G) (hX : lX s G b L xs) (hL : L ≤ 3072) (hi : i + 6 ≤ L) (hcs : cells ≤ room_1.cells ∧ slots ≤ room_1.slots) (ht : TXo tl tx) (hc : IC V hs tl tx M) (hm : IM V hs tl tx M) (next : goesOn p l e s m below meth c Q G b i cells slots) : lAt p l e room_1 s m #[Value.ref b] below meth c Q 4 cells slots G M 519 (lvL G b i) [] := by
  obtain ⟨r, V2, hs2, tl2, tx2, M2, M3, b1, b2, b3, b4, b5⟩ := case_both (both_pressureFor ht hc.1 (xs (nI i + nI 1).toNatClampNeg) (xs (nI i + nI 2).toNatClampNeg) (xs (nI i + nI 3).toNatClampNeg)) hc hm
  obtain ⟨b1, rfl⟩ := pw_some b1
  refine la_aload_n hC dL_law_519 rfl 2 rfl ?_
  refine la_aload_n hC dL_law_520 rfl 3 rfl ?_
  refine la_iload_n hC dL_law_521 rfl 0 rfl ?_
  refine la_iconst (v := nI 1) hC dL_law_522 rfl ?_
  refine la_iadd hC dL_law_523 ?_
  refine la_sld hC hX (inL (by omega) hL) dL_law_524 ?_
  refine la_aload_n hC dL_law_525 rfl 3 rfl ?_
  refine la_iload_n hC dL_law_526 rfl 0 rfl ?_
  refine la_iconst (v := nI 2) hC dL_law_527 rfl ?_
  refine la_iadd hC dL_law_528 ?_
  refine la_sld hC hX (inL (by omega) hL) dL_law_529 ?_
  refine la_aload_n hC dL_law_530 rfl 3 rfl ?_
  refine la_iload_n hC dL_law_531 rfl 0 rfl ?_
  refine la_iconst (v := nI 3) hC dL_law_532 rfl ?_
  refine la_iadd hC dL_law_533 ?_
  refine la_sld hC hX (inL (by omega) hL) dL_law_534 ?_
  refine la_calli (rest := []) (lr_V hC (kX6_pressureFor l G b1) (cwV 3 hC.1.2.2.2.2 gL_law_X6_pressureFor rfl rfl rfl (by decide +kernel) ⟨(Nat.le_of_ble_eq_true rfl), (Nat.le_of_ble_eq_true rfl)⟩) (show kd 0 = 6 from rfl) (by decide) (ce6 (show kd 0 = 6 from rfl)) rfl rfl rfl rfl (Nat.le_of_ble_eq_true rfl) hcs dL_law_535) ?_
  refine la_aload_n hC dL_law_538 rfl 1 rfl ?_
  refine la_aload_n hC dL_law_539 rfl 3 rfl ?_
  refine la_iload_n hC dL_law_540 rfl 0 rfl ?_
  refine la_iconst (v := nI 1) hC dL_law_541 rfl ?_
  refine la_iadd hC dL_law_542 ?_
  refine la_sld hC hX (inL (by omega) hL) dL_law_543 ?_
  refine la_aload_n hC dL_law_544 rfl 3 rfl ?_
  refine la_iload_n hC dL_law_545 rfl 0 rfl ?_
  refine la_iconst (v := nI 2) hC dL_law_546 rfl ?_
  refine la_iadd hC dL_law_547 ?_
  refine la_sld hC hX (inL (by omega) hL) dL_law_548 ?_
  refine la_aload_n hC dL_law_549 rfl 3 rfl ?_
  refine la_iload_n hC dL_law_550 rfl 0 rfl ?_
  refine la_iconst (v := nI 3) hC dL_law_551 rfl ?_
  refine la_iadd hC dL_law_552 ?_
  refine la_sld hC hX (inL (by omega) hL) dL_law_553 ?_
  refine la_calli (rest := [.int r]) (lr_V hC (kX7_pressureFor l G b2) (cwV 3 hC.1.2.2.2.2 gL_law_X7_pressureFor rfl rfl rfl (by decide +kernel) ⟨(Nat.le_of_ble_eq_true rfl), (Nat.le_of_ble_eq_true rfl)⟩) (show kd 96 = 7 from rfl) (by decide) (ce7 (show kd 96 = 7 from rfl)) rfl rfl rfl rfl (Nat.le_of_ble_eq_true rfl) hcs dL_law_554) ?_
  refine la_eq hC 822 dL_law_557 (by decide) (fun _ => ?_) (fun h => absurd rfl h)
  exact next _ _ _ _ _ b3 b4 b5
set_option maxHeartbeats 4000000 in
theorem law_loops (hC : wC p m c cL_law 4 s #[Value.ref b] wsL_law RL G) (hX : lX s G b L xs) (hL : L ≤ 3072) (hi : i + 6 ≤ L) (hcs : cells ≤ room_1.cells ∧ slots ≤ room_1.slots) (ht : TXo tl tx) (hc : IC V hs tl tx M) (hm : IM V hs tl tx M) (next : goesOn p l e s m below meth c Q G b i cells slots) : lAt p l e room_1 s m #[Value.ref b] below meth c Q 4 cells slots G M 562 (lvL G b i) [] := by
  obtain ⟨r, V2, hs2, tl2, tx2, M2, M3, b1, b2, b3, b4, b5⟩ := case_both (both_loops ht hc.1 (xs (nI i + nI 1).toNatClampNeg)) hc hm
  refine la_aload_n hC dL_law_562 rfl 2 rfl ?_
  refine la_aload_n hC dL_law_563 rfl 3 rfl ?_
  refine la_iload_n hC dL_law_564 rfl 0 rfl ?_
  refine la_iconst (v := nI 1) hC dL_law_565 rfl ?_
  refine la_iadd hC dL_law_566 ?_
  refine la_sld hC hX (inL (by omega) hL) dL_law_567 ?_
  refine la_calli (rest := []) (lr_V hC (kX6_loops l G b1) (cwV 1 hC.1.2.2.2.2 gL_law_X6_loops rfl rfl rfl (by decide +kernel) ⟨(Nat.le_of_ble_eq_true rfl), (Nat.le_of_ble_eq_true rfl)⟩) (show kd 0 = 6 from rfl) (by decide) (ce6 (show kd 0 = 6 from rfl)) rfl rfl rfl rfl (Nat.le_of_ble_eq_true rfl) hcs dL_law_568) ?_
  refine la_aload_n hC dL_law_571 rfl 1 rfl ?_
  refine la_aload_n hC dL_law_572 rfl 3 rfl ?_
  refine la_iload_n hC dL_law_573 rfl 0 rfl ?_
  refine la_iconst (v := nI 1) hC dL_law_574 rfl ?_
  refine la_iadd hC dL_law_575 ?_
  refine la_sld hC hX (inL (by omega) hL) dL_law_576 ?_
  refine la_calli (rest := [.int r]) (lr_V hC (kX7_loops l G b2) (cwV 1 hC.1.2.2.2.2 gL_law_X7_loops rfl rfl rfl (by decide +kernel) ⟨(Nat.le_of_ble_eq_true rfl), (Nat.le_of_ble_eq_true rfl)⟩) (show kd 96 = 7 from rfl) (by decide) (ce7 (show kd 96 = 7 from rfl)) rfl rfl rfl rfl (Nat.le_of_ble_eq_true rfl) hcs dL_law_577) ?_
  refine la_eq hC 822 dL_law_580 (by decide) (fun _ => ?_) (fun h => absurd rfl h)
  exact next _ _ _ _ _ b3 b4 b5
set_option maxHeartbeats 4000000 in
theorem law_loop (hC : wC p m c cL_law 4 s #[Value.ref b] wsL_law RL G) (hX : lX s G b L xs) (hL : L ≤ 3072) (hi : i + 6 ≤ L) (hcs : cells ≤ room_1.cells ∧ slots ≤ room_1.slots) (ht : TXo tl tx) (hc : IC V hs tl tx M) (hm : IM V hs tl tx M) (next : goesOn p l e s m below meth c Q G b i cells slots) : lAt p l e room_1 s m #[Value.ref b] below meth c Q 4 cells slots G M 585 (lvL G b i) [] := by
  obtain ⟨r, V2, hs2, tl2, tx2, M2, M3, b1, b2, b3, b4, b5⟩ := case_both (both_loop ht hc.1 (xs (nI i + nI 1).toNatClampNeg) (xs (nI i + nI 2).toNatClampNeg) (xs (nI i + nI 3).toNatClampNeg)) hc hm
  refine la_aload_n hC dL_law_585 rfl 2 rfl ?_
  refine la_aload_n hC dL_law_586 rfl 3 rfl ?_
  refine la_iload_n hC dL_law_587 rfl 0 rfl ?_
  refine la_iconst (v := nI 1) hC dL_law_588 rfl ?_
  refine la_iadd hC dL_law_589 ?_
  refine la_sld hC hX (inL (by omega) hL) dL_law_590 ?_
  refine la_aload_n hC dL_law_591 rfl 3 rfl ?_
  refine la_iload_n hC dL_law_592 rfl 0 rfl ?_
  refine la_iconst (v := nI 2) hC dL_law_593 rfl ?_
  refine la_iadd hC dL_law_594 ?_
  refine la_sld hC hX (inL (by omega) hL) dL_law_595 ?_
  refine la_aload_n hC dL_law_596 rfl 3 rfl ?_
  refine la_iload_n hC dL_law_597 rfl 0 rfl ?_
  refine la_iconst (v := nI 3) hC dL_law_598 rfl ?_
  refine la_iadd hC dL_law_599 ?_
  refine la_sld hC hX (inL (by omega) hL) dL_law_600 ?_
  refine la_calli (rest := []) (lr_V hC (kX6_loop l G b1) (cwV 3 hC.1.2.2.2.2 gL_law_X6_loop rfl rfl rfl (by decide +kernel) ⟨(Nat.le_of_ble_eq_true rfl), (Nat.le_of_ble_eq_true rfl)⟩) (show kd 0 = 6 from rfl) (by decide) (ce6 (show kd 0 = 6 from rfl)) rfl rfl rfl rfl (Nat.le_of_ble_eq_true rfl) hcs dL_law_601) ?_
  refine la_aload_n hC dL_law_604 rfl 1 rfl ?_
  refine la_aload_n hC dL_law_605 rfl 3 rfl ?_
  refine la_iload_n hC dL_law_606 rfl 0 rfl ?_
  refine la_iconst (v := nI 1) hC dL_law_607 rfl ?_
  refine la_iadd hC dL_law_608 ?_
  refine la_sld hC hX (inL (by omega) hL) dL_law_609 ?_
  refine la_aload_n hC dL_law_610 rfl 3 rfl ?_
  refine la_iload_n hC dL_law_611 rfl 0 rfl ?_
  refine la_iconst (v := nI 2) hC dL_law_612 rfl ?_
  refine la_iadd hC dL_law_613 ?_
  refine la_sld hC hX (inL (by omega) hL) dL_law_614 ?_
  refine la_aload_n hC dL_law_615 rfl 3 rfl ?_
  refine la_iload_n hC dL_law_616 rfl 0 rfl ?_
  refine la_iconst (v := nI 3) hC dL_law_617 rfl ?_
  refine la_iadd hC dL_law_618 ?_
  refine la_sld hC hX (inL (by omega) hL) dL_law_619 ?_
  refine la_calli (rest := [.int r]) (lr_V hC (kX7_loop l G b2) (cwV 3 hC.1.2.2.2.2 gL_law_X7_loop rfl rfl rfl (by decide +kernel) ⟨(Nat.le_of_ble_eq_true rfl), (Nat.le_of_ble_eq_true rfl)⟩) (show kd 96 = 7 from rfl) (by decide) (ce7 (show kd 96 = 7 from rfl)) rfl rfl rfl rfl (Nat.le_of_ble_eq_true rfl) hcs dL_law_620) ?_
  refine la_eq hC 822 dL_law_623 (by decide) (fun _ => ?_) (fun h => absurd rfl h)
  exact next _ _ _ _ _ b3 b4 b5
set_option maxHeartbeats 4000000 in
theorem law_openLoop (hC : wC p m c cL_law 4 s #[Value.ref b] wsL_law RL G) (hX : lX s G b L xs) (hL : L ≤ 3072) (hi : i + 6 ≤ L) (hcs : cells ≤ room_1.cells ∧ slots ≤ room_1.slots) (ht : TXo tl tx) (hc : IC V hs tl tx M) (hm : IM V hs tl tx M) (next : goesOn p l e s m below meth c Q G b i cells slots) : lAt p l e room_1 s m #[Value.ref b] below meth c Q 4 cells slots G M 628 (lvL G b i) [] := by
  obtain ⟨r, V2, hs2, tl2, tx2, M2, M3, b1, b2, b3, b4, b5⟩ := case_both (both_open ht hc.1 (xs (nI i + nI 1).toNatClampNeg) (xs (nI i + nI 2).toNatClampNeg)) hc hm
  refine la_aload_n hC dL_law_628 rfl 2 rfl ?_
  refine la_aload_n hC dL_law_629 rfl 3 rfl ?_
  refine la_iload_n hC dL_law_630 rfl 0 rfl ?_
  refine la_iconst (v := nI 1) hC dL_law_631 rfl ?_
  refine la_iadd hC dL_law_632 ?_
  refine la_sld hC hX (inL (by omega) hL) dL_law_633 ?_
  refine la_aload_n hC dL_law_634 rfl 3 rfl ?_
  refine la_iload_n hC dL_law_635 rfl 0 rfl ?_
  refine la_iconst (v := nI 2) hC dL_law_636 rfl ?_
  refine la_iadd hC dL_law_637 ?_
  refine la_sld hC hX (inL (by omega) hL) dL_law_638 ?_
  refine la_calli (rest := []) (lr_V hC (kX6_openLoop l G b1) (cwV 2 hC.1.2.2.2.2 gL_law_X6_openLoop rfl rfl rfl (by decide +kernel) ⟨(Nat.le_of_ble_eq_true rfl), (Nat.le_of_ble_eq_true rfl)⟩) (show kd 0 = 6 from rfl) (by decide) (ce6 (show kd 0 = 6 from rfl)) rfl rfl rfl rfl (Nat.le_of_ble_eq_true rfl) hcs dL_law_639) ?_
  refine la_aload_n hC dL_law_642 rfl 1 rfl ?_
  refine la_aload_n hC dL_law_643 rfl 3 rfl ?_
  refine la_iload_n hC dL_law_644 rfl 0 rfl ?_
  refine la_iconst (v := nI 1) hC dL_law_645 rfl ?_
  refine la_iadd hC dL_law_646 ?_
  refine la_sld hC hX (inL (by omega) hL) dL_law_647 ?_
  refine la_aload_n hC dL_law_648 rfl 3 rfl ?_
  refine la_iload_n hC dL_law_649 rfl 0 rfl ?_
  refine la_iconst (v := nI 2) hC dL_law_650 rfl ?_
  refine la_iadd hC dL_law_651 ?_
  refine la_sld hC hX (inL (by omega) hL) dL_law_652 ?_
  refine la_calli (rest := [.int r]) (lr_V hC (kX7_openLoop l G b2) (cwV 2 hC.1.2.2.2.2 gL_law_X7_openLoop rfl rfl rfl (by decide +kernel) ⟨(Nat.le_of_ble_eq_true rfl), (Nat.le_of_ble_eq_true rfl)⟩) (show kd 96 = 7 from rfl) (by decide) (ce7 (show kd 96 = 7 from rfl)) rfl rfl rfl rfl (Nat.le_of_ble_eq_true rfl) hcs dL_law_653) ?_
  refine la_eq hC 822 dL_law_656 (by decide) (fun _ => ?_) (fun h => absurd rfl h)
  exact next _ _ _ _ _ b3 b4 b5
set_option maxHeartbeats 4000000 in
theorem law_corrected (hC : wC p m c cL_law 4 s #[Value.ref b] wsL_law RL G) (hX : lX s G b L xs) (hL : L ≤ 3072) (hi : i + 6 ≤ L) (hcs : cells ≤ room_1.cells ∧ slots ≤ room_1.slots) (ht : TXo tl tx) (hc : IC V hs tl tx M) (hm : IM V hs tl tx M) (next : goesOn p l e s m below meth c Q G b i cells slots) : lAt p l e room_1 s m #[Value.ref b] below meth c Q 4 cells slots G M 661 (lvL G b i) [] := by
  obtain ⟨r, V2, hs2, tl2, tx2, M2, M3, b1, b2, b3, b4, b5⟩ := case_both (both_corr ht hc.1 (xs (nI i + nI 1).toNatClampNeg) (xs (nI i + nI 2).toNatClampNeg)) hc hm
  refine la_aload_n hC dL_law_661 rfl 2 rfl ?_
  refine la_aload_n hC dL_law_662 rfl 3 rfl ?_
  refine la_iload_n hC dL_law_663 rfl 0 rfl ?_
  refine la_iconst (v := nI 1) hC dL_law_664 rfl ?_
  refine la_iadd hC dL_law_665 ?_
  refine la_sld hC hX (inL (by omega) hL) dL_law_666 ?_
  refine la_aload_n hC dL_law_667 rfl 3 rfl ?_
  refine la_iload_n hC dL_law_668 rfl 0 rfl ?_
  refine la_iconst (v := nI 2) hC dL_law_669 rfl ?_
  refine la_iadd hC dL_law_670 ?_
  refine la_sld hC hX (inL (by omega) hL) dL_law_671 ?_
  refine la_calli (rest := []) (lr_V hC (kX6_corrected l G b1) (cwV 2 hC.1.2.2.2.2 gL_law_X6_corrected rfl rfl rfl (by decide +kernel) ⟨(Nat.le_of_ble_eq_true rfl), (Nat.le_of_ble_eq_true rfl)⟩) (show kd 0 = 6 from rfl) (by decide) (ce6 (show kd 0 = 6 from rfl)) rfl rfl rfl rfl (Nat.le_of_ble_eq_true rfl) hcs dL_law_672) ?_
  refine la_aload_n hC dL_law_675 rfl 1 rfl ?_
  refine la_aload_n hC dL_law_676 rfl 3 rfl ?_
  refine la_iload_n hC dL_law_677 rfl 0 rfl ?_
  refine la_iconst (v := nI 1) hC dL_law_678 rfl ?_
  refine la_iadd hC dL_law_679 ?_
  refine la_sld hC hX (inL (by omega) hL) dL_law_680 ?_
  refine la_aload_n hC dL_law_681 rfl 3 rfl ?_
  refine la_iload_n hC dL_law_682 rfl 0 rfl ?_
  refine la_iconst (v := nI 2) hC dL_law_683 rfl ?_
  refine la_iadd hC dL_law_684 ?_
  refine la_sld hC hX (inL (by omega) hL) dL_law_685 ?_
  refine la_calli (rest := [.int r]) (lr_V hC (kX7_corrected l G b2) (cwV 2 hC.1.2.2.2.2 gL_law_X7_corrected rfl rfl rfl (by decide +kernel) ⟨(Nat.le_of_ble_eq_true rfl), (Nat.le_of_ble_eq_true rfl)⟩) (show kd 96 = 7 from rfl) (by decide) (ce7 (show kd 96 = 7 from rfl)) rfl rfl rfl rfl (Nat.le_of_ble_eq_true rfl) hcs dL_law_686) ?_
  refine la_eq hC 822 dL_law_689 (by decide) (fun _ => ?_) (fun h => absurd rfl h)
  exact next _ _ _ _ _ b3 b4 b5
set_option maxHeartbeats 4000000 in
theorem law_point (hC : wC p m c cL_law 4 s #[Value.ref b] wsL_law RL G) (hX : lX s G b L xs) (hL : L ≤ 3072) (hi : i + 6 ≤ L) (hcs : cells ≤ room_1.cells ∧ slots ≤ room_1.slots) (ht : TXo tl tx) (hc : IC V hs tl tx M) (hm : IM V hs tl tx M) (next : goesOn p l e s m below meth c Q G b i cells slots) : lAt p l e room_1 s m #[Value.ref b] below meth c Q 4 cells slots G M 694 (lvL G b i) [] := by
  obtain ⟨r, V2, hs2, tl2, tx2, M2, M3, b1, b2, b3, b4, b5⟩ := case_both (both_point ht hc.1 (xs (nI i + nI 1).toNatClampNeg) (xs (nI i + nI 2).toNatClampNeg)) hc hm
  refine la_aload_n hC dL_law_694 rfl 2 rfl ?_
  refine la_aload_n hC dL_law_695 rfl 3 rfl ?_
  refine la_iload_n hC dL_law_696 rfl 0 rfl ?_
  refine la_iconst (v := nI 1) hC dL_law_697 rfl ?_
  refine la_iadd hC dL_law_698 ?_
  refine la_sld hC hX (inL (by omega) hL) dL_law_699 ?_
  refine la_aload_n hC dL_law_700 rfl 3 rfl ?_
  refine la_iload_n hC dL_law_701 rfl 0 rfl ?_
  refine la_iconst (v := nI 2) hC dL_law_702 rfl ?_
  refine la_iadd hC dL_law_703 ?_
  refine la_sld hC hX (inL (by omega) hL) dL_law_704 ?_
  refine la_calli (rest := []) (lr_V hC (kX6_point l G b1) (cwV 2 hC.1.2.2.2.2 gL_law_X6_point rfl rfl rfl (by decide +kernel) ⟨(Nat.le_of_ble_eq_true rfl), (Nat.le_of_ble_eq_true rfl)⟩) (show kd 0 = 6 from rfl) (by decide) (ce6 (show kd 0 = 6 from rfl)) rfl rfl rfl rfl (Nat.le_of_ble_eq_true rfl) hcs dL_law_705) ?_
  refine la_aload_n hC dL_law_708 rfl 1 rfl ?_
  refine la_aload_n hC dL_law_709 rfl 3 rfl ?_
  refine la_iload_n hC dL_law_710 rfl 0 rfl ?_
  refine la_iconst (v := nI 1) hC dL_law_711 rfl ?_
  refine la_iadd hC dL_law_712 ?_
  refine la_sld hC hX (inL (by omega) hL) dL_law_713 ?_
  refine la_aload_n hC dL_law_714 rfl 3 rfl ?_
  refine la_iload_n hC dL_law_715 rfl 0 rfl ?_
  refine la_iconst (v := nI 2) hC dL_law_716 rfl ?_
  refine la_iadd hC dL_law_717 ?_
  refine la_sld hC hX (inL (by omega) hL) dL_law_718 ?_
  refine la_calli (rest := [.int r]) (lr_V hC (kX7_point l G b2) (cwV 2 hC.1.2.2.2.2 gL_law_X7_point rfl rfl rfl (by decide +kernel) ⟨(Nat.le_of_ble_eq_true rfl), (Nat.le_of_ble_eq_true rfl)⟩) (show kd 96 = 7 from rfl) (by decide) (ce7 (show kd 96 = 7 from rfl)) rfl rfl rfl rfl (Nat.le_of_ble_eq_true rfl) hcs dL_law_719) ?_
  refine la_eq hC 822 dL_law_722 (by decide) (fun _ => ?_) (fun h => absurd rfl h)
  exact next _ _ _ _ _ b3 b4 b5
set_option maxHeartbeats 4000000 in
theorem law_worst (hC : wC p m c cL_law 4 s #[Value.ref b] wsL_law RL G) (hX : lX s G b L xs) (hL : L ≤ 3072) (hi : i + 6 ≤ L) (hcs : cells ≤ room_1.cells ∧ slots ≤ room_1.slots) (ht : TXo tl tx) (hc : IC V hs tl tx M) (hm : IM V hs tl tx M) (next : goesOn p l e s m below meth c Q G b i cells slots) : lAt p l e room_1 s m #[Value.ref b] below meth c Q 4 cells slots G M 727 (lvL G b i) [] := by
  obtain ⟨r, V2, hs2, tl2, tx2, M2, M3, b1, b2, b3, b4, b5⟩ := case_both (both_worst ht hc.1 (xs (nI i + nI 1).toNatClampNeg)) hc hm
  refine la_aload_n hC dL_law_727 rfl 2 rfl ?_
  refine la_aload_n hC dL_law_728 rfl 3 rfl ?_
  refine la_iload_n hC dL_law_729 rfl 0 rfl ?_
  refine la_iconst (v := nI 1) hC dL_law_730 rfl ?_
  refine la_iadd hC dL_law_731 ?_
  refine la_sld hC hX (inL (by omega) hL) dL_law_732 ?_
  refine la_calli (rest := []) (lr_V hC (kX6_worst l G b1) (cwV 1 hC.1.2.2.2.2 gL_law_X6_worst rfl rfl rfl (by decide +kernel) ⟨(Nat.le_of_ble_eq_true rfl), (Nat.le_of_ble_eq_true rfl)⟩) (show kd 0 = 6 from rfl) (by decide) (ce6 (show kd 0 = 6 from rfl)) rfl rfl rfl rfl (Nat.le_of_ble_eq_true rfl) hcs dL_law_733) ?_
  refine la_aload_n hC dL_law_736 rfl 1 rfl ?_
  refine la_aload_n hC dL_law_737 rfl 3 rfl ?_
  refine la_iload_n hC dL_law_738 rfl 0 rfl ?_
  refine la_iconst (v := nI 1) hC dL_law_739 rfl ?_
  refine la_iadd hC dL_law_740 ?_
  refine la_sld hC hX (inL (by omega) hL) dL_law_741 ?_
  refine la_calli (rest := [.int r]) (lr_V hC (kX7_worst l G b2) (cwV 1 hC.1.2.2.2.2 gL_law_X7_worst rfl rfl rfl (by decide +kernel) ⟨(Nat.le_of_ble_eq_true rfl), (Nat.le_of_ble_eq_true rfl)⟩) (show kd 96 = 7 from rfl) (by decide) (ce7 (show kd 96 = 7 from rfl)) rfl rfl rfl rfl (Nat.le_of_ble_eq_true rfl) hcs dL_law_742) ?_
  refine la_eq hC 822 dL_law_745 (by decide) (fun _ => ?_) (fun h => absurd rfl h)
  exact next _ _ _ _ _ b3 b4 b5
set_option maxHeartbeats 4000000 in
theorem law_type (hC : wC p m c cL_law 4 s #[Value.ref b] wsL_law RL G) (hX : lX s G b L xs) (hL : L ≤ 3072) (hi : i + 6 ≤ L) (hcs : cells ≤ room_1.cells ∧ slots ≤ room_1.slots) (ht : TXo tl tx) (hc : IC V hs tl tx M) (hm : IM V hs tl tx M) (next : goesOn p l e s m below meth c Q G b i cells slots) : lAt p l e room_1 s m #[Value.ref b] below meth c Q 4 cells slots G M 750 (lvL G b i) [] := by
  obtain ⟨r, V2, hs2, tl2, tx2, M2, M3, b1, b2, b3, b4, b5⟩ := case_both (both_type ht (xs (nI i + nI 1).toNatClampNeg)) hc hm
  refine la_aload_n hC dL_law_750 rfl 2 rfl ?_
  refine la_aload_n hC dL_law_751 rfl 3 rfl ?_
  refine la_iload_n hC dL_law_752 rfl 0 rfl ?_
  refine la_iconst (v := nI 1) hC dL_law_753 rfl ?_
  refine la_iadd hC dL_law_754 ?_
  refine la_sld hC hX (inL (by omega) hL) dL_law_755 ?_
  refine la_calli (rest := []) (lr_V hC (kX6_type l G b1) (cwV 1 hC.1.2.2.2.2 gL_law_X6_type rfl rfl rfl (by decide +kernel) ⟨(Nat.le_of_ble_eq_true rfl), (Nat.le_of_ble_eq_true rfl)⟩) (show kd 0 = 6 from rfl) (by decide) (ce6 (show kd 0 = 6 from rfl)) rfl rfl rfl rfl (Nat.le_of_ble_eq_true rfl) hcs dL_law_756) ?_
  refine la_aload_n hC dL_law_759 rfl 1 rfl ?_
  refine la_aload_n hC dL_law_760 rfl 3 rfl ?_
  refine la_iload_n hC dL_law_761 rfl 0 rfl ?_
  refine la_iconst (v := nI 1) hC dL_law_762 rfl ?_
  refine la_iadd hC dL_law_763 ?_
  refine la_sld hC hX (inL (by omega) hL) dL_law_764 ?_
  refine la_calli (rest := [.int r]) (lr_V hC (kX7_type l G b2) (cwV 1 hC.1.2.2.2.2 gL_law_X7_type rfl rfl rfl (by decide +kernel) ⟨(Nat.le_of_ble_eq_true rfl), (Nat.le_of_ble_eq_true rfl)⟩) (show kd 96 = 7 from rfl) (by decide) (ce7 (show kd 96 = 7 from rfl)) rfl rfl rfl rfl (Nat.le_of_ble_eq_true rfl) hcs dL_law_765) ?_
  refine la_eq hC 822 dL_law_768 (by decide) (fun _ => ?_) (fun h => absurd rfl h)
  exact next _ _ _ _ _ b3 b4 b5
set_option maxHeartbeats 4000000 in
theorem law_clearText (hC : wC p m c cL_law 4 s #[Value.ref b] wsL_law RL G) (hX : lX s G b L xs) (hL : L ≤ 3072) (hi : i + 6 ≤ L) (hcs : cells ≤ room_1.cells ∧ slots ≤ room_1.slots) (ht : TXo tl tx) (hc : IC V hs tl tx M) (hm : IM V hs tl tx M) (next : goesOn p l e s m below meth c Q G b i cells slots) : lAt p l e room_1 s m #[Value.ref b] below meth c Q 4 cells slots G M 773 (lvL G b i) [] := by
  obtain ⟨r, V2, hs2, tl2, tx2, M2, M3, b1, b2, b3, b4, b5⟩ := case_both (both_clearText  ) hc hm
  refine la_aload_n hC dL_law_773 rfl 2 rfl ?_
  refine la_calli (rest := []) (lr_V hC (kX6_clearText l G b1) (cwV 0 hC.1.2.2.2.2 gL_law_X6_clearText rfl rfl rfl (by decide +kernel) ⟨(Nat.le_of_ble_eq_true rfl), (Nat.le_of_ble_eq_true rfl)⟩) (show kd 0 = 6 from rfl) (by decide) (ce6 (show kd 0 = 6 from rfl)) rfl rfl rfl rfl (Nat.le_of_ble_eq_true rfl) hcs dL_law_774) ?_
  refine la_aload_n hC dL_law_777 rfl 1 rfl ?_
  refine la_calli (rest := [.int r]) (lr_V hC (kX7_clearText l G b2) (cwV 0 hC.1.2.2.2.2 gL_law_X7_clearText rfl rfl rfl (by decide +kernel) ⟨(Nat.le_of_ble_eq_true rfl), (Nat.le_of_ble_eq_true rfl)⟩) (show kd 96 = 7 from rfl) (by decide) (ce7 (show kd 96 = 7 from rfl)) rfl rfl rfl rfl (Nat.le_of_ble_eq_true rfl) hcs dL_law_778) ?_
  refine la_eq hC 822 dL_law_781 (by decide) (fun _ => ?_) (fun h => absurd rfl h)
  exact next _ _ _ _ _ b3 b4 b5
set_option maxHeartbeats 4000000 in
theorem law_fault (hC : wC p m c cL_law 4 s #[Value.ref b] wsL_law RL G) (hX : lX s G b L xs) (hL : L ≤ 3072) (hi : i + 6 ≤ L) (hcs : cells ≤ room_1.cells ∧ slots ≤ room_1.slots) (ht : TXo tl tx) (hc : IC V hs tl tx M) (hm : IM V hs tl tx M) (next : goesOn p l e s m below meth c Q G b i cells slots) : lAt p l e room_1 s m #[Value.ref b] below meth c Q 4 cells slots G M 786 (lvL G b i) [] := by
  obtain ⟨r, V2, hs2, tl2, tx2, M2, M3, b1, b2, b3, b4, b5⟩ := case_both (both_fault ht hc.1 (xs (nI i + nI 1).toNatClampNeg)) hc hm
  refine la_aload_n hC dL_law_786 rfl 2 rfl ?_
  refine la_aload_n hC dL_law_787 rfl 3 rfl ?_
  refine la_iload_n hC dL_law_788 rfl 0 rfl ?_
  refine la_iconst (v := nI 1) hC dL_law_789 rfl ?_
  refine la_iadd hC dL_law_790 ?_
  refine la_sld hC hX (inL (by omega) hL) dL_law_791 ?_
  refine la_calli (rest := []) (lr_V hC (kX6_fault l G b1) (cwV 1 hC.1.2.2.2.2 gL_law_X6_fault rfl rfl rfl (by decide +kernel) ⟨(Nat.le_of_ble_eq_true rfl), (Nat.le_of_ble_eq_true rfl)⟩) (show kd 0 = 6 from rfl) (by decide) (ce6 (show kd 0 = 6 from rfl)) rfl rfl rfl rfl (Nat.le_of_ble_eq_true rfl) hcs dL_law_792) ?_
  refine la_aload_n hC dL_law_795 rfl 1 rfl ?_
  refine la_aload_n hC dL_law_796 rfl 3 rfl ?_
  refine la_iload_n hC dL_law_797 rfl 0 rfl ?_
  refine la_iconst (v := nI 1) hC dL_law_798 rfl ?_
  refine la_iadd hC dL_law_799 ?_
  refine la_sld hC hX (inL (by omega) hL) dL_law_800 ?_
  refine la_calli (rest := [.int r]) (lr_V hC (kX7_fault l G b2) (cwV 1 hC.1.2.2.2.2 gL_law_X7_fault rfl rfl rfl (by decide +kernel) ⟨(Nat.le_of_ble_eq_true rfl), (Nat.le_of_ble_eq_true rfl)⟩) (show kd 96 = 7 from rfl) (by decide) (ce7 (show kd 96 = 7 from rfl)) rfl rfl rfl rfl (Nat.le_of_ble_eq_true rfl) hcs dL_law_801) ?_
  refine la_eq hC 822 dL_law_804 (by decide) (fun _ => ?_) (fun h => absurd rfl h)
  exact next _ _ _ _ _ b3 b4 b5
set_option maxHeartbeats 4000000 in
theorem law_enter (hC : wC p m c cL_law 4 s #[Value.ref b] wsL_law RL G) (hX : lX s G b L xs) (hL : L ≤ 3072) (hi : i + 6 ≤ L) (hcs : cells ≤ room_1.cells ∧ slots ≤ room_1.slots) (ht : TXo tl tx) (hc : IC V hs tl tx M) (hm : IM V hs tl tx M) (next : goesOn p l e s m below meth c Q G b i cells slots) : lAt p l e room_1 s m #[Value.ref b] below meth c Q 4 cells slots G M 809 (lvL G b i) [] := by
  obtain ⟨r, V2, hs2, tl2, tx2, M2, M3, b1, b2, b3, b4, b5⟩ := case_both (both_enter ht hc.1 ) hc hm
  refine la_aload_n hC dL_law_809 rfl 2 rfl ?_
  refine la_calli (rest := []) (lr_V hC (kX6_enter l G b1) (cwV 0 hC.1.2.2.2.2 gL_law_X6_enter rfl rfl rfl (by decide +kernel) ⟨(Nat.le_of_ble_eq_true rfl), (Nat.le_of_ble_eq_true rfl)⟩) (show kd 0 = 6 from rfl) (by decide) (ce6 (show kd 0 = 6 from rfl)) rfl rfl rfl rfl (Nat.le_of_ble_eq_true rfl) hcs dL_law_810) ?_
  refine la_aload_n hC dL_law_813 rfl 1 rfl ?_
  refine la_calli (rest := [.int r]) (lr_V hC (kX7_enter l G b2) (cwV 0 hC.1.2.2.2.2 gL_law_X7_enter rfl rfl rfl (by decide +kernel) ⟨(Nat.le_of_ble_eq_true rfl), (Nat.le_of_ble_eq_true rfl)⟩) (show kd 96 = 7 from rfl) (by decide) (ce7 (show kd 96 = 7 from rfl)) rfl rfl rfl rfl (Nat.le_of_ble_eq_true rfl) hcs dL_law_814) ?_
  refine la_eq hC 822 dL_law_817 (by decide) (fun _ => ?_) (fun h => absurd rfl h)
  exact next _ _ _ _ _ b3 b4 b5
end LC

/-! The law's cases -/
def LC (p : Program) (s : State) (m : MethodId) (meth : Method) (c : Code) (w : Wd) (sA : Nat → Nat) (b L : Nat) (xs : Nat → Int32) (A : Nat → Prop) : Prop := Cx p s m #[Value.ref b] c w A cL_law RL 8 wsL_law ∧ XF sA A s s.heap ∧ NCs s ∧ va_X b L xs s s.heap ∧ b < s.heap.size ∧ ¬ A b ∧ (∀ q, A q → s.heap.size ≤ q) ∧ meth.sig.returnType = ret ∧ meth.locks = false ∧ L ≤ 3072
set_option maxRecDepth 100000 in
set_option maxHeartbeats 4000000 in
theorem lc_feed {p : Program} {l : Launch} {e : Env} {s : State} {m : MethodId} {below : List Frame} {meth : Method} {c : Code} {Q : State → Prop} {w : Wd} {sA : Nat → Nat} {b L : Nat} {xs : Nat → Int32} {A : Nat → Prop} (hst : l.stackTraces = false) (X : LC p s m meth c w sA b L xs A) (σ : St) (h : RX σ σ) (i : Nat) (hi : i + 6 ≤ L) (cells slots : Nat) (hc : cells + 20 ≤ 601024) (hs : slots + 120 ≤ 7293034) (kont : ∀ σ9, RX σ9 σ9 → G p l e room_1 s m #[Value.ref b] below meth c Q w A 8 σ9 (cells + 20) (slots + 120) 2093 [(4, .int (nI i)), (3, .ref (w.1 30)), (2, .ref (w.1 0)), (1, .ref (w.1 31)), (0, .ref b)] []) : G p l e room_1 s m #[Value.ref b] below meth c Q w A 8 σ cells slots 196 [(4, .int (nI i)), (3, .ref (w.1 30)), (2, .ref (w.1 0)), (1, .ref (w.1 31)), (0, .ref b)] [] := by
  obtain ⟨C, hXF, hN, hX, hbl, hbA, _, _, _, hL⟩ := X
  obtain ⟨P, hM, hk⟩ := k_feed l w σ h (xs (i + 1)) (xs (i + 2)) (xs (i + 3)) (xs (i + 4)) (xs (i + 5))
  refine g_aload_n (pc9 := 197) C rfl 3 dL_law_196 rfl rfl ?_
  refine g_aload_n (pc9 := 198) C rfl 4 dL_law_197 rfl rfl ?_
  refine g_iload (pc9 := 200) C rfl 0 dL_law_198 rfl ?_
  refine g_iconst (pc9 := 201) C rfl (nI 1) dL_law_200 rfl ?_
  refine g_iaddN (pc9 := 202) C rfl dL_law_201 ?_
  refine g_scr (pc9 := 203) C rfl hX hbl hbA (i + 1) rfl (by omega) (by omega) dL_law_202 ?_
  refine g_aload_n (pc9 := 204) C rfl 4 dL_law_203 rfl rfl ?_
  refine g_iload (pc9 := 206) C rfl 0 dL_law_204 rfl ?_
  refine g_iconst (pc9 := 207) C rfl (nI 2) dL_law_206 rfl ?_
  refine g_iaddN (pc9 := 208) C rfl dL_law_207 ?_
  refine g_scr (pc9 := 209) C rfl hX hbl hbA (i + 2) rfl (by omega) (by omega) dL_law_208 ?_
  refine g_aload_n (pc9 := 210) C rfl 4 dL_law_209 rfl rfl ?_
  refine g_iload (pc9 := 212) C rfl 0 dL_law_210 rfl ?_
  refine g_iconst (pc9 := 213) C rfl (nI 3) dL_law_212 rfl ?_
  refine g_iaddN (pc9 := 214) C rfl dL_law_213 ?_
  refine g_scr (pc9 := 215) C rfl hX hbl hbA (i + 3) rfl (by omega) (by omega) dL_law_214 ?_
  refine g_aload_n (pc9 := 216) C rfl 4 dL_law_215 rfl rfl ?_
  refine g_iload (pc9 := 218) C rfl 0 dL_law_216 rfl ?_
  refine g_iconst (pc9 := 219) C rfl (nI 4) dL_law_218 rfl ?_
  refine g_iaddN (pc9 := 220) C rfl dL_law_219 ?_
  refine g_scr (pc9 := 221) C rfl hX hbl hbA (i + 4) rfl (by omega) (by omega) dL_law_220 ?_
  refine g_aload_n (pc9 := 222) C rfl 4 dL_law_221 rfl rfl ?_
  refine g_iload (pc9 := 224) C rfl 0 dL_law_222 rfl ?_
  refine g_iconst (pc9 := 225) C rfl (nI 5) dL_law_224 rfl ?_
  refine g_iaddN (pc9 := 226) C rfl dL_law_225 ?_
  refine g_scr (pc9 := 227) C rfl hX hbl hbA (i + 5) rfl (by omega) (by omega) dL_law_226 ?_
  refine g_callVi (nn := 5) (rest := []) (pc9 := 230) C rfl 31 [.int (xs (i + 1)), .int (xs (i + 2)), .int (xs (i + 3)), .int (xs (i + 4)), .int (xs (i + 5))] rfl dL_law_227 hM gL_law_X10_feed (by decide) (ce_31 w σ) rfl rfl rfl rfl rfl (by decide +kernel) ⟨by decide, by decide⟩ rfl (Nat.le_of_ble_eq_true rfl) ⟨by show _ ≤ 601024; omega, by show _ ≤ 7293034; omega⟩ (fun r_1 σ_1 q_1 => ?_)
  obtain ⟨PM, hM9, hk9⟩ := hk r_1 σ_1 q_1
  refine g_aload_n (pc9 := 231) C rfl 2 dL_law_230 rfl rfl ?_
  refine g_aload_n (pc9 := 232) C rfl 4 dL_law_231 rfl rfl ?_
  refine g_iload (pc9 := 234) C rfl 0 dL_law_232 rfl ?_
  refine g_iconst (pc9 := 235) C rfl (nI 1) dL_law_234 rfl ?_
  refine g_iaddN (pc9 := 236) C rfl dL_law_235 ?_
  refine g_scr (pc9 := 237) C rfl hX hbl hbA (i + 1) rfl (by omega) (by omega) dL_law_236 ?_
  refine g_aload_n (pc9 := 238) C rfl 4 dL_law_237 rfl rfl ?_
  refine g_iload (pc9 := 240) C rfl 0 dL_law_238 rfl ?_
  refine g_iconst (pc9 := 241) C rfl (nI 2) dL_law_240 rfl ?_
  refine g_iaddN (pc9 := 242) C rfl dL_law_241 ?_
  refine g_scr (pc9 := 243) C rfl hX hbl hbA (i + 2) rfl (by omega) (by omega) dL_law_242 ?_
  refine g_aload_n (pc9 := 244) C rfl 4 dL_law_243 rfl rfl ?_
  refine g_iload (pc9 := 246) C rfl 0 dL_law_244 rfl ?_
  refine g_iconst (pc9 := 247) C rfl (nI 3) dL_law_246 rfl ?_
  refine g_iaddN (pc9 := 248) C rfl dL_law_247 ?_
  refine g_scr (pc9 := 249) C rfl hX hbl hbA (i + 3) rfl (by omega) (by omega) dL_law_248 ?_
  refine g_aload_n (pc9 := 250) C rfl 4 dL_law_249 rfl rfl ?_
  refine g_iload (pc9 := 252) C rfl 0 dL_law_250 rfl ?_
  refine g_iconst (pc9 := 253) C rfl (nI 4) dL_law_252 rfl ?_
  refine g_iaddN (pc9 := 254) C rfl dL_law_253 ?_
  refine g_scr (pc9 := 255) C rfl hX hbl hbA (i + 4) rfl (by omega) (by omega) dL_law_254 ?_
  refine g_aload_n (pc9 := 256) C rfl 4 dL_law_255 rfl rfl ?_
  refine g_iload (pc9 := 258) C rfl 0 dL_law_256 rfl ?_
  refine g_iconst (pc9 := 259) C rfl (nI 5) dL_law_258 rfl ?_
  refine g_iaddN (pc9 := 260) C rfl dL_law_259 ?_
  refine g_scr (pc9 := 261) C rfl hX hbl hbA (i + 5) rfl (by omega) (by omega) dL_law_260 ?_
  refine g_callVi (nn := 5) (rest := [.int r_1]) (pc9 := 264) C rfl 0 [.int (xs (i + 1)), .int (xs (i + 2)), .int (xs (i + 3)), .int (xs (i + 4)), .int (xs (i + 5))] rfl dL_law_261 hM9 gL_law_X11_feed (by decide) (ce_0 w σ_1) rfl rfl rfl rfl rfl (by decide +kernel) ⟨by decide, by decide⟩ rfl (Nat.le_of_ble_eq_true rfl) ⟨by show _ ≤ 601024; omega, by show _ ≤ 7293034; omega⟩ (fun r_2 σ_2 q_2 => ?_)
  obtain ⟨t1, t2⟩ := hk9 r_2 σ_2 q_2
  refine g_icmp_eq (pc9 := 267) C rfl 2093 dL_law_264 rfl (fun _ => ?_) (fun z => absurd t1.symm z)
  exact g_wid (by omega) (by omega) (g_sub [0, 1, 2, 3, 4] [(4, .int (nI i)), (3, .ref (w.1 30)), (2, .ref (w.1 0)), (1, .ref (w.1 31)), (0, .ref b)] rfl (kont σ_2 t2))
set_option maxRecDepth 100000 in
set_option maxHeartbeats 4000000 in
theorem lc_end {p : Program} {l : Launch} {e : Env} {s : State} {m : MethodId} {below : List Frame} {meth : Method} {c : Code} {Q : State → Prop} {w : Wd} {sA : Nat → Nat} {b L : Nat} {xs : Nat → Int32} {A : Nat → Prop} (hst : l.stackTraces = false) (X : LC p s m meth c w sA b L xs A) (σ : St) (h : RX σ σ) (i : Nat) (hi : i + 6 ≤ L) (cells slots : Nat) (hc : cells + 20 ≤ 601024) (hs : slots + 120 ≤ 7293034) (kont : ∀ σ9, RX σ9 σ9 → G p l e room_1 s m #[Value.ref b] below meth c Q w A 8 σ9 (cells + 20) (slots + 120) 2093 [(4, .int (nI i)), (3, .ref (w.1 30)), (2, .ref (w.1 0)), (1, .ref (w.1 31)), (0, .ref b)] []) : G p l e room_1 s m #[Value.ref b] below meth c Q w A 8 σ cells slots 269 [(4, .int (nI i)), (3, .ref (w.1 30)), (2, .ref (w.1 0)), (1, .ref (w.1 31)), (0, .ref b)] [] := by
  obtain ⟨C, hXF, hN, hX, hbl, hbA, _, _, _, hL⟩ := X
  obtain ⟨P, hM, hk⟩ := k_end l w σ h (xs (i + 1))
  refine g_aload_n (pc9 := 270) C rfl 3 dL_law_269 rfl rfl ?_
  refine g_aload_n (pc9 := 271) C rfl 4 dL_law_270 rfl rfl ?_
  refine g_iload (pc9 := 273) C rfl 0 dL_law_271 rfl ?_
  refine g_iconst (pc9 := 274) C rfl (nI 1) dL_law_273 rfl ?_
  refine g_iaddN (pc9 := 275) C rfl dL_law_274 ?_
  refine g_scr (pc9 := 276) C rfl hX hbl hbA (i + 1) rfl (by omega) (by omega) dL_law_275 ?_
  refine g_callVi (nn := 1) (rest := []) (pc9 := 279) C rfl 31 [.int (xs (i + 1))] rfl dL_law_276 hM gL_law_X10_end (by decide) (ce_31 w σ) rfl rfl rfl rfl rfl (by decide +kernel) ⟨by decide, by decide⟩ rfl (Nat.le_of_ble_eq_true rfl) ⟨by show _ ≤ 601024; omega, by show _ ≤ 7293034; omega⟩ (fun r_1 σ_1 q_1 => ?_)
  obtain ⟨PM, hM9, hk9⟩ := hk r_1 σ_1 q_1
  refine g_aload_n (pc9 := 280) C rfl 2 dL_law_279 rfl rfl ?_
  refine g_aload_n (pc9 := 281) C rfl 4 dL_law_280 rfl rfl ?_
  refine g_iload (pc9 := 283) C rfl 0 dL_law_281 rfl ?_
  refine g_iconst (pc9 := 284) C rfl (nI 1) dL_law_283 rfl ?_
  refine g_iaddN (pc9 := 285) C rfl dL_law_284 ?_
  refine g_scr (pc9 := 286) C rfl hX hbl hbA (i + 1) rfl (by omega) (by omega) dL_law_285 ?_
  refine g_callVi (nn := 1) (rest := [.int r_1]) (pc9 := 289) C rfl 0 [.int (xs (i + 1))] rfl dL_law_286 hM9 gL_law_X11_end (by decide) (ce_0 w σ_1) rfl rfl rfl rfl rfl (by decide +kernel) ⟨by decide, by decide⟩ rfl (Nat.le_of_ble_eq_true rfl) ⟨by show _ ≤ 601024; omega, by show _ ≤ 7293034; omega⟩ (fun r_2 σ_2 q_2 => ?_)
  obtain ⟨t1, t2⟩ := hk9 r_2 σ_2 q_2
  refine g_icmp_eq (pc9 := 292) C rfl 2093 dL_law_289 rfl (fun _ => ?_) (fun z => absurd t1.symm z)
  exact g_wid (by omega) (by omega) (g_sub [0, 1, 2, 3, 4] [(4, .int (nI i)), (3, .ref (w.1 30)), (2, .ref (w.1 0)), (1, .ref (w.1 31)), (0, .ref b)] rfl (kont σ_2 t2))
set_option maxRecDepth 100000 in
set_option maxHeartbeats 4000000 in
theorem lc_read {p : Program} {l : Launch} {e : Env} {s : State} {m : MethodId} {below : List Frame} {meth : Method} {c : Code} {Q : State → Prop} {w : Wd} {sA : Nat → Nat} {b L : Nat} {xs : Nat → Int32} {A : Nat → Prop} (hst : l.stackTraces = false) (X : LC p s m meth c w sA b L xs A) (σ : St) (h : RX σ σ) (i : Nat) (hi : i + 6 ≤ L) (cells slots : Nat) (hc : cells + 20 ≤ 601024) (hs : slots + 120 ≤ 7293034) (kont : ∀ σ9, RX σ9 σ9 → G p l e room_1 s m #[Value.ref b] below meth c Q w A 8 σ9 (cells + 20) (slots + 120) 2093 [(4, .int (nI i)), (3, .ref (w.1 30)), (2, .ref (w.1 0)), (1, .ref (w.1 31)), (0, .ref b)] []) : G p l e room_1 s m #[Value.ref b] below meth c Q w A 8 σ cells slots 294 [(4, .int (nI i)), (3, .ref (w.1 30)), (2, .ref (w.1 0)), (1, .ref (w.1 31)), (0, .ref b)] [] := by
  obtain ⟨C, hXF, hN, hX, hbl, hbA, _, _, _, hL⟩ := X
  obtain ⟨P, hM, hk⟩ := k_read l hst w sA σ h (xs (i + 1))
  refine g_aload_n (pc9 := 295) C rfl 3 dL_law_294 rfl rfl ?_
  refine g_aload_n (pc9 := 296) C rfl 4 dL_law_295 rfl rfl ?_
  refine g_iload (pc9 := 298) C rfl 0 dL_law_296 rfl ?_
  refine g_iconst (pc9 := 299) C rfl (nI 1) dL_law_298 rfl ?_
  refine g_iaddN (pc9 := 300) C rfl dL_law_299 ?_
  refine g_scr (pc9 := 301) C rfl hX hbl hbA (i + 1) rfl (by omega) (by omega) dL_law_300 ?_
  refine g_aload_n (pc9 := 302) C rfl 1 dL_law_301 rfl rfl ?_
  refine w_callSi (rest := []) C hXF hN (pc9 := 305) rfl [.ref (w.1 31), .int (xs (i + 1)), .ref (w.1 30)] (nn := 3) rfl dL_law_302 hM gL_law_L_read rfl (by decide +kernel) ⟨by decide, by decide⟩ rfl (Nat.le_of_ble_eq_true rfl) ⟨by show _ ≤ 601024; omega, by show _ ≤ 7293034; omega⟩ (fun r_1 σ_1 q_1 => ?_)
  obtain ⟨PM, hM9, hk9⟩ := hk r_1 σ_1 q_1
  refine g_istore (pc9 := 307) C rfl [(5, .int r_1), (4, .int (nI i)), (3, .ref (w.1 30)), (2, .ref (w.1 0)), (1, .ref (w.1 31)), (0, .ref b)] dL_law_305 (by decide) rfl ?_
  refine g_aload_n (pc9 := 308) C rfl 3 dL_law_307 rfl rfl ?_
  refine g_aload_n (pc9 := 309) C rfl 5 dL_law_308 rfl rfl ?_
  refine g_iload (pc9 := 311) C rfl 1 dL_law_309 rfl ?_
  refine g_iconst (pc9 := 312) C rfl (nI 1) dL_law_311 rfl ?_
  refine g_iaddN (pc9 := 313) C rfl dL_law_312 ?_
  refine g_scr (pc9 := 314) C rfl hX hbl hbA (i + 1) rfl (by omega) (by omega) dL_law_313 ?_
  refine g_callVi (nn := 1) (rest := []) (pc9 := 317) C rfl 0 [.int (xs (i + 1))] rfl dL_law_314 hM9 gL_law_X11_read (by decide) (ce_0 w σ_1) rfl rfl rfl rfl rfl (by decide +kernel) ⟨by decide, by decide⟩ rfl (Nat.le_of_ble_eq_true rfl) ⟨by show _ ≤ 601024; omega, by show _ ≤ 7293034; omega⟩ (fun r_2 σ_2 q_2 => ?_)
  obtain ⟨t1, t2, t3⟩ := hk9 r_2 σ_2 q_2
  refine g_istore (pc9 := 319) C rfl [(6, .int r_2), (5, .int r_1), (4, .int (nI i)), (3, .ref (w.1 30)), (2, .ref (w.1 0)), (1, .ref (w.1 31)), (0, .ref b)] dL_law_317 (by decide) rfl ?_
  refine g_aload_n (pc9 := 320) C rfl 4 dL_law_319 rfl rfl ?_
  refine g_callVi (nn := 0) (rest := []) (pc9 := 323) C rfl 0 [] rfl dL_law_320 (m_X11_thrown l w σ_2) gL_law_X11_thrown (by decide) (ce_0 w σ_2) rfl rfl rfl rfl rfl (by decide +kernel) ⟨by decide, by decide⟩ rfl (Nat.le_of_ble_eq_true rfl) ⟨by show _ ≤ 601024; omega, by show _ ≤ 7293034; omega⟩ (fun r_3 σ_3 q_3 => ?_)
  obtain ⟨qs_3, qr_3⟩ := q_3
  rw [qs_3, qr_3, t1]
  refine g_iload (pc9 := 325) C rfl 1 dL_law_323 rfl ?_
  refine g_icmp_eq (pc9 := 328) C rfl 330 dL_law_325 rfl (fun _ => ?_) (fun z => absurd rfl z)
  refine g_iload (pc9 := 332) C rfl 1 dL_law_330 rfl ?_
  refine g_if_ne (pc9 := 335) C rfl 347 dL_law_332 rfl (fun _ => ?_) (fun c_1 => ?_)
  · refine g_goto C 2093 dL_law_347 rfl ?_
    exact g_wid (by omega) (by omega) (g_sub [2, 3, 4, 5, 6] [(4, .int (nI i)), (3, .ref (w.1 30)), (2, .ref (w.1 0)), (1, .ref (w.1 31)), (0, .ref b)] rfl (kont σ_2 t3))
  · have e2 := t2 c_1
    refine g_aload_n (pc9 := 336) C rfl 3 dL_law_335 rfl rfl ?_
    refine g_iconst (pc9 := 337) C rfl (nI 0) dL_law_336 rfl ?_
    refine g_lald (pc9 := 338) C rfl 30 0 (n := 1) (x := jA σ_2 30 0) dL_law_337 (by decide) (ce_30 w σ_2) rfl (by decide) (by decide) rfl ?_
    refine g_iload (pc9 := 340) C rfl 0 dL_law_338 rfl ?_
    refine g_i2l (pc9 := 341) C rfl dL_law_340 ?_
    refine g_lcmp (pc9 := 342) C rfl dL_law_341 ?_
    refine g_if_eq (pc9 := 345) C rfl 347 dL_law_342 rfl (fun _ => ?_) (fun z => absurd (lg_eq (e2)) z)
    refine g_goto C 2093 dL_law_347 rfl ?_
    exact g_wid (by omega) (by omega) (g_sub [2, 3, 4, 5, 6] [(4, .int (nI i)), (3, .ref (w.1 30)), (2, .ref (w.1 0)), (1, .ref (w.1 31)), (0, .ref b)] rfl (kont σ_2 t3))
set_option maxRecDepth 100000 in
set_option maxHeartbeats 4000000 in
theorem lc_fault {p : Program} {l : Launch} {e : Env} {s : State} {m : MethodId} {below : List Frame} {meth : Method} {c : Code} {Q : State → Prop} {w : Wd} {sA : Nat → Nat} {b L : Nat} {xs : Nat → Int32} {A : Nat → Prop} (hst : l.stackTraces = false) (X : LC p s m meth c w sA b L xs A) (σ : St) (h : RX σ σ) (i : Nat) (hi : i + 6 ≤ L) (cells slots : Nat) (hc : cells + 20 ≤ 601024) (hs : slots + 120 ≤ 7293034) (kont : ∀ σ9, RX σ9 σ9 → G p l e room_1 s m #[Value.ref b] below meth c Q w A 8 σ9 (cells + 20) (slots + 120) 2093 [(4, .int (nI i)), (3, .ref (w.1 30)), (2, .ref (w.1 0)), (1, .ref (w.1 31)), (0, .ref b)] []) : G p l e room_1 s m #[Value.ref b] below meth c Q w A 8 σ cells slots 350 [(4, .int (nI i)), (3, .ref (w.1 30)), (2, .ref (w.1 0)), (1, .ref (w.1 31)), (0, .ref b)] [] := by
  obtain ⟨C, hXF, hN, hX, hbl, hbA, _, _, _, hL⟩ := X
  obtain ⟨P, hM, hk⟩ := k_fault l w σ h (xs (i + 1))
  refine g_aload_n (pc9 := 351) C rfl 3 dL_law_350 rfl rfl ?_
  refine g_aload_n (pc9 := 352) C rfl 4 dL_law_351 rfl rfl ?_
  refine g_iload (pc9 := 354) C rfl 0 dL_law_352 rfl ?_
  refine g_iconst (pc9 := 355) C rfl (nI 1) dL_law_354 rfl ?_
  refine g_iaddN (pc9 := 356) C rfl dL_law_355 ?_
  refine g_scr (pc9 := 357) C rfl hX hbl hbA (i + 1) rfl (by omega) (by omega) dL_law_356 ?_
  refine g_callVi (nn := 1) (rest := []) (pc9 := 360) C rfl 31 [.int (xs (i + 1))] rfl dL_law_357 hM gL_law_X10_fault (by decide) (ce_31 w σ) rfl rfl rfl rfl rfl (by decide +kernel) ⟨by decide, by decide⟩ rfl (Nat.le_of_ble_eq_true rfl) ⟨by show _ ≤ 601024; omega, by show _ ≤ 7293034; omega⟩ (fun r_1 σ_1 q_1 => ?_)
  obtain ⟨PM, hM9, hk9⟩ := hk r_1 σ_1 q_1
  refine g_aload_n (pc9 := 361) C rfl 2 dL_law_360 rfl rfl ?_
  refine g_aload_n (pc9 := 362) C rfl 4 dL_law_361 rfl rfl ?_
  refine g_iload (pc9 := 364) C rfl 0 dL_law_362 rfl ?_
  refine g_iconst (pc9 := 365) C rfl (nI 1) dL_law_364 rfl ?_
  refine g_iaddN (pc9 := 366) C rfl dL_law_365 ?_
  refine g_scr (pc9 := 367) C rfl hX hbl hbA (i + 1) rfl (by omega) (by omega) dL_law_366 ?_
  refine g_callVi (nn := 1) (rest := [.int r_1]) (pc9 := 370) C rfl 0 [.int (xs (i + 1))] rfl dL_law_367 hM9 gL_law_X11_fault (by decide) (ce_0 w σ_1) rfl rfl rfl rfl rfl (by decide +kernel) ⟨by decide, by decide⟩ rfl (Nat.le_of_ble_eq_true rfl) ⟨by show _ ≤ 601024; omega, by show _ ≤ 7293034; omega⟩ (fun r_2 σ_2 q_2 => ?_)
  obtain ⟨t1, t2⟩ := hk9 r_2 σ_2 q_2
  refine g_icmp_eq (pc9 := 373) C rfl 2093 dL_law_370 rfl (fun _ => ?_) (fun z => absurd t1.symm z)
  exact g_wid (by omega) (by omega) (g_sub [0, 1, 2, 3, 4] [(4, .int (nI i)), (3, .ref (w.1 30)), (2, .ref (w.1 0)), (1, .ref (w.1 31)), (0, .ref b)] rfl (kont σ_2 t2))
set_option maxRecDepth 100000 in
set_option maxHeartbeats 4000000 in
theorem lc_write {p : Program} {l : Launch} {e : Env} {s : State} {m : MethodId} {below : List Frame} {meth : Method} {c : Code} {Q : State → Prop} {w : Wd} {sA : Nat → Nat} {b L : Nat} {xs : Nat → Int32} {A : Nat → Prop} (hst : l.stackTraces = false) (X : LC p s m meth c w sA b L xs A) (σ : St) (h : RX σ σ) (i : Nat) (hi : i + 6 ≤ L) (cells slots : Nat) (hc : cells + 20 ≤ 601024) (hs : slots + 120 ≤ 7293034) (kont : ∀ σ9, RX σ9 σ9 → G p l e room_1 s m #[Value.ref b] below meth c Q w A 8 σ9 (cells + 20) (slots + 120) 2093 [(4, .int (nI i)), (3, .ref (w.1 30)), (2, .ref (w.1 0)), (1, .ref (w.1 31)), (0, .ref b)] []) : G p l e room_1 s m #[Value.ref b] below meth c Q w A 8 σ cells slots 375 [(4, .int (nI i)), (3, .ref (w.1 30)), (2, .ref (w.1 0)), (1, .ref (w.1 31)), (0, .ref b)] [] := by
  obtain ⟨C, hXF, hN, hX, hbl, hbA, _, _, _, hL⟩ := X
  obtain ⟨P, hM, hk⟩ := k_write l hst w sA σ h (xs (i + 1))
  refine g_aload_n (pc9 := 376) C rfl 3 dL_law_375 rfl rfl ?_
  refine g_aload_n (pc9 := 377) C rfl 4 dL_law_376 rfl rfl ?_
  refine g_iload (pc9 := 379) C rfl 0 dL_law_377 rfl ?_
  refine g_iconst (pc9 := 380) C rfl (nI 1) dL_law_379 rfl ?_
  refine g_iaddN (pc9 := 381) C rfl dL_law_380 ?_
  refine g_scr (pc9 := 382) C rfl hX hbl hbA (i + 1) rfl (by omega) (by omega) dL_law_381 ?_
  refine g_aload_n (pc9 := 383) C rfl 1 dL_law_382 rfl rfl ?_
  refine w_callSi (rest := []) C hXF hN (pc9 := 386) rfl [.ref (w.1 31), .int (xs (i + 1)), .ref (w.1 30)] (nn := 3) rfl dL_law_383 hM gL_law_L_write rfl (by decide +kernel) ⟨by decide, by decide⟩ rfl (Nat.le_of_ble_eq_true rfl) ⟨by show _ ≤ 601024; omega, by show _ ≤ 7293034; omega⟩ (fun r_1 σ_1 q_1 => ?_)
  obtain ⟨PM, hM9, hk9⟩ := hk r_1 σ_1 q_1
  refine g_istore (pc9 := 388) C rfl [(5, .int r_1), (4, .int (nI i)), (3, .ref (w.1 30)), (2, .ref (w.1 0)), (1, .ref (w.1 31)), (0, .ref b)] dL_law_386 (by decide) rfl ?_
  refine g_aload_n (pc9 := 389) C rfl 3 dL_law_388 rfl rfl ?_
  refine g_aload_n (pc9 := 390) C rfl 5 dL_law_389 rfl rfl ?_
  refine g_iload (pc9 := 392) C rfl 1 dL_law_390 rfl ?_
  refine g_iconst (pc9 := 393) C rfl (nI 1) dL_law_392 rfl ?_
  refine g_iaddN (pc9 := 394) C rfl dL_law_393 ?_
  refine g_scr (pc9 := 395) C rfl hX hbl hbA (i + 1) rfl (by omega) (by omega) dL_law_394 ?_
  refine g_callVi (nn := 1) (rest := []) (pc9 := 398) C rfl 0 [.int (xs (i + 1))] rfl dL_law_395 hM9 gL_law_X11_write (by decide) (ce_0 w σ_1) rfl rfl rfl rfl rfl (by decide +kernel) ⟨by decide, by decide⟩ rfl (Nat.le_of_ble_eq_true rfl) ⟨by show _ ≤ 601024; omega, by show _ ≤ 7293034; omega⟩ (fun r_2 σ_2 q_2 => ?_)
  obtain ⟨t1, t2, t3⟩ := hk9 r_2 σ_2 q_2
  refine g_istore (pc9 := 400) C rfl [(6, .int r_2), (5, .int r_1), (4, .int (nI i)), (3, .ref (w.1 30)), (2, .ref (w.1 0)), (1, .ref (w.1 31)), (0, .ref b)] dL_law_398 (by decide) rfl ?_
  refine g_aload_n (pc9 := 401) C rfl 4 dL_law_400 rfl rfl ?_
  refine g_callVi (nn := 0) (rest := []) (pc9 := 404) C rfl 0 [] rfl dL_law_401 (m_X11_thrown l w σ_2) gL_law_X11_thrown (by decide) (ce_0 w σ_2) rfl rfl rfl rfl rfl (by decide +kernel) ⟨by decide, by decide⟩ rfl (Nat.le_of_ble_eq_true rfl) ⟨by show _ ≤ 601024; omega, by show _ ≤ 7293034; omega⟩ (fun r_3 σ_3 q_3 => ?_)
  obtain ⟨qs_3, qr_3⟩ := q_3
  rw [qs_3, qr_3, t1]
  refine g_iload (pc9 := 406) C rfl 1 dL_law_404 rfl ?_
  refine g_icmp_eq (pc9 := 409) C rfl 411 dL_law_406 rfl (fun _ => ?_) (fun z => absurd rfl z)
  refine g_iload (pc9 := 413) C rfl 1 dL_law_411 rfl ?_
  refine g_if_ne (pc9 := 416) C rfl 428 dL_law_413 rfl (fun _ => ?_) (fun c_1 => ?_)
  · refine g_goto C 2093 dL_law_428 rfl ?_
    exact g_wid (by omega) (by omega) (g_sub [2, 3, 4, 5, 6] [(4, .int (nI i)), (3, .ref (w.1 30)), (2, .ref (w.1 0)), (1, .ref (w.1 31)), (0, .ref b)] rfl (kont σ_2 t3))
  · have e2 := t2 c_1
    refine g_aload_n (pc9 := 417) C rfl 3 dL_law_416 rfl rfl ?_
    refine g_iconst (pc9 := 418) C rfl (nI 0) dL_law_417 rfl ?_
    refine g_lald (pc9 := 419) C rfl 30 0 (n := 1) (x := jA σ_2 30 0) dL_law_418 (by decide) (ce_30 w σ_2) rfl (by decide) (by decide) rfl ?_
    refine g_iload (pc9 := 421) C rfl 0 dL_law_419 rfl ?_
    refine g_i2l (pc9 := 422) C rfl dL_law_421 ?_
    refine g_lcmp (pc9 := 423) C rfl dL_law_422 ?_
    refine g_if_eq (pc9 := 426) C rfl 428 dL_law_423 rfl (fun _ => ?_) (fun z => absurd (lg_eq (e2)) z)
    refine g_goto C 2093 dL_law_428 rfl ?_
    exact g_wid (by omega) (by omega) (g_sub [2, 3, 4, 5, 6] [(4, .int (nI i)), (3, .ref (w.1 30)), (2, .ref (w.1 0)), (1, .ref (w.1 31)), (0, .ref b)] rfl (kont σ_2 t3))
set_option maxRecDepth 100000 in
set_option maxHeartbeats 4000000 in
theorem lc_written {p : Program} {l : Launch} {e : Env} {s : State} {m : MethodId} {below : List Frame} {meth : Method} {c : Code} {Q : State → Prop} {w : Wd} {sA : Nat → Nat} {b L : Nat} {xs : Nat → Int32} {A : Nat → Prop} (hst : l.stackTraces = false) (X : LC p s m meth c w sA b L xs A) (σ : St) (h : RX σ σ) (i : Nat) (hi : i + 6 ≤ L) (cells slots : Nat) (hc : cells + 20 ≤ 601024) (hs : slots + 120 ≤ 7293034) (kont : ∀ σ9, RX σ9 σ9 → G p l e room_1 s m #[Value.ref b] below meth c Q w A 8 σ9 (cells + 20) (slots + 120) 2093 [(4, .int (nI i)), (3, .ref (w.1 30)), (2, .ref (w.1 0)), (1, .ref (w.1 31)), (0, .ref b)] []) : G p l e room_1 s m #[Value.ref b] below meth c Q w A 8 σ cells slots 431 [(4, .int (nI i)), (3, .ref (w.1 30)), (2, .ref (w.1 0)), (1, .ref (w.1 31)), (0, .ref b)] [] := by
  obtain ⟨C, hXF, hN, hX, hbl, hbA, _, _, _, hL⟩ := X
  obtain ⟨P, hM, hk⟩ := k_written l w σ h (xs (i + 1))
  refine g_aload_n (pc9 := 432) C rfl 3 dL_law_431 rfl rfl ?_
  refine g_aload_n (pc9 := 433) C rfl 4 dL_law_432 rfl rfl ?_
  refine g_iload (pc9 := 435) C rfl 0 dL_law_433 rfl ?_
  refine g_iconst (pc9 := 436) C rfl (nI 1) dL_law_435 rfl ?_
  refine g_iaddN (pc9 := 437) C rfl dL_law_436 ?_
  refine g_scr (pc9 := 438) C rfl hX hbl hbA (i + 1) rfl (by omega) (by omega) dL_law_437 ?_
  refine g_callVi (nn := 1) (rest := []) (pc9 := 441) C rfl 31 [.int (xs (i + 1))] rfl dL_law_438 hM gL_law_X10_written (by decide) (ce_31 w σ) rfl rfl rfl rfl rfl (by decide +kernel) ⟨by decide, by decide⟩ rfl (Nat.le_of_ble_eq_true rfl) ⟨by show _ ≤ 601024; omega, by show _ ≤ 7293034; omega⟩ (fun r_1 σ_1 q_1 => ?_)
  obtain ⟨PM, hM9, hk9⟩ := hk r_1 σ_1 q_1
  refine g_aload_n (pc9 := 442) C rfl 2 dL_law_441 rfl rfl ?_
  refine g_aload_n (pc9 := 443) C rfl 4 dL_law_442 rfl rfl ?_
  refine g_iload (pc9 := 445) C rfl 0 dL_law_443 rfl ?_
  refine g_iconst (pc9 := 446) C rfl (nI 1) dL_law_445 rfl ?_
  refine g_iaddN (pc9 := 447) C rfl dL_law_446 ?_
  refine g_scr (pc9 := 448) C rfl hX hbl hbA (i + 1) rfl (by omega) (by omega) dL_law_447 ?_
  refine g_callVi (nn := 1) (rest := [.int r_1]) (pc9 := 451) C rfl 0 [.int (xs (i + 1))] rfl dL_law_448 hM9 gL_law_X11_written (by decide) (ce_0 w σ_1) rfl rfl rfl rfl rfl (by decide +kernel) ⟨by decide, by decide⟩ rfl (Nat.le_of_ble_eq_true rfl) ⟨by show _ ≤ 601024; omega, by show _ ≤ 7293034; omega⟩ (fun r_2 σ_2 q_2 => ?_)
  obtain ⟨t1, t2⟩ := hk9 r_2 σ_2 q_2
  refine g_icmp_eq (pc9 := 454) C rfl 2093 dL_law_451 rfl (fun _ => ?_) (fun z => absurd t1.symm z)
  exact g_wid (by omega) (by omega) (g_sub [0, 1, 2, 3, 4] [(4, .int (nI i)), (3, .ref (w.1 30)), (2, .ref (w.1 0)), (1, .ref (w.1 31)), (0, .ref b)] rfl (kont σ_2 t2))

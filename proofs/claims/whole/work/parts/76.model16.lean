/-! The reference: lays -/
def lzN : Int32 := 1000000
abbrev LzP := Int32 × Int32
abbrev lzI (p : Nat → Nat) (m x y : Nat) : Prop := x = m ∨ y = m ∨ mSd p m x = mSd p m y
noncomputable def lzD (D : Nat → Int32) (p : Nat → Nat) (o t m x y : Nat) : Int32 := D (47 * o + x) + D (47 * t + y) + cI (lzI p m x y) (nI 1) (nI 0)
noncomputable def lzL (L : Nat → Int32) (p : Nat → Nat) (o t m x y : Nat) : Int32 := L (47 * o + x) + L (47 * t + y) + nI (mSt p m x - 1) + nI (mSt p m y - 1) + cI (lzI p m x y ∧ ¬ x = m) (nI 1) (nI 0) + cI (lzI p m x y ∧ ¬ y = m) (nI 1) (nI 0)
/-- the less of two costs, the old one where they are alike -/
noncomputable def lzM (d e : Int32) (s : LzP) : LzP := cI (d < s.1 ∨ (d = s.1 ∧ e < s.2)) (d, e) s
abbrev lzX (D : Nat → Int32) (p : Nat → Nat) (o m x : Nat) : Prop := D (47 * o + x) < lzN ∧ mAb p m x
noncomputable def lzS (D L : Nat → Int32) (p : Nat → Nat) (o t m x y : Nat) (s : LzP) : LzP := cI (lzX D p o m x ∧ lzX D p t m y) (lzM (lzD D p o t m x y) (lzL L p o t m x y) s) s
noncomputable def lz1 (D L : Nat → Int32) (p : Nat → Nat) (o t m x : Nat) (s : LzP) : Nat → LzP
  | 0 => s
  | u + 1 => lzS D L p o t m x (m + u) (lz1 D L p o t m x s u)
noncomputable def lz2 (D L : Nat → Int32) (p : Nat → Nat) (o t m n : Nat) (s : LzP) : Nat → LzP
  | 0 => s
  | v + 1 => lz1 D L p o t m (m + v) (lz2 D L p o t m n s v) (n - m)
theorem lz1_n {D L : Nat → Int32} {p : Nat → Nat} {o t m x : Nat} {s : LzP} (h : ¬ lzX D p o m x) : ∀ u, lz1 D L p o t m x s u = s
  | 0 => rfl
  | u + 1 => by
    show lzS D L p o t m x (m + u) (lz1 D L p o t m x s u) = s
    rw [lz1_n h u]
    exact cI_f (fun q => h q.1)
set_option maxRecDepth 100000 in
set_option maxHeartbeats 4000000 in
theorem m16_cmp {p : Program} {l : Launch} {e : Env} {s : State} {m : MethodId} {args : Array Value} {below : List Frame} {meth : Method} {c : Code} {Q : State → Prop} {w : Wd} {A : Nat → Prop} (C : Cx p s m args c w A cX11_laysOne RX11 13 wsX11_laysOne) (σ : St) (i k g m9 o t9 x9 y9 : Nat) (hg : g < 47) (hm9 : m9 < 47) (z : LzP) (e9 d9 : Int32) (kont : G p l e (rmL 2) s m args below meth c Q w A 13 (sI (sI σ (25) (upd (iA σ 25) (47 * g + m9) (lzM d9 e9 z).1)) (26) (upd (iA σ 26) (47 * g + m9) (lzM d9 e9 z).2)) 0 0 347 [(9, .int (nI (y9))), (8, .int (nI (x9))), (0, .ref (w.1 (0))), (1, .int (nI (i))), (2, .int (nI (k))), (3, .int (nI (g))), (4, .int (nI (m9))), (5, .int (nI (o))), (6, .int (nI (t9))), (7, .int (nI (47 * g + m9)))] []) : G p l e (rmL 2) s m args below meth c Q w A 13 (sI (sI σ (25) (upd (iA σ 25) (47 * g + m9) (z).1)) (26) (upd (iA σ 26) (47 * g + m9) (z).2)) 0 0 293 [(12, .int (e9)), (11, .int (d9)), (9, .int (nI (y9))), (8, .int (nI (x9))), (0, .ref (w.1 (0))), (1, .int (nI (i))), (2, .int (nI (k))), (3, .int (nI (g))), (4, .int (nI (m9))), (5, .int (nI (o))), (6, .int (nI (t9))), (7, .int (nI (47 * g + m9)))] [] := by
  have hin_11 : ∀ u ∈ wsX110, u ∈ wsX11_laysOne := by decide +kernel
  have hl_92 : Cond.fieldLink RX11 92 "LineageBenchModel" "doubled" "[I" ∈ wsX11_laysOne := by decide +kernel
  have hl_95 : Cond.fieldLink RX11 95 "LineageBenchModel" "lost" "[I" ∈ wsX11_laysOne := by decide +kernel
  refine g_iload (pc9 := 295) C rfl 1 dX11_laysOne_293 rfl ?_
  refine g_aload_n (pc9 := 296) C rfl 4 dX11_laysOne_295 rfl rfl ?_
  refine g_get (v := .ref (w.1 (25))) (pc9 := 299) C rfl (0) 34 dX11_laysOne_296 (by decide) (ce_0 w (sI (sI σ (25) (upd (iA σ 25) (47 * g + m9) (z).1)) (26) (upd (iA σ 26) (47 * g + m9) (z).2))) hin_11 hl_92 rfl (by decide) rfl rfl ?_
  refine g_iload (pc9 := 301) C rfl 11 dX11_laysOne_299 rfl ?_
  refine g_iald (x := z.1) (pc9 := 302) C rfl (25) (47 * g + m9) dX11_laysOne_301 (by decide) (ce_25 w (sI (sI σ (25) (upd (iA σ 25) (47 * g + m9) (z).1)) (26) (upd (iA σ 26) (47 * g + m9) (z).2))) rfl (by omega) (by decide) ((congrFun ((iA_n (by decide)).trans (iA_s)) _).trans pk_us) ?_
  refine g_icmp_lt (pc9 := 305) C rfl 329 dX11_laysOne_302 rfl (fun c_1 => ?_) (fun c_1 => ?_)
  · have hs : lzM d9 e9 z = (d9, e9) := cI_t (Or.inl c_1)
    refine g_aload_n (pc9 := 330) C rfl 4 dX11_laysOne_329 rfl rfl ?_
    refine g_get (v := .ref (w.1 (25))) (pc9 := 333) C rfl (0) 34 dX11_laysOne_330 (by decide) (ce_0 w (sI (sI σ (25) (upd (iA σ 25) (47 * g + m9) (z).1)) (26) (upd (iA σ 26) (47 * g + m9) (z).2))) hin_11 hl_92 rfl (by decide) rfl rfl ?_
    refine g_iload (pc9 := 335) C rfl 11 dX11_laysOne_333 rfl ?_
    refine g_iload (pc9 := 337) C rfl 1 dX11_laysOne_335 rfl ?_
    refine g_iast (pc9 := 338) C rfl (25) (47 * g + m9) (upd (iA σ 25) (47 * g + m9) (z).1) dX11_laysOne_337 (by decide) (fun _ => rfl) (ce_25 w (sI (sI σ (25) (upd (iA σ 25) (47 * g + m9) (z).1)) (26) (upd (iA σ 26) (47 * g + m9) (z).2))) rfl (by omega) (by decide) ((iA_n (by decide)).trans (iA_s)) ?_
    rw [sI_cm (a := 26) (b := 25) (by decide), sI_sI (a := 25)]
    refine g_aload_n (pc9 := 339) C rfl 4 dX11_laysOne_338 rfl rfl ?_
    refine g_get (v := .ref (w.1 (26))) (pc9 := 342) C rfl (0) 35 dX11_laysOne_339 (by decide) (ce_0 w (sI (sI σ (25) (upd (upd (iA σ 25) (47 * g + m9) (z).1) (47 * g + m9) (d9))) (26) (upd (iA σ 26) (47 * g + m9) (z).2))) hin_11 hl_95 rfl (by decide) rfl rfl ?_
    refine g_iload (pc9 := 344) C rfl 11 dX11_laysOne_342 rfl ?_
    refine g_iload (pc9 := 346) C rfl 0 dX11_laysOne_344 rfl ?_
    refine g_iast (pc9 := 347) C rfl (26) (47 * g + m9) (upd (iA σ 26) (47 * g + m9) (z).2) dX11_laysOne_346 (by decide) (fun _ => rfl) (ce_26 w (sI (sI σ (25) (upd (upd (iA σ 25) (47 * g + m9) (z).1) (47 * g + m9) (d9))) (26) (upd (iA σ 26) (47 * g + m9) (z).2))) rfl (by omega) (by decide) (iA_s) ?_
    rw [sI_sI (a := 26)]
    refine g_sub [2, 3, 4, 5, 6, 7, 8, 9, 10, 11] [(9, .int (nI (y9))), (8, .int (nI (x9))), (0, .ref (w.1 (0))), (1, .int (nI (i))), (2, .int (nI (k))), (3, .int (nI (g))), (4, .int (nI (m9))), (5, .int (nI (o))), (6, .int (nI (t9))), (7, .int (nI (47 * g + m9)))] rfl ?_
    refine g_st (σ9 := sI (sI σ (25) (upd (iA σ 25) (47 * g + m9) (lzM d9 e9 z).1)) (26) (upd (iA σ 26) (47 * g + m9) (lzM d9 e9 z).2)) (by first | (rw [hs]; done) | (rw [hs]; rfl) | rw [hs, upd_upd, upd_upd]) ?_
    exact kont
  · have h1 := c_1
    refine g_iload (pc9 := 307) C rfl 1 dX11_laysOne_305 rfl ?_
    refine g_aload_n (pc9 := 308) C rfl 4 dX11_laysOne_307 rfl rfl ?_
    refine g_get (v := .ref (w.1 (25))) (pc9 := 311) C rfl (0) 34 dX11_laysOne_308 (by decide) (ce_0 w (sI (sI σ (25) (upd (iA σ 25) (47 * g + m9) (z).1)) (26) (upd (iA σ 26) (47 * g + m9) (z).2))) hin_11 hl_92 rfl (by decide) rfl rfl ?_
    refine g_iload (pc9 := 313) C rfl 11 dX11_laysOne_311 rfl ?_
    refine g_iald (x := z.1) (pc9 := 314) C rfl (25) (47 * g + m9) dX11_laysOne_313 (by decide) (ce_25 w (sI (sI σ (25) (upd (iA σ 25) (47 * g + m9) (z).1)) (26) (upd (iA σ 26) (47 * g + m9) (z).2))) rfl (by omega) (by decide) ((congrFun ((iA_n (by decide)).trans (iA_s)) _).trans pk_us) ?_
    refine g_icmp_ne (pc9 := 317) C rfl 347 dX11_laysOne_314 rfl (fun c_2 => ?_) (fun c_2 => ?_)
    · have hs : lzM d9 e9 z = z := cI_f (fun h => h.elim h1 (fun q => c_2 q.1))
      refine g_sub [2, 3, 4, 5, 6, 7, 8, 9, 10, 11] [(9, .int (nI (y9))), (8, .int (nI (x9))), (0, .ref (w.1 (0))), (1, .int (nI (i))), (2, .int (nI (k))), (3, .int (nI (g))), (4, .int (nI (m9))), (5, .int (nI (o))), (6, .int (nI (t9))), (7, .int (nI (47 * g + m9)))] rfl ?_
      refine g_st (σ9 := sI (sI σ (25) (upd (iA σ 25) (47 * g + m9) (lzM d9 e9 z).1)) (26) (upd (iA σ 26) (47 * g + m9) (lzM d9 e9 z).2)) (by first | (rw [hs]; done) | (rw [hs]; rfl) | rw [hs, upd_upd, upd_upd]) ?_
      exact kont
    · have h2 := Classical.not_not.mp (fun h => h c_2)
      refine g_iload (pc9 := 319) C rfl 0 dX11_laysOne_317 rfl ?_
      refine g_aload_n (pc9 := 320) C rfl 4 dX11_laysOne_319 rfl rfl ?_
      refine g_get (v := .ref (w.1 (26))) (pc9 := 323) C rfl (0) 35 dX11_laysOne_320 (by decide) (ce_0 w (sI (sI σ (25) (upd (iA σ 25) (47 * g + m9) (z).1)) (26) (upd (iA σ 26) (47 * g + m9) (z).2))) hin_11 hl_95 rfl (by decide) rfl rfl ?_
      refine g_iload (pc9 := 325) C rfl 11 dX11_laysOne_323 rfl ?_
      refine g_iald (x := z.2) (pc9 := 326) C rfl (26) (47 * g + m9) dX11_laysOne_325 (by decide) (ce_26 w (sI (sI σ (25) (upd (iA σ 25) (47 * g + m9) (z).1)) (26) (upd (iA σ 26) (47 * g + m9) (z).2))) rfl (by omega) (by decide) ((congrFun (iA_s) _).trans pk_us) ?_
      refine g_icmp_ge (pc9 := 329) C rfl 347 dX11_laysOne_326 rfl (fun c_3 => ?_) (fun c_3 => ?_)
      · have hs : lzM d9 e9 z = z := cI_f (fun h => h.elim h1 (fun q => absurd q.2 (Int32.not_lt.mpr c_3)))
        refine g_sub [2, 3, 4, 5, 6, 7, 8, 9, 10, 11] [(9, .int (nI (y9))), (8, .int (nI (x9))), (0, .ref (w.1 (0))), (1, .int (nI (i))), (2, .int (nI (k))), (3, .int (nI (g))), (4, .int (nI (m9))), (5, .int (nI (o))), (6, .int (nI (t9))), (7, .int (nI (47 * g + m9)))] rfl ?_
        refine g_st (σ9 := sI (sI σ (25) (upd (iA σ 25) (47 * g + m9) (lzM d9 e9 z).1)) (26) (upd (iA σ 26) (47 * g + m9) (lzM d9 e9 z).2)) (by first | (rw [hs]; done) | (rw [hs]; rfl) | rw [hs, upd_upd, upd_upd]) ?_
        exact kont
      · have hs : lzM d9 e9 z = (d9, e9) := cI_t (Or.inr ⟨h2, Int32.not_le.mp c_3⟩)
        refine g_aload_n (pc9 := 330) C rfl 4 dX11_laysOne_329 rfl rfl ?_
        refine g_get (v := .ref (w.1 (25))) (pc9 := 333) C rfl (0) 34 dX11_laysOne_330 (by decide) (ce_0 w (sI (sI σ (25) (upd (iA σ 25) (47 * g + m9) (z).1)) (26) (upd (iA σ 26) (47 * g + m9) (z).2))) hin_11 hl_92 rfl (by decide) rfl rfl ?_
        refine g_iload (pc9 := 335) C rfl 11 dX11_laysOne_333 rfl ?_
        refine g_iload (pc9 := 337) C rfl 1 dX11_laysOne_335 rfl ?_
        refine g_iast (pc9 := 338) C rfl (25) (47 * g + m9) (upd (iA σ 25) (47 * g + m9) (z).1) dX11_laysOne_337 (by decide) (fun _ => rfl) (ce_25 w (sI (sI σ (25) (upd (iA σ 25) (47 * g + m9) (z).1)) (26) (upd (iA σ 26) (47 * g + m9) (z).2))) rfl (by omega) (by decide) ((iA_n (by decide)).trans (iA_s)) ?_
        rw [sI_cm (a := 26) (b := 25) (by decide), sI_sI (a := 25)]
        refine g_aload_n (pc9 := 339) C rfl 4 dX11_laysOne_338 rfl rfl ?_
        refine g_get (v := .ref (w.1 (26))) (pc9 := 342) C rfl (0) 35 dX11_laysOne_339 (by decide) (ce_0 w (sI (sI σ (25) (upd (upd (iA σ 25) (47 * g + m9) (z).1) (47 * g + m9) (d9))) (26) (upd (iA σ 26) (47 * g + m9) (z).2))) hin_11 hl_95 rfl (by decide) rfl rfl ?_
        refine g_iload (pc9 := 344) C rfl 11 dX11_laysOne_342 rfl ?_
        refine g_iload (pc9 := 346) C rfl 0 dX11_laysOne_344 rfl ?_
        refine g_iast (pc9 := 347) C rfl (26) (47 * g + m9) (upd (iA σ 26) (47 * g + m9) (z).2) dX11_laysOne_346 (by decide) (fun _ => rfl) (ce_26 w (sI (sI σ (25) (upd (upd (iA σ 25) (47 * g + m9) (z).1) (47 * g + m9) (d9))) (26) (upd (iA σ 26) (47 * g + m9) (z).2))) rfl (by omega) (by decide) (iA_s) ?_
        rw [sI_sI (a := 26)]
        refine g_sub [2, 3, 4, 5, 6, 7, 8, 9, 10, 11] [(9, .int (nI (y9))), (8, .int (nI (x9))), (0, .ref (w.1 (0))), (1, .int (nI (i))), (2, .int (nI (k))), (3, .int (nI (g))), (4, .int (nI (m9))), (5, .int (nI (o))), (6, .int (nI (t9))), (7, .int (nI (47 * g + m9)))] rfl ?_
        refine g_st (σ9 := sI (sI σ (25) (upd (iA σ 25) (47 * g + m9) (lzM d9 e9 z).1)) (26) (upd (iA σ 26) (47 * g + m9) (lzM d9 e9 z).2)) (by first | (rw [hs]; done) | (rw [hs]; rfl) | rw [hs, upd_upd, upd_upd]) ?_
        exact kont
set_option maxRecDepth 100000 in
set_option maxHeartbeats 4000000 in
theorem m16_val {p : Program} {l : Launch} {e : Env} {s : State} {m : MethodId} {args : Array Value} {below : List Frame} {meth : Method} {c : Code} {Q : State → Prop} {w : Wd} {A : Nat → Prop} (C : Cx p s m args c w A cX11_laysOne RX11 13 wsX11_laysOne) (σ : St) (hM : ∀ i, i < 8 → mtOk σ i) (i k g m9 o t9 : Nat) (hb_i : i < 8) (hb_k : k < 8) (hg : g < mN σ i) (ho : o < mN σ i) (ht : t9 < mN σ i) (hgo : g < o) (hgt : g < t9) (hm9 : m9 < mN σ k) (x9 y9 : Nat) (hx9 : x9 < mN σ k) (hy9 : y9 < mN σ k) (hA_x9 : mAb (mq σ k) m9 x9) (hA_y9 : mAb (mq σ k) m9 y9) (z : LzP) (kont : G p l e (rmL 2) s m args below meth c Q w A 13 (sI (sI σ (25) (upd (iA σ 25) (47 * g + m9) (z).1)) (26) (upd (iA σ 26) (47 * g + m9) (z).2)) 0 0 293 [(12, .int (lzL (iA σ 26) (mq σ k) o t9 m9 x9 y9)), (11, .int (lzD (iA σ 25) (mq σ k) o t9 m9 x9 y9)), (9, .int (nI (y9))), (8, .int (nI (x9))), (0, .ref (w.1 (0))), (1, .int (nI (i))), (2, .int (nI (k))), (3, .int (nI (g))), (4, .int (nI (m9))), (5, .int (nI (o))), (6, .int (nI (t9))), (7, .int (nI (47 * g + m9)))] []) : G p l e (rmL 2) s m args below meth c Q w A 13 (sI (sI σ (25) (upd (iA σ 25) (47 * g + m9) (z).1)) (26) (upd (iA σ 26) (47 * g + m9) (z).2)) 0 0 126 [(9, .int (nI (y9))), (8, .int (nI (x9))), (0, .ref (w.1 (0))), (1, .int (nI (i))), (2, .int (nI (k))), (3, .int (nI (g))), (4, .int (nI (m9))), (5, .int (nI (o))), (6, .int (nI (t9))), (7, .int (nI (47 * g + m9)))] [] := by
  have hin_11 : ∀ u ∈ wsX110, u ∈ wsX11_laysOne := by decide +kernel
  have hl_92 : Cond.fieldLink RX11 92 "LineageBenchModel" "doubled" "[I" ∈ wsX11_laysOne := by decide +kernel
  have hl_95 : Cond.fieldLink RX11 95 "LineageBenchModel" "lost" "[I" ∈ wsX11_laysOne := by decide +kernel
  have h47i := (hM i hb_i).2.1
  have h47k := (hM k hb_k).2.1
  refine g_iload (pc9 := 128) C rfl 1 dX11_laysOne_126 rfl ?_
  refine g_iload (pc9 := 130) C rfl 6 dX11_laysOne_128 rfl ?_
  refine g_icmp_eq (pc9 := 133) C rfl 161 dX11_laysOne_130 rfl (fun c_1 => ?_) (fun c_1 => ?_)
  · replace c_1 := (nI_eq (by omega) (by omega)).mp c_1
    have his : lzI (mq σ k) m9 x9 y9 := Or.inl c_1
    refine g_iconst (pc9 := 162) C rfl (nI (1)) dX11_laysOne_161 rfl ?_
    refine g_goto C 166 dX11_laysOne_162 rfl ?_
    refine g_istore (pc9 := 168) C rfl [(10, .int (nI (1))), (9, .int (nI (y9))), (8, .int (nI (x9))), (0, .ref (w.1 (0))), (1, .int (nI (i))), (2, .int (nI (k))), (3, .int (nI (g))), (4, .int (nI (m9))), (5, .int (nI (o))), (6, .int (nI (t9))), (7, .int (nI (47 * g + m9)))] dX11_laysOne_166 (by decide) rfl ?_
    refine g_aload_n (pc9 := 169) C rfl 3 dX11_laysOne_168 rfl rfl ?_
    refine g_get (v := .ref (w.1 (25))) (pc9 := 172) C rfl (0) 34 dX11_laysOne_169 (by decide) (ce_0 w (sI (sI σ (25) (upd (iA σ 25) (47 * g + m9) (z).1)) (26) (upd (iA σ 26) (47 * g + m9) (z).2))) hin_11 hl_92 rfl (by decide) rfl rfl ?_
    refine g_bipush (pc9 := 174) C rfl (nI (47)) dX11_laysOne_172 rfl ?_
    refine g_iload (pc9 := 176) C rfl 8 dX11_laysOne_174 rfl ?_
    refine g_imulN (pc9 := 177) C rfl dX11_laysOne_176 ?_
    refine g_iload (pc9 := 179) C rfl 2 dX11_laysOne_177 rfl ?_
    refine g_iaddN (pc9 := 180) C rfl dX11_laysOne_179 ?_
    refine g_iald (x := iA σ 25 (47 * o + x9)) (pc9 := 181) C rfl (25) ((47 * o) + x9) dX11_laysOne_180 (by decide) (ce_25 w (sI (sI σ (25) (upd (iA σ 25) (47 * g + m9) (z).1)) (26) (upd (iA σ 26) (47 * g + m9) (z).2))) rfl (by omega) (by decide) ((congrFun ((iA_n (by decide)).trans (iA_s)) _).trans (pk_un (by omega))) ?_
    refine g_aload_n (pc9 := 182) C rfl 3 dX11_laysOne_181 rfl rfl ?_
    refine g_get (v := .ref (w.1 (25))) (pc9 := 185) C rfl (0) 34 dX11_laysOne_182 (by decide) (ce_0 w (sI (sI σ (25) (upd (iA σ 25) (47 * g + m9) (z).1)) (26) (upd (iA σ 26) (47 * g + m9) (z).2))) hin_11 hl_92 rfl (by decide) rfl rfl ?_
    refine g_bipush (pc9 := 187) C rfl (nI (47)) dX11_laysOne_185 rfl ?_
    refine g_iload (pc9 := 189) C rfl 9 dX11_laysOne_187 rfl ?_
    refine g_imulN (pc9 := 190) C rfl dX11_laysOne_189 ?_
    refine g_iload (pc9 := 192) C rfl 1 dX11_laysOne_190 rfl ?_
    refine g_iaddN (pc9 := 193) C rfl dX11_laysOne_192 ?_
    refine g_iald (x := iA σ 25 (47 * t9 + y9)) (pc9 := 194) C rfl (25) ((47 * t9) + y9) dX11_laysOne_193 (by decide) (ce_25 w (sI (sI σ (25) (upd (iA σ 25) (47 * g + m9) (z).1)) (26) (upd (iA σ 26) (47 * g + m9) (z).2))) rfl (by omega) (by decide) ((congrFun ((iA_n (by decide)).trans (iA_s)) _).trans (pk_un (by omega))) ?_
    refine g_iadd (pc9 := 195) C rfl dX11_laysOne_194 ?_
    refine g_iload (pc9 := 197) C rfl 0 dX11_laysOne_195 rfl ?_
    refine g_if_eq (pc9 := 200) C rfl 204 dX11_laysOne_197 rfl (fun c_2 => ?_) (fun c_2 => ?_)
    · exact absurd c_2 (by decide)
    · have hb0 : cI (lzI (mq σ k) m9 x9 y9) (nI 1) (nI 0) = nI 1 := cI_t his
      refine g_iconst (pc9 := 201) C rfl (nI (1)) dX11_laysOne_200 rfl ?_
      refine g_goto C 205 dX11_laysOne_201 rfl ?_
      refine g_iadd (pc9 := 206) C rfl dX11_laysOne_205 ?_
      refine g_istore (pc9 := 208) C rfl [(11, .int (((iA σ 25 (47 * o + x9)) + (iA σ 25 (47 * t9 + y9))) + (nI (1)))), (10, .int (nI (1))), (9, .int (nI (y9))), (8, .int (nI (x9))), (0, .ref (w.1 (0))), (1, .int (nI (i))), (2, .int (nI (k))), (3, .int (nI (g))), (4, .int (nI (m9))), (5, .int (nI (o))), (6, .int (nI (t9))), (7, .int (nI (47 * g + m9)))] dX11_laysOne_206 (by decide) rfl ?_
      refine g_aload_n (pc9 := 209) C rfl 4 dX11_laysOne_208 rfl rfl ?_
      refine g_get (v := .ref (w.1 (26))) (pc9 := 212) C rfl (0) 35 dX11_laysOne_209 (by decide) (ce_0 w (sI (sI σ (25) (upd (iA σ 25) (47 * g + m9) (z).1)) (26) (upd (iA σ 26) (47 * g + m9) (z).2))) hin_11 hl_95 rfl (by decide) rfl rfl ?_
      refine g_bipush (pc9 := 214) C rfl (nI (47)) dX11_laysOne_212 rfl ?_
      refine g_iload (pc9 := 216) C rfl 9 dX11_laysOne_214 rfl ?_
      refine g_imulN (pc9 := 217) C rfl dX11_laysOne_216 ?_
      refine g_iload (pc9 := 219) C rfl 3 dX11_laysOne_217 rfl ?_
      refine g_iaddN (pc9 := 220) C rfl dX11_laysOne_219 ?_
      refine g_iald (x := iA σ 26 (47 * o + x9)) (pc9 := 221) C rfl (26) ((47 * o) + x9) dX11_laysOne_220 (by decide) (ce_26 w (sI (sI σ (25) (upd (iA σ 25) (47 * g + m9) (z).1)) (26) (upd (iA σ 26) (47 * g + m9) (z).2))) rfl (by omega) (by decide) ((congrFun (iA_s) _).trans (pk_un (by omega))) ?_
      refine g_aload_n (pc9 := 222) C rfl 4 dX11_laysOne_221 rfl rfl ?_
      refine g_get (v := .ref (w.1 (26))) (pc9 := 225) C rfl (0) 35 dX11_laysOne_222 (by decide) (ce_0 w (sI (sI σ (25) (upd (iA σ 25) (47 * g + m9) (z).1)) (26) (upd (iA σ 26) (47 * g + m9) (z).2))) hin_11 hl_95 rfl (by decide) rfl rfl ?_
      refine g_bipush (pc9 := 227) C rfl (nI (47)) dX11_laysOne_225 rfl ?_
      refine g_iload (pc9 := 229) C rfl 10 dX11_laysOne_227 rfl ?_
      refine g_imulN (pc9 := 230) C rfl dX11_laysOne_229 ?_
      refine g_iload (pc9 := 232) C rfl 2 dX11_laysOne_230 rfl ?_
      refine g_iaddN (pc9 := 233) C rfl dX11_laysOne_232 ?_
      refine g_iald (x := iA σ 26 (47 * t9 + y9)) (pc9 := 234) C rfl (26) ((47 * t9) + y9) dX11_laysOne_233 (by decide) (ce_26 w (sI (sI σ (25) (upd (iA σ 25) (47 * g + m9) (z).1)) (26) (upd (iA σ 26) (47 * g + m9) (z).2))) rfl (by omega) (by decide) ((congrFun (iA_s) _).trans (pk_un (by omega))) ?_
      refine g_iadd (pc9 := 235) C rfl dX11_laysOne_234 ?_
      refine g_aload_n (pc9 := 236) C rfl 4 dX11_laysOne_235 rfl rfl ?_
      refine g_iload_n (pc9 := 237) C rfl 6 dX11_laysOne_236 rfl rfl ?_
      refine g_iload (pc9 := 239) C rfl 8 dX11_laysOne_237 rfl ?_
      refine g_iload (pc9 := 241) C rfl 3 dX11_laysOne_239 rfl ?_
      refine g_callVi (nn := 3) (rest := [.int ((iA σ 26 (47 * o + x9)) + (iA σ 26 (47 * t9 + y9)))]) (pc9 := 244) C rfl (0) [.int (nI (k)), .int (nI (m9)), .int (nI (x9))] rfl dX11_laysOne_241 (m_X11_between l w (sI (sI σ (25) (upd (iA σ 25) (47 * g + m9) (z).1)) (26) (upd (iA σ 26) (47 * g + m9) (z).2)) k hb_k (hM k hb_k) m9 x9 (by show x9 < mN σ k; omega) (by omega) hA_x9) gX11_laysOne_X11_between (by decide) (ce_0 w (sI (sI σ (25) (upd (iA σ 25) (47 * g + m9) (z).1)) (26) (upd (iA σ 26) (47 * g + m9) (z).2))) rfl rfl rfl rfl rfl (by decide +kernel) ⟨by decide, by decide⟩ rfl (Nat.le_of_ble_eq_true rfl) ⟨by decide, by decide⟩ (fun r_3 σ_3 q_3 => ?_)
      obtain ⟨qs_3, qr_3⟩ := q_3
      replace qr_3 : r_3 = nI (mSt (mq σ k) m9 x9 - 1) := qr_3
      rw [qs_3, qr_3]
      clear qs_3 qr_3
      refine g_iadd (pc9 := 245) C rfl dX11_laysOne_244 ?_
      refine g_aload_n (pc9 := 246) C rfl 4 dX11_laysOne_245 rfl rfl ?_
      refine g_iload_n (pc9 := 247) C rfl 6 dX11_laysOne_246 rfl rfl ?_
      refine g_iload (pc9 := 249) C rfl 8 dX11_laysOne_247 rfl ?_
      refine g_iload (pc9 := 251) C rfl 2 dX11_laysOne_249 rfl ?_
      refine g_callVi (nn := 3) (rest := [.int (((iA σ 26 (47 * o + x9)) + (iA σ 26 (47 * t9 + y9))) + (nI (mSt (mq σ k) m9 x9 - 1)))]) (pc9 := 254) C rfl (0) [.int (nI (k)), .int (nI (m9)), .int (nI (y9))] rfl dX11_laysOne_251 (m_X11_between l w (sI (sI σ (25) (upd (iA σ 25) (47 * g + m9) (z).1)) (26) (upd (iA σ 26) (47 * g + m9) (z).2)) k hb_k (hM k hb_k) m9 y9 (by show y9 < mN σ k; omega) (by omega) hA_y9) gX11_laysOne_X11_between (by decide) (ce_0 w (sI (sI σ (25) (upd (iA σ 25) (47 * g + m9) (z).1)) (26) (upd (iA σ 26) (47 * g + m9) (z).2))) rfl rfl rfl rfl rfl (by decide +kernel) ⟨by decide, by decide⟩ rfl (Nat.le_of_ble_eq_true rfl) ⟨by decide, by decide⟩ (fun r_4 σ_4 q_4 => ?_)
      obtain ⟨qs_4, qr_4⟩ := q_4
      replace qr_4 : r_4 = nI (mSt (mq σ k) m9 y9 - 1) := qr_4
      rw [qs_4, qr_4]
      clear qs_4 qr_4
      refine g_iadd (pc9 := 255) C rfl dX11_laysOne_254 ?_
      refine g_iload (pc9 := 257) C rfl 1 dX11_laysOne_255 rfl ?_
      refine g_if_eq (pc9 := 260) C rfl 271 dX11_laysOne_257 rfl (fun c_5 => ?_) (fun c_5 => ?_)
      · exact absurd c_5 (by decide)
      · refine g_iload (pc9 := 262) C rfl 3 dX11_laysOne_260 rfl ?_
        refine g_iload (pc9 := 264) C rfl 8 dX11_laysOne_262 rfl ?_
        refine g_icmp_eq (pc9 := 267) C rfl 271 dX11_laysOne_264 rfl (fun c_6 => ?_) (fun c_6 => ?_)
        · replace c_6 := (nI_eq (by omega) (by omega)).mp c_6
          have hb1 : cI (lzI (mq σ k) m9 x9 y9 ∧ ¬ x9 = m9) (nI 1) (nI 0) = nI 0 := cI_f (fun q => q.2 (by assumption))
          refine g_iconst (pc9 := 272) C rfl (nI (0)) dX11_laysOne_271 rfl ?_
          refine g_iadd (pc9 := 273) C rfl dX11_laysOne_272 ?_
          refine g_iload (pc9 := 275) C rfl 1 dX11_laysOne_273 rfl ?_
          refine g_if_eq (pc9 := 278) C rfl 289 dX11_laysOne_275 rfl (fun c_7 => ?_) (fun c_7 => ?_)
          · exact absurd c_7 (by decide)
          · refine g_iload (pc9 := 280) C rfl 2 dX11_laysOne_278 rfl ?_
            refine g_iload (pc9 := 282) C rfl 8 dX11_laysOne_280 rfl ?_
            refine g_icmp_eq (pc9 := 285) C rfl 289 dX11_laysOne_282 rfl (fun c_8 => ?_) (fun c_8 => ?_)
            · replace c_8 := (nI_eq (by omega) (by omega)).mp c_8
              have hb2 : cI (lzI (mq σ k) m9 x9 y9 ∧ ¬ y9 = m9) (nI 1) (nI 0) = nI 0 := cI_f (fun q => q.2 (by assumption))
              refine g_iconst (pc9 := 290) C rfl (nI (0)) dX11_laysOne_289 rfl ?_
              refine g_iadd (pc9 := 291) C rfl dX11_laysOne_290 ?_
              refine g_istore (pc9 := 293) C rfl [(12, .int ((((((iA σ 26 (47 * o + x9)) + (iA σ 26 (47 * t9 + y9))) + (nI (mSt (mq σ k) m9 x9 - 1))) + (nI (mSt (mq σ k) m9 y9 - 1))) + (nI (0))) + (nI (0)))), (11, .int (((iA σ 25 (47 * o + x9)) + (iA σ 25 (47 * t9 + y9))) + (nI (1)))), (10, .int (nI (1))), (9, .int (nI (y9))), (8, .int (nI (x9))), (0, .ref (w.1 (0))), (1, .int (nI (i))), (2, .int (nI (k))), (3, .int (nI (g))), (4, .int (nI (m9))), (5, .int (nI (o))), (6, .int (nI (t9))), (7, .int (nI (47 * g + m9)))] dX11_laysOne_291 (by decide) rfl ?_
              refine g_sub [0, 1, 3, 4, 5, 6, 7, 8, 9, 10, 11, 12] [(12, .int ((((((iA σ 26 (47 * o + x9)) + (iA σ 26 (47 * t9 + y9))) + (nI (mSt (mq σ k) m9 x9 - 1))) + (nI (mSt (mq σ k) m9 y9 - 1))) + (nI (0))) + (nI (0)))), (11, .int (((iA σ 25 (47 * o + x9)) + (iA σ 25 (47 * t9 + y9))) + (nI (1)))), (9, .int (nI (y9))), (8, .int (nI (x9))), (0, .ref (w.1 (0))), (1, .int (nI (i))), (2, .int (nI (k))), (3, .int (nI (g))), (4, .int (nI (m9))), (5, .int (nI (o))), (6, .int (nI (t9))), (7, .int (nI (47 * g + m9)))] rfl ?_
              refine g_lv (lv9 := [(12, .int (lzL (iA σ 26) (mq σ k) o t9 m9 x9 y9)), (11, .int (lzD (iA σ 25) (mq σ k) o t9 m9 x9 y9)), (9, .int (nI (y9))), (8, .int (nI (x9))), (0, .ref (w.1 (0))), (1, .int (nI (i))), (2, .int (nI (k))), (3, .int (nI (g))), (4, .int (nI (m9))), (5, .int (nI (o))), (6, .int (nI (t9))), (7, .int (nI (47 * g + m9)))]) (by unfold lzD lzL; rw [hb0, hb1, hb2]; try rfl) ?_
              exact kont
            · replace c_8 := (not_congr (nI_eq (by omega) (by omega))).mp c_8
              have hb2 : cI (lzI (mq σ k) m9 x9 y9 ∧ ¬ y9 = m9) (nI 1) (nI 0) = nI 1 := cI_t ⟨his, by assumption⟩
              refine g_iconst (pc9 := 286) C rfl (nI (1)) dX11_laysOne_285 rfl ?_
              refine g_goto C 290 dX11_laysOne_286 rfl ?_
              refine g_iadd (pc9 := 291) C rfl dX11_laysOne_290 ?_
              refine g_istore (pc9 := 293) C rfl [(12, .int ((((((iA σ 26 (47 * o + x9)) + (iA σ 26 (47 * t9 + y9))) + (nI (mSt (mq σ k) m9 x9 - 1))) + (nI (mSt (mq σ k) m9 y9 - 1))) + (nI (0))) + (nI (1)))), (11, .int (((iA σ 25 (47 * o + x9)) + (iA σ 25 (47 * t9 + y9))) + (nI (1)))), (10, .int (nI (1))), (9, .int (nI (y9))), (8, .int (nI (x9))), (0, .ref (w.1 (0))), (1, .int (nI (i))), (2, .int (nI (k))), (3, .int (nI (g))), (4, .int (nI (m9))), (5, .int (nI (o))), (6, .int (nI (t9))), (7, .int (nI (47 * g + m9)))] dX11_laysOne_291 (by decide) rfl ?_
              refine g_sub [0, 1, 3, 4, 5, 6, 7, 8, 9, 10, 11, 12] [(12, .int ((((((iA σ 26 (47 * o + x9)) + (iA σ 26 (47 * t9 + y9))) + (nI (mSt (mq σ k) m9 x9 - 1))) + (nI (mSt (mq σ k) m9 y9 - 1))) + (nI (0))) + (nI (1)))), (11, .int (((iA σ 25 (47 * o + x9)) + (iA σ 25 (47 * t9 + y9))) + (nI (1)))), (9, .int (nI (y9))), (8, .int (nI (x9))), (0, .ref (w.1 (0))), (1, .int (nI (i))), (2, .int (nI (k))), (3, .int (nI (g))), (4, .int (nI (m9))), (5, .int (nI (o))), (6, .int (nI (t9))), (7, .int (nI (47 * g + m9)))] rfl ?_
              refine g_lv (lv9 := [(12, .int (lzL (iA σ 26) (mq σ k) o t9 m9 x9 y9)), (11, .int (lzD (iA σ 25) (mq σ k) o t9 m9 x9 y9)), (9, .int (nI (y9))), (8, .int (nI (x9))), (0, .ref (w.1 (0))), (1, .int (nI (i))), (2, .int (nI (k))), (3, .int (nI (g))), (4, .int (nI (m9))), (5, .int (nI (o))), (6, .int (nI (t9))), (7, .int (nI (47 * g + m9)))]) (by unfold lzD lzL; rw [hb0, hb1, hb2]; try rfl) ?_
              exact kont
        · replace c_6 := (not_congr (nI_eq (by omega) (by omega))).mp c_6
          exact absurd c_1 c_6
  · replace c_1 := (not_congr (nI_eq (by omega) (by omega))).mp c_1
    refine g_iload (pc9 := 135) C rfl 0 dX11_laysOne_133 rfl ?_
    refine g_iload (pc9 := 137) C rfl 6 dX11_laysOne_135 rfl ?_
    refine g_icmp_eq (pc9 := 140) C rfl 161 dX11_laysOne_137 rfl (fun c_9 => ?_) (fun c_9 => ?_)
    · replace c_9 := (nI_eq (by omega) (by omega)).mp c_9
      have his : lzI (mq σ k) m9 x9 y9 := Or.inr (Or.inl c_9)
      refine g_iconst (pc9 := 162) C rfl (nI (1)) dX11_laysOne_161 rfl ?_
      refine g_goto C 166 dX11_laysOne_162 rfl ?_
      refine g_istore (pc9 := 168) C rfl [(10, .int (nI (1))), (9, .int (nI (y9))), (8, .int (nI (x9))), (0, .ref (w.1 (0))), (1, .int (nI (i))), (2, .int (nI (k))), (3, .int (nI (g))), (4, .int (nI (m9))), (5, .int (nI (o))), (6, .int (nI (t9))), (7, .int (nI (47 * g + m9)))] dX11_laysOne_166 (by decide) rfl ?_
      refine g_aload_n (pc9 := 169) C rfl 3 dX11_laysOne_168 rfl rfl ?_
      refine g_get (v := .ref (w.1 (25))) (pc9 := 172) C rfl (0) 34 dX11_laysOne_169 (by decide) (ce_0 w (sI (sI σ (25) (upd (iA σ 25) (47 * g + m9) (z).1)) (26) (upd (iA σ 26) (47 * g + m9) (z).2))) hin_11 hl_92 rfl (by decide) rfl rfl ?_
      refine g_bipush (pc9 := 174) C rfl (nI (47)) dX11_laysOne_172 rfl ?_
      refine g_iload (pc9 := 176) C rfl 8 dX11_laysOne_174 rfl ?_
      refine g_imulN (pc9 := 177) C rfl dX11_laysOne_176 ?_
      refine g_iload (pc9 := 179) C rfl 2 dX11_laysOne_177 rfl ?_
      refine g_iaddN (pc9 := 180) C rfl dX11_laysOne_179 ?_
      refine g_iald (x := iA σ 25 (47 * o + x9)) (pc9 := 181) C rfl (25) ((47 * o) + x9) dX11_laysOne_180 (by decide) (ce_25 w (sI (sI σ (25) (upd (iA σ 25) (47 * g + m9) (z).1)) (26) (upd (iA σ 26) (47 * g + m9) (z).2))) rfl (by omega) (by decide) ((congrFun ((iA_n (by decide)).trans (iA_s)) _).trans (pk_un (by omega))) ?_
      refine g_aload_n (pc9 := 182) C rfl 3 dX11_laysOne_181 rfl rfl ?_
      refine g_get (v := .ref (w.1 (25))) (pc9 := 185) C rfl (0) 34 dX11_laysOne_182 (by decide) (ce_0 w (sI (sI σ (25) (upd (iA σ 25) (47 * g + m9) (z).1)) (26) (upd (iA σ 26) (47 * g + m9) (z).2))) hin_11 hl_92 rfl (by decide) rfl rfl ?_
      refine g_bipush (pc9 := 187) C rfl (nI (47)) dX11_laysOne_185 rfl ?_
      refine g_iload (pc9 := 189) C rfl 9 dX11_laysOne_187 rfl ?_
      refine g_imulN (pc9 := 190) C rfl dX11_laysOne_189 ?_
      refine g_iload (pc9 := 192) C rfl 1 dX11_laysOne_190 rfl ?_
      refine g_iaddN (pc9 := 193) C rfl dX11_laysOne_192 ?_
      refine g_iald (x := iA σ 25 (47 * t9 + y9)) (pc9 := 194) C rfl (25) ((47 * t9) + y9) dX11_laysOne_193 (by decide) (ce_25 w (sI (sI σ (25) (upd (iA σ 25) (47 * g + m9) (z).1)) (26) (upd (iA σ 26) (47 * g + m9) (z).2))) rfl (by omega) (by decide) ((congrFun ((iA_n (by decide)).trans (iA_s)) _).trans (pk_un (by omega))) ?_
      refine g_iadd (pc9 := 195) C rfl dX11_laysOne_194 ?_
      refine g_iload (pc9 := 197) C rfl 0 dX11_laysOne_195 rfl ?_
      refine g_if_eq (pc9 := 200) C rfl 204 dX11_laysOne_197 rfl (fun c_10 => ?_) (fun c_10 => ?_)
      · exact absurd c_10 (by decide)
      · have hb0 : cI (lzI (mq σ k) m9 x9 y9) (nI 1) (nI 0) = nI 1 := cI_t his
        refine g_iconst (pc9 := 201) C rfl (nI (1)) dX11_laysOne_200 rfl ?_
        refine g_goto C 205 dX11_laysOne_201 rfl ?_
        refine g_iadd (pc9 := 206) C rfl dX11_laysOne_205 ?_
        refine g_istore (pc9 := 208) C rfl [(11, .int (((iA σ 25 (47 * o + x9)) + (iA σ 25 (47 * t9 + y9))) + (nI (1)))), (10, .int (nI (1))), (9, .int (nI (y9))), (8, .int (nI (x9))), (0, .ref (w.1 (0))), (1, .int (nI (i))), (2, .int (nI (k))), (3, .int (nI (g))), (4, .int (nI (m9))), (5, .int (nI (o))), (6, .int (nI (t9))), (7, .int (nI (47 * g + m9)))] dX11_laysOne_206 (by decide) rfl ?_
        refine g_aload_n (pc9 := 209) C rfl 4 dX11_laysOne_208 rfl rfl ?_
        refine g_get (v := .ref (w.1 (26))) (pc9 := 212) C rfl (0) 35 dX11_laysOne_209 (by decide) (ce_0 w (sI (sI σ (25) (upd (iA σ 25) (47 * g + m9) (z).1)) (26) (upd (iA σ 26) (47 * g + m9) (z).2))) hin_11 hl_95 rfl (by decide) rfl rfl ?_
        refine g_bipush (pc9 := 214) C rfl (nI (47)) dX11_laysOne_212 rfl ?_
        refine g_iload (pc9 := 216) C rfl 9 dX11_laysOne_214 rfl ?_
        refine g_imulN (pc9 := 217) C rfl dX11_laysOne_216 ?_
        refine g_iload (pc9 := 219) C rfl 3 dX11_laysOne_217 rfl ?_
        refine g_iaddN (pc9 := 220) C rfl dX11_laysOne_219 ?_
        refine g_iald (x := iA σ 26 (47 * o + x9)) (pc9 := 221) C rfl (26) ((47 * o) + x9) dX11_laysOne_220 (by decide) (ce_26 w (sI (sI σ (25) (upd (iA σ 25) (47 * g + m9) (z).1)) (26) (upd (iA σ 26) (47 * g + m9) (z).2))) rfl (by omega) (by decide) ((congrFun (iA_s) _).trans (pk_un (by omega))) ?_
        refine g_aload_n (pc9 := 222) C rfl 4 dX11_laysOne_221 rfl rfl ?_
        refine g_get (v := .ref (w.1 (26))) (pc9 := 225) C rfl (0) 35 dX11_laysOne_222 (by decide) (ce_0 w (sI (sI σ (25) (upd (iA σ 25) (47 * g + m9) (z).1)) (26) (upd (iA σ 26) (47 * g + m9) (z).2))) hin_11 hl_95 rfl (by decide) rfl rfl ?_
        refine g_bipush (pc9 := 227) C rfl (nI (47)) dX11_laysOne_225 rfl ?_
        refine g_iload (pc9 := 229) C rfl 10 dX11_laysOne_227 rfl ?_
        refine g_imulN (pc9 := 230) C rfl dX11_laysOne_229 ?_
        refine g_iload (pc9 := 232) C rfl 2 dX11_laysOne_230 rfl ?_
        refine g_iaddN (pc9 := 233) C rfl dX11_laysOne_232 ?_
        refine g_iald (x := iA σ 26 (47 * t9 + y9)) (pc9 := 234) C rfl (26) ((47 * t9) + y9) dX11_laysOne_233 (by decide) (ce_26 w (sI (sI σ (25) (upd (iA σ 25) (47 * g + m9) (z).1)) (26) (upd (iA σ 26) (47 * g + m9) (z).2))) rfl (by omega) (by decide) ((congrFun (iA_s) _).trans (pk_un (by omega))) ?_
        refine g_iadd (pc9 := 235) C rfl dX11_laysOne_234 ?_
        refine g_aload_n (pc9 := 236) C rfl 4 dX11_laysOne_235 rfl rfl ?_
        refine g_iload_n (pc9 := 237) C rfl 6 dX11_laysOne_236 rfl rfl ?_
        refine g_iload (pc9 := 239) C rfl 8 dX11_laysOne_237 rfl ?_
        refine g_iload (pc9 := 241) C rfl 3 dX11_laysOne_239 rfl ?_
        refine g_callVi (nn := 3) (rest := [.int ((iA σ 26 (47 * o + x9)) + (iA σ 26 (47 * t9 + y9)))]) (pc9 := 244) C rfl (0) [.int (nI (k)), .int (nI (m9)), .int (nI (x9))] rfl dX11_laysOne_241 (m_X11_between l w (sI (sI σ (25) (upd (iA σ 25) (47 * g + m9) (z).1)) (26) (upd (iA σ 26) (47 * g + m9) (z).2)) k hb_k (hM k hb_k) m9 x9 (by show x9 < mN σ k; omega) (by omega) hA_x9) gX11_laysOne_X11_between (by decide) (ce_0 w (sI (sI σ (25) (upd (iA σ 25) (47 * g + m9) (z).1)) (26) (upd (iA σ 26) (47 * g + m9) (z).2))) rfl rfl rfl rfl rfl (by decide +kernel) ⟨by decide, by decide⟩ rfl (Nat.le_of_ble_eq_true rfl) ⟨by decide, by decide⟩ (fun r_11 σ_11 q_11 => ?_)
        obtain ⟨qs_11, qr_11⟩ := q_11
        replace qr_11 : r_11 = nI (mSt (mq σ k) m9 x9 - 1) := qr_11
        rw [qs_11, qr_11]
        clear qs_11 qr_11
        refine g_iadd (pc9 := 245) C rfl dX11_laysOne_244 ?_
        refine g_aload_n (pc9 := 246) C rfl 4 dX11_laysOne_245 rfl rfl ?_
        refine g_iload_n (pc9 := 247) C rfl 6 dX11_laysOne_246 rfl rfl ?_
        refine g_iload (pc9 := 249) C rfl 8 dX11_laysOne_247 rfl ?_
        refine g_iload (pc9 := 251) C rfl 2 dX11_laysOne_249 rfl ?_
        refine g_callVi (nn := 3) (rest := [.int (((iA σ 26 (47 * o + x9)) + (iA σ 26 (47 * t9 + y9))) + (nI (mSt (mq σ k) m9 x9 - 1)))]) (pc9 := 254) C rfl (0) [.int (nI (k)), .int (nI (m9)), .int (nI (y9))] rfl dX11_laysOne_251 (m_X11_between l w (sI (sI σ (25) (upd (iA σ 25) (47 * g + m9) (z).1)) (26) (upd (iA σ 26) (47 * g + m9) (z).2)) k hb_k (hM k hb_k) m9 y9 (by show y9 < mN σ k; omega) (by omega) hA_y9) gX11_laysOne_X11_between (by decide) (ce_0 w (sI (sI σ (25) (upd (iA σ 25) (47 * g + m9) (z).1)) (26) (upd (iA σ 26) (47 * g + m9) (z).2))) rfl rfl rfl rfl rfl (by decide +kernel) ⟨by decide, by decide⟩ rfl (Nat.le_of_ble_eq_true rfl) ⟨by decide, by decide⟩ (fun r_12 σ_12 q_12 => ?_)
        obtain ⟨qs_12, qr_12⟩ := q_12
        replace qr_12 : r_12 = nI (mSt (mq σ k) m9 y9 - 1) := qr_12
        rw [qs_12, qr_12]
        clear qs_12 qr_12
        refine g_iadd (pc9 := 255) C rfl dX11_laysOne_254 ?_
        refine g_iload (pc9 := 257) C rfl 1 dX11_laysOne_255 rfl ?_
        refine g_if_eq (pc9 := 260) C rfl 271 dX11_laysOne_257 rfl (fun c_13 => ?_) (fun c_13 => ?_)
        · exact absurd c_13 (by decide)
        · refine g_iload (pc9 := 262) C rfl 3 dX11_laysOne_260 rfl ?_
          refine g_iload (pc9 := 264) C rfl 8 dX11_laysOne_262 rfl ?_
          refine g_icmp_eq (pc9 := 267) C rfl 271 dX11_laysOne_264 rfl (fun c_14 => ?_) (fun c_14 => ?_)
          · replace c_14 := (nI_eq (by omega) (by omega)).mp c_14
            exact absurd c_14 c_1
          · replace c_14 := (not_congr (nI_eq (by omega) (by omega))).mp c_14
            have hb1 : cI (lzI (mq σ k) m9 x9 y9 ∧ ¬ x9 = m9) (nI 1) (nI 0) = nI 1 := cI_t ⟨his, by assumption⟩
            refine g_iconst (pc9 := 268) C rfl (nI (1)) dX11_laysOne_267 rfl ?_
            refine g_goto C 272 dX11_laysOne_268 rfl ?_
            refine g_iadd (pc9 := 273) C rfl dX11_laysOne_272 ?_
            refine g_iload (pc9 := 275) C rfl 1 dX11_laysOne_273 rfl ?_
            refine g_if_eq (pc9 := 278) C rfl 289 dX11_laysOne_275 rfl (fun c_15 => ?_) (fun c_15 => ?_)
            · exact absurd c_15 (by decide)
            · refine g_iload (pc9 := 280) C rfl 2 dX11_laysOne_278 rfl ?_
              refine g_iload (pc9 := 282) C rfl 8 dX11_laysOne_280 rfl ?_
              refine g_icmp_eq (pc9 := 285) C rfl 289 dX11_laysOne_282 rfl (fun c_16 => ?_) (fun c_16 => ?_)
              · replace c_16 := (nI_eq (by omega) (by omega)).mp c_16
                have hb2 : cI (lzI (mq σ k) m9 x9 y9 ∧ ¬ y9 = m9) (nI 1) (nI 0) = nI 0 := cI_f (fun q => q.2 (by assumption))
                refine g_iconst (pc9 := 290) C rfl (nI (0)) dX11_laysOne_289 rfl ?_
                refine g_iadd (pc9 := 291) C rfl dX11_laysOne_290 ?_
                refine g_istore (pc9 := 293) C rfl [(12, .int ((((((iA σ 26 (47 * o + x9)) + (iA σ 26 (47 * t9 + y9))) + (nI (mSt (mq σ k) m9 x9 - 1))) + (nI (mSt (mq σ k) m9 y9 - 1))) + (nI (1))) + (nI (0)))), (11, .int (((iA σ 25 (47 * o + x9)) + (iA σ 25 (47 * t9 + y9))) + (nI (1)))), (10, .int (nI (1))), (9, .int (nI (y9))), (8, .int (nI (x9))), (0, .ref (w.1 (0))), (1, .int (nI (i))), (2, .int (nI (k))), (3, .int (nI (g))), (4, .int (nI (m9))), (5, .int (nI (o))), (6, .int (nI (t9))), (7, .int (nI (47 * g + m9)))] dX11_laysOne_291 (by decide) rfl ?_
                refine g_sub [0, 1, 3, 4, 5, 6, 7, 8, 9, 10, 11, 12] [(12, .int ((((((iA σ 26 (47 * o + x9)) + (iA σ 26 (47 * t9 + y9))) + (nI (mSt (mq σ k) m9 x9 - 1))) + (nI (mSt (mq σ k) m9 y9 - 1))) + (nI (1))) + (nI (0)))), (11, .int (((iA σ 25 (47 * o + x9)) + (iA σ 25 (47 * t9 + y9))) + (nI (1)))), (9, .int (nI (y9))), (8, .int (nI (x9))), (0, .ref (w.1 (0))), (1, .int (nI (i))), (2, .int (nI (k))), (3, .int (nI (g))), (4, .int (nI (m9))), (5, .int (nI (o))), (6, .int (nI (t9))), (7, .int (nI (47 * g + m9)))] rfl ?_
                refine g_lv (lv9 := [(12, .int (lzL (iA σ 26) (mq σ k) o t9 m9 x9 y9)), (11, .int (lzD (iA σ 25) (mq σ k) o t9 m9 x9 y9)), (9, .int (nI (y9))), (8, .int (nI (x9))), (0, .ref (w.1 (0))), (1, .int (nI (i))), (2, .int (nI (k))), (3, .int (nI (g))), (4, .int (nI (m9))), (5, .int (nI (o))), (6, .int (nI (t9))), (7, .int (nI (47 * g + m9)))]) (by unfold lzD lzL; rw [hb0, hb1, hb2]; try rfl) ?_
                exact kont
              · replace c_16 := (not_congr (nI_eq (by omega) (by omega))).mp c_16
                exact absurd c_9 c_16
    · replace c_9 := (not_congr (nI_eq (by omega) (by omega))).mp c_9
      have hsx : mSd (mq σ k) m9 x9 ≤ x9 := itp_le (mq_le (hM k hb_k)) _ _
      have hsy : mSd (mq σ k) m9 y9 ≤ y9 := itp_le (mq_le (hM k hb_k)) _ _
      refine g_aload_n (pc9 := 141) C rfl 2 dX11_laysOne_140 rfl rfl ?_
      refine g_iload_n (pc9 := 142) C rfl 4 dX11_laysOne_141 rfl rfl ?_
      refine g_iload (pc9 := 144) C rfl 6 dX11_laysOne_142 rfl ?_
      refine g_iload (pc9 := 146) C rfl 1 dX11_laysOne_144 rfl ?_
      refine g_callVi (nn := 3) (rest := []) (pc9 := 149) C rfl (0) [.int (nI (k)), .int (nI (m9)), .int (nI (x9))] rfl dX11_laysOne_146 (m_X11_side l w (sI (sI σ (25) (upd (iA σ 25) (47 * g + m9) (z).1)) (26) (upd (iA σ 26) (47 * g + m9) (z).2)) k hb_k (hM k hb_k) m9 x9 (by show x9 < mN σ k; omega) (by omega) hA_x9 (by assumption)) gX11_laysOne_X11_side (by decide) (ce_0 w (sI (sI σ (25) (upd (iA σ 25) (47 * g + m9) (z).1)) (26) (upd (iA σ 26) (47 * g + m9) (z).2))) rfl rfl rfl rfl rfl (by decide +kernel) ⟨by decide, by decide⟩ rfl (Nat.le_of_ble_eq_true rfl) ⟨by decide, by decide⟩ (fun r_17 σ_17 q_17 => ?_)
      obtain ⟨qs_17, qr_17⟩ := q_17
      replace qr_17 : r_17 = nI (mSd (mq σ k) m9 x9) := qr_17
      rw [qs_17, qr_17]
      clear qs_17 qr_17
      refine g_aload_n (pc9 := 150) C rfl 2 dX11_laysOne_149 rfl rfl ?_
      refine g_iload_n (pc9 := 151) C rfl 4 dX11_laysOne_150 rfl rfl ?_
      refine g_iload (pc9 := 153) C rfl 6 dX11_laysOne_151 rfl ?_
      refine g_iload (pc9 := 155) C rfl 0 dX11_laysOne_153 rfl ?_
      refine g_callVi (nn := 3) (rest := [.int (nI (mSd (mq σ k) m9 x9))]) (pc9 := 158) C rfl (0) [.int (nI (k)), .int (nI (m9)), .int (nI (y9))] rfl dX11_laysOne_155 (m_X11_side l w (sI (sI σ (25) (upd (iA σ 25) (47 * g + m9) (z).1)) (26) (upd (iA σ 26) (47 * g + m9) (z).2)) k hb_k (hM k hb_k) m9 y9 (by show y9 < mN σ k; omega) (by omega) hA_y9 (by assumption)) gX11_laysOne_X11_side (by decide) (ce_0 w (sI (sI σ (25) (upd (iA σ 25) (47 * g + m9) (z).1)) (26) (upd (iA σ 26) (47 * g + m9) (z).2))) rfl rfl rfl rfl rfl (by decide +kernel) ⟨by decide, by decide⟩ rfl (Nat.le_of_ble_eq_true rfl) ⟨by decide, by decide⟩ (fun r_18 σ_18 q_18 => ?_)
      obtain ⟨qs_18, qr_18⟩ := q_18
      replace qr_18 : r_18 = nI (mSd (mq σ k) m9 y9) := qr_18
      rw [qs_18, qr_18]
      clear qs_18 qr_18
      refine g_icmp_ne (pc9 := 161) C rfl 165 dX11_laysOne_158 rfl (fun c_19 => ?_) (fun c_19 => ?_)
      · replace c_19 := (not_congr (nI_eq (by omega) (by omega))).mp c_19
        have his : ¬ lzI (mq σ k) m9 x9 y9 := fun h => by rcases h with h | h | h <;> contradiction
        refine g_iconst (pc9 := 166) C rfl (nI (0)) dX11_laysOne_165 rfl ?_
        refine g_istore (pc9 := 168) C rfl [(10, .int (nI (0))), (9, .int (nI (y9))), (8, .int (nI (x9))), (0, .ref (w.1 (0))), (1, .int (nI (i))), (2, .int (nI (k))), (3, .int (nI (g))), (4, .int (nI (m9))), (5, .int (nI (o))), (6, .int (nI (t9))), (7, .int (nI (47 * g + m9)))] dX11_laysOne_166 (by decide) rfl ?_
        refine g_aload_n (pc9 := 169) C rfl 3 dX11_laysOne_168 rfl rfl ?_
        refine g_get (v := .ref (w.1 (25))) (pc9 := 172) C rfl (0) 34 dX11_laysOne_169 (by decide) (ce_0 w (sI (sI σ (25) (upd (iA σ 25) (47 * g + m9) (z).1)) (26) (upd (iA σ 26) (47 * g + m9) (z).2))) hin_11 hl_92 rfl (by decide) rfl rfl ?_
        refine g_bipush (pc9 := 174) C rfl (nI (47)) dX11_laysOne_172 rfl ?_
        refine g_iload (pc9 := 176) C rfl 8 dX11_laysOne_174 rfl ?_
        refine g_imulN (pc9 := 177) C rfl dX11_laysOne_176 ?_
        refine g_iload (pc9 := 179) C rfl 2 dX11_laysOne_177 rfl ?_
        refine g_iaddN (pc9 := 180) C rfl dX11_laysOne_179 ?_
        refine g_iald (x := iA σ 25 (47 * o + x9)) (pc9 := 181) C rfl (25) ((47 * o) + x9) dX11_laysOne_180 (by decide) (ce_25 w (sI (sI σ (25) (upd (iA σ 25) (47 * g + m9) (z).1)) (26) (upd (iA σ 26) (47 * g + m9) (z).2))) rfl (by omega) (by decide) ((congrFun ((iA_n (by decide)).trans (iA_s)) _).trans (pk_un (by omega))) ?_
        refine g_aload_n (pc9 := 182) C rfl 3 dX11_laysOne_181 rfl rfl ?_
        refine g_get (v := .ref (w.1 (25))) (pc9 := 185) C rfl (0) 34 dX11_laysOne_182 (by decide) (ce_0 w (sI (sI σ (25) (upd (iA σ 25) (47 * g + m9) (z).1)) (26) (upd (iA σ 26) (47 * g + m9) (z).2))) hin_11 hl_92 rfl (by decide) rfl rfl ?_
        refine g_bipush (pc9 := 187) C rfl (nI (47)) dX11_laysOne_185 rfl ?_
        refine g_iload (pc9 := 189) C rfl 9 dX11_laysOne_187 rfl ?_
        refine g_imulN (pc9 := 190) C rfl dX11_laysOne_189 ?_
        refine g_iload (pc9 := 192) C rfl 1 dX11_laysOne_190 rfl ?_
        refine g_iaddN (pc9 := 193) C rfl dX11_laysOne_192 ?_
        refine g_iald (x := iA σ 25 (47 * t9 + y9)) (pc9 := 194) C rfl (25) ((47 * t9) + y9) dX11_laysOne_193 (by decide) (ce_25 w (sI (sI σ (25) (upd (iA σ 25) (47 * g + m9) (z).1)) (26) (upd (iA σ 26) (47 * g + m9) (z).2))) rfl (by omega) (by decide) ((congrFun ((iA_n (by decide)).trans (iA_s)) _).trans (pk_un (by omega))) ?_
        refine g_iadd (pc9 := 195) C rfl dX11_laysOne_194 ?_
        refine g_iload (pc9 := 197) C rfl 0 dX11_laysOne_195 rfl ?_
        refine g_if_eq (pc9 := 200) C rfl 204 dX11_laysOne_197 rfl (fun c_20 => ?_) (fun c_20 => ?_)
        · have hb0 : cI (lzI (mq σ k) m9 x9 y9) (nI 1) (nI 0) = nI 0 := cI_f his
          refine g_iconst (pc9 := 205) C rfl (nI (0)) dX11_laysOne_204 rfl ?_
          refine g_iadd (pc9 := 206) C rfl dX11_laysOne_205 ?_
          refine g_istore (pc9 := 208) C rfl [(11, .int (((iA σ 25 (47 * o + x9)) + (iA σ 25 (47 * t9 + y9))) + (nI (0)))), (10, .int (nI (0))), (9, .int (nI (y9))), (8, .int (nI (x9))), (0, .ref (w.1 (0))), (1, .int (nI (i))), (2, .int (nI (k))), (3, .int (nI (g))), (4, .int (nI (m9))), (5, .int (nI (o))), (6, .int (nI (t9))), (7, .int (nI (47 * g + m9)))] dX11_laysOne_206 (by decide) rfl ?_
          refine g_aload_n (pc9 := 209) C rfl 4 dX11_laysOne_208 rfl rfl ?_
          refine g_get (v := .ref (w.1 (26))) (pc9 := 212) C rfl (0) 35 dX11_laysOne_209 (by decide) (ce_0 w (sI (sI σ (25) (upd (iA σ 25) (47 * g + m9) (z).1)) (26) (upd (iA σ 26) (47 * g + m9) (z).2))) hin_11 hl_95 rfl (by decide) rfl rfl ?_
          refine g_bipush (pc9 := 214) C rfl (nI (47)) dX11_laysOne_212 rfl ?_
          refine g_iload (pc9 := 216) C rfl 9 dX11_laysOne_214 rfl ?_
          refine g_imulN (pc9 := 217) C rfl dX11_laysOne_216 ?_
          refine g_iload (pc9 := 219) C rfl 3 dX11_laysOne_217 rfl ?_
          refine g_iaddN (pc9 := 220) C rfl dX11_laysOne_219 ?_
          refine g_iald (x := iA σ 26 (47 * o + x9)) (pc9 := 221) C rfl (26) ((47 * o) + x9) dX11_laysOne_220 (by decide) (ce_26 w (sI (sI σ (25) (upd (iA σ 25) (47 * g + m9) (z).1)) (26) (upd (iA σ 26) (47 * g + m9) (z).2))) rfl (by omega) (by decide) ((congrFun (iA_s) _).trans (pk_un (by omega))) ?_
          refine g_aload_n (pc9 := 222) C rfl 4 dX11_laysOne_221 rfl rfl ?_
          refine g_get (v := .ref (w.1 (26))) (pc9 := 225) C rfl (0) 35 dX11_laysOne_222 (by decide) (ce_0 w (sI (sI σ (25) (upd (iA σ 25) (47 * g + m9) (z).1)) (26) (upd (iA σ 26) (47 * g + m9) (z).2))) hin_11 hl_95 rfl (by decide) rfl rfl ?_
          refine g_bipush (pc9 := 227) C rfl (nI (47)) dX11_laysOne_225 rfl ?_
          refine g_iload (pc9 := 229) C rfl 10 dX11_laysOne_227 rfl ?_
          refine g_imulN (pc9 := 230) C rfl dX11_laysOne_229 ?_
          refine g_iload (pc9 := 232) C rfl 2 dX11_laysOne_230 rfl ?_
          refine g_iaddN (pc9 := 233) C rfl dX11_laysOne_232 ?_
          refine g_iald (x := iA σ 26 (47 * t9 + y9)) (pc9 := 234) C rfl (26) ((47 * t9) + y9) dX11_laysOne_233 (by decide) (ce_26 w (sI (sI σ (25) (upd (iA σ 25) (47 * g + m9) (z).1)) (26) (upd (iA σ 26) (47 * g + m9) (z).2))) rfl (by omega) (by decide) ((congrFun (iA_s) _).trans (pk_un (by omega))) ?_
          refine g_iadd (pc9 := 235) C rfl dX11_laysOne_234 ?_
          refine g_aload_n (pc9 := 236) C rfl 4 dX11_laysOne_235 rfl rfl ?_
          refine g_iload_n (pc9 := 237) C rfl 6 dX11_laysOne_236 rfl rfl ?_
          refine g_iload (pc9 := 239) C rfl 8 dX11_laysOne_237 rfl ?_
          refine g_iload (pc9 := 241) C rfl 3 dX11_laysOne_239 rfl ?_
          refine g_callVi (nn := 3) (rest := [.int ((iA σ 26 (47 * o + x9)) + (iA σ 26 (47 * t9 + y9)))]) (pc9 := 244) C rfl (0) [.int (nI (k)), .int (nI (m9)), .int (nI (x9))] rfl dX11_laysOne_241 (m_X11_between l w (sI (sI σ (25) (upd (iA σ 25) (47 * g + m9) (z).1)) (26) (upd (iA σ 26) (47 * g + m9) (z).2)) k hb_k (hM k hb_k) m9 x9 (by show x9 < mN σ k; omega) (by omega) hA_x9) gX11_laysOne_X11_between (by decide) (ce_0 w (sI (sI σ (25) (upd (iA σ 25) (47 * g + m9) (z).1)) (26) (upd (iA σ 26) (47 * g + m9) (z).2))) rfl rfl rfl rfl rfl (by decide +kernel) ⟨by decide, by decide⟩ rfl (Nat.le_of_ble_eq_true rfl) ⟨by decide, by decide⟩ (fun r_21 σ_21 q_21 => ?_)
          obtain ⟨qs_21, qr_21⟩ := q_21
          replace qr_21 : r_21 = nI (mSt (mq σ k) m9 x9 - 1) := qr_21
          rw [qs_21, qr_21]
          clear qs_21 qr_21
          refine g_iadd (pc9 := 245) C rfl dX11_laysOne_244 ?_
          refine g_aload_n (pc9 := 246) C rfl 4 dX11_laysOne_245 rfl rfl ?_
          refine g_iload_n (pc9 := 247) C rfl 6 dX11_laysOne_246 rfl rfl ?_
          refine g_iload (pc9 := 249) C rfl 8 dX11_laysOne_247 rfl ?_
          refine g_iload (pc9 := 251) C rfl 2 dX11_laysOne_249 rfl ?_
          refine g_callVi (nn := 3) (rest := [.int (((iA σ 26 (47 * o + x9)) + (iA σ 26 (47 * t9 + y9))) + (nI (mSt (mq σ k) m9 x9 - 1)))]) (pc9 := 254) C rfl (0) [.int (nI (k)), .int (nI (m9)), .int (nI (y9))] rfl dX11_laysOne_251 (m_X11_between l w (sI (sI σ (25) (upd (iA σ 25) (47 * g + m9) (z).1)) (26) (upd (iA σ 26) (47 * g + m9) (z).2)) k hb_k (hM k hb_k) m9 y9 (by show y9 < mN σ k; omega) (by omega) hA_y9) gX11_laysOne_X11_between (by decide) (ce_0 w (sI (sI σ (25) (upd (iA σ 25) (47 * g + m9) (z).1)) (26) (upd (iA σ 26) (47 * g + m9) (z).2))) rfl rfl rfl rfl rfl (by decide +kernel) ⟨by decide, by decide⟩ rfl (Nat.le_of_ble_eq_true rfl) ⟨by decide, by decide⟩ (fun r_22 σ_22 q_22 => ?_)
          obtain ⟨qs_22, qr_22⟩ := q_22
          replace qr_22 : r_22 = nI (mSt (mq σ k) m9 y9 - 1) := qr_22
          rw [qs_22, qr_22]
          clear qs_22 qr_22
          refine g_iadd (pc9 := 255) C rfl dX11_laysOne_254 ?_
          refine g_iload (pc9 := 257) C rfl 1 dX11_laysOne_255 rfl ?_
          refine g_if_eq (pc9 := 260) C rfl 271 dX11_laysOne_257 rfl (fun c_23 => ?_) (fun c_23 => ?_)
          · have hb1 : cI (lzI (mq σ k) m9 x9 y9 ∧ ¬ x9 = m9) (nI 1) (nI 0) = nI 0 := cI_f (fun q => his q.1)
            refine g_iconst (pc9 := 272) C rfl (nI (0)) dX11_laysOne_271 rfl ?_
            refine g_iadd (pc9 := 273) C rfl dX11_laysOne_272 ?_
            refine g_iload (pc9 := 275) C rfl 1 dX11_laysOne_273 rfl ?_
            refine g_if_eq (pc9 := 278) C rfl 289 dX11_laysOne_275 rfl (fun c_24 => ?_) (fun c_24 => ?_)
            · have hb2 : cI (lzI (mq σ k) m9 x9 y9 ∧ ¬ y9 = m9) (nI 1) (nI 0) = nI 0 := cI_f (fun q => his q.1)
              refine g_iconst (pc9 := 290) C rfl (nI (0)) dX11_laysOne_289 rfl ?_
              refine g_iadd (pc9 := 291) C rfl dX11_laysOne_290 ?_
              refine g_istore (pc9 := 293) C rfl [(12, .int ((((((iA σ 26 (47 * o + x9)) + (iA σ 26 (47 * t9 + y9))) + (nI (mSt (mq σ k) m9 x9 - 1))) + (nI (mSt (mq σ k) m9 y9 - 1))) + (nI (0))) + (nI (0)))), (11, .int (((iA σ 25 (47 * o + x9)) + (iA σ 25 (47 * t9 + y9))) + (nI (0)))), (10, .int (nI (0))), (9, .int (nI (y9))), (8, .int (nI (x9))), (0, .ref (w.1 (0))), (1, .int (nI (i))), (2, .int (nI (k))), (3, .int (nI (g))), (4, .int (nI (m9))), (5, .int (nI (o))), (6, .int (nI (t9))), (7, .int (nI (47 * g + m9)))] dX11_laysOne_291 (by decide) rfl ?_
              refine g_sub [0, 1, 3, 4, 5, 6, 7, 8, 9, 10, 11, 12] [(12, .int ((((((iA σ 26 (47 * o + x9)) + (iA σ 26 (47 * t9 + y9))) + (nI (mSt (mq σ k) m9 x9 - 1))) + (nI (mSt (mq σ k) m9 y9 - 1))) + (nI (0))) + (nI (0)))), (11, .int (((iA σ 25 (47 * o + x9)) + (iA σ 25 (47 * t9 + y9))) + (nI (0)))), (9, .int (nI (y9))), (8, .int (nI (x9))), (0, .ref (w.1 (0))), (1, .int (nI (i))), (2, .int (nI (k))), (3, .int (nI (g))), (4, .int (nI (m9))), (5, .int (nI (o))), (6, .int (nI (t9))), (7, .int (nI (47 * g + m9)))] rfl ?_
              refine g_lv (lv9 := [(12, .int (lzL (iA σ 26) (mq σ k) o t9 m9 x9 y9)), (11, .int (lzD (iA σ 25) (mq σ k) o t9 m9 x9 y9)), (9, .int (nI (y9))), (8, .int (nI (x9))), (0, .ref (w.1 (0))), (1, .int (nI (i))), (2, .int (nI (k))), (3, .int (nI (g))), (4, .int (nI (m9))), (5, .int (nI (o))), (6, .int (nI (t9))), (7, .int (nI (47 * g + m9)))]) (by unfold lzD lzL; rw [hb0, hb1, hb2]; try rfl) ?_
              exact kont
            · exact absurd c_24 (by decide)
          · exact absurd c_23 (by decide)
        · exact absurd c_20 (by decide)
      · replace c_19 := (nI_eq (by omega) (by omega)).mp c_19
        have his : lzI (mq σ k) m9 x9 y9 := Or.inr (Or.inr (by assumption))
        refine g_iconst (pc9 := 162) C rfl (nI (1)) dX11_laysOne_161 rfl ?_
        refine g_goto C 166 dX11_laysOne_162 rfl ?_
        refine g_istore (pc9 := 168) C rfl [(10, .int (nI (1))), (9, .int (nI (y9))), (8, .int (nI (x9))), (0, .ref (w.1 (0))), (1, .int (nI (i))), (2, .int (nI (k))), (3, .int (nI (g))), (4, .int (nI (m9))), (5, .int (nI (o))), (6, .int (nI (t9))), (7, .int (nI (47 * g + m9)))] dX11_laysOne_166 (by decide) rfl ?_
        refine g_aload_n (pc9 := 169) C rfl 3 dX11_laysOne_168 rfl rfl ?_
        refine g_get (v := .ref (w.1 (25))) (pc9 := 172) C rfl (0) 34 dX11_laysOne_169 (by decide) (ce_0 w (sI (sI σ (25) (upd (iA σ 25) (47 * g + m9) (z).1)) (26) (upd (iA σ 26) (47 * g + m9) (z).2))) hin_11 hl_92 rfl (by decide) rfl rfl ?_
        refine g_bipush (pc9 := 174) C rfl (nI (47)) dX11_laysOne_172 rfl ?_
        refine g_iload (pc9 := 176) C rfl 8 dX11_laysOne_174 rfl ?_
        refine g_imulN (pc9 := 177) C rfl dX11_laysOne_176 ?_
        refine g_iload (pc9 := 179) C rfl 2 dX11_laysOne_177 rfl ?_
        refine g_iaddN (pc9 := 180) C rfl dX11_laysOne_179 ?_
        refine g_iald (x := iA σ 25 (47 * o + x9)) (pc9 := 181) C rfl (25) ((47 * o) + x9) dX11_laysOne_180 (by decide) (ce_25 w (sI (sI σ (25) (upd (iA σ 25) (47 * g + m9) (z).1)) (26) (upd (iA σ 26) (47 * g + m9) (z).2))) rfl (by omega) (by decide) ((congrFun ((iA_n (by decide)).trans (iA_s)) _).trans (pk_un (by omega))) ?_
        refine g_aload_n (pc9 := 182) C rfl 3 dX11_laysOne_181 rfl rfl ?_
        refine g_get (v := .ref (w.1 (25))) (pc9 := 185) C rfl (0) 34 dX11_laysOne_182 (by decide) (ce_0 w (sI (sI σ (25) (upd (iA σ 25) (47 * g + m9) (z).1)) (26) (upd (iA σ 26) (47 * g + m9) (z).2))) hin_11 hl_92 rfl (by decide) rfl rfl ?_
        refine g_bipush (pc9 := 187) C rfl (nI (47)) dX11_laysOne_185 rfl ?_
        refine g_iload (pc9 := 189) C rfl 9 dX11_laysOne_187 rfl ?_
        refine g_imulN (pc9 := 190) C rfl dX11_laysOne_189 ?_
        refine g_iload (pc9 := 192) C rfl 1 dX11_laysOne_190 rfl ?_
        refine g_iaddN (pc9 := 193) C rfl dX11_laysOne_192 ?_
        refine g_iald (x := iA σ 25 (47 * t9 + y9)) (pc9 := 194) C rfl (25) ((47 * t9) + y9) dX11_laysOne_193 (by decide) (ce_25 w (sI (sI σ (25) (upd (iA σ 25) (47 * g + m9) (z).1)) (26) (upd (iA σ 26) (47 * g + m9) (z).2))) rfl (by omega) (by decide) ((congrFun ((iA_n (by decide)).trans (iA_s)) _).trans (pk_un (by omega))) ?_
        refine g_iadd (pc9 := 195) C rfl dX11_laysOne_194 ?_
        refine g_iload (pc9 := 197) C rfl 0 dX11_laysOne_195 rfl ?_
        refine g_if_eq (pc9 := 200) C rfl 204 dX11_laysOne_197 rfl (fun c_25 => ?_) (fun c_25 => ?_)
        · exact absurd c_25 (by decide)
        · have hb0 : cI (lzI (mq σ k) m9 x9 y9) (nI 1) (nI 0) = nI 1 := cI_t his
          refine g_iconst (pc9 := 201) C rfl (nI (1)) dX11_laysOne_200 rfl ?_
          refine g_goto C 205 dX11_laysOne_201 rfl ?_
          refine g_iadd (pc9 := 206) C rfl dX11_laysOne_205 ?_
          refine g_istore (pc9 := 208) C rfl [(11, .int (((iA σ 25 (47 * o + x9)) + (iA σ 25 (47 * t9 + y9))) + (nI (1)))), (10, .int (nI (1))), (9, .int (nI (y9))), (8, .int (nI (x9))), (0, .ref (w.1 (0))), (1, .int (nI (i))), (2, .int (nI (k))), (3, .int (nI (g))), (4, .int (nI (m9))), (5, .int (nI (o))), (6, .int (nI (t9))), (7, .int (nI (47 * g + m9)))] dX11_laysOne_206 (by decide) rfl ?_
          refine g_aload_n (pc9 := 209) C rfl 4 dX11_laysOne_208 rfl rfl ?_
          refine g_get (v := .ref (w.1 (26))) (pc9 := 212) C rfl (0) 35 dX11_laysOne_209 (by decide) (ce_0 w (sI (sI σ (25) (upd (iA σ 25) (47 * g + m9) (z).1)) (26) (upd (iA σ 26) (47 * g + m9) (z).2))) hin_11 hl_95 rfl (by decide) rfl rfl ?_
          refine g_bipush (pc9 := 214) C rfl (nI (47)) dX11_laysOne_212 rfl ?_
          refine g_iload (pc9 := 216) C rfl 9 dX11_laysOne_214 rfl ?_
          refine g_imulN (pc9 := 217) C rfl dX11_laysOne_216 ?_
          refine g_iload (pc9 := 219) C rfl 3 dX11_laysOne_217 rfl ?_
          refine g_iaddN (pc9 := 220) C rfl dX11_laysOne_219 ?_
          refine g_iald (x := iA σ 26 (47 * o + x9)) (pc9 := 221) C rfl (26) ((47 * o) + x9) dX11_laysOne_220 (by decide) (ce_26 w (sI (sI σ (25) (upd (iA σ 25) (47 * g + m9) (z).1)) (26) (upd (iA σ 26) (47 * g + m9) (z).2))) rfl (by omega) (by decide) ((congrFun (iA_s) _).trans (pk_un (by omega))) ?_
          refine g_aload_n (pc9 := 222) C rfl 4 dX11_laysOne_221 rfl rfl ?_
          refine g_get (v := .ref (w.1 (26))) (pc9 := 225) C rfl (0) 35 dX11_laysOne_222 (by decide) (ce_0 w (sI (sI σ (25) (upd (iA σ 25) (47 * g + m9) (z).1)) (26) (upd (iA σ 26) (47 * g + m9) (z).2))) hin_11 hl_95 rfl (by decide) rfl rfl ?_
          refine g_bipush (pc9 := 227) C rfl (nI (47)) dX11_laysOne_225 rfl ?_
          refine g_iload (pc9 := 229) C rfl 10 dX11_laysOne_227 rfl ?_
          refine g_imulN (pc9 := 230) C rfl dX11_laysOne_229 ?_
          refine g_iload (pc9 := 232) C rfl 2 dX11_laysOne_230 rfl ?_
          refine g_iaddN (pc9 := 233) C rfl dX11_laysOne_232 ?_
          refine g_iald (x := iA σ 26 (47 * t9 + y9)) (pc9 := 234) C rfl (26) ((47 * t9) + y9) dX11_laysOne_233 (by decide) (ce_26 w (sI (sI σ (25) (upd (iA σ 25) (47 * g + m9) (z).1)) (26) (upd (iA σ 26) (47 * g + m9) (z).2))) rfl (by omega) (by decide) ((congrFun (iA_s) _).trans (pk_un (by omega))) ?_
          refine g_iadd (pc9 := 235) C rfl dX11_laysOne_234 ?_
          refine g_aload_n (pc9 := 236) C rfl 4 dX11_laysOne_235 rfl rfl ?_
          refine g_iload_n (pc9 := 237) C rfl 6 dX11_laysOne_236 rfl rfl ?_
          refine g_iload (pc9 := 239) C rfl 8 dX11_laysOne_237 rfl ?_
          refine g_iload (pc9 := 241) C rfl 3 dX11_laysOne_239 rfl ?_
          refine g_callVi (nn := 3) (rest := [.int ((iA σ 26 (47 * o + x9)) + (iA σ 26 (47 * t9 + y9)))]) (pc9 := 244) C rfl (0) [.int (nI (k)), .int (nI (m9)), .int (nI (x9))] rfl dX11_laysOne_241 (m_X11_between l w (sI (sI σ (25) (upd (iA σ 25) (47 * g + m9) (z).1)) (26) (upd (iA σ 26) (47 * g + m9) (z).2)) k hb_k (hM k hb_k) m9 x9 (by show x9 < mN σ k; omega) (by omega) hA_x9) gX11_laysOne_X11_between (by decide) (ce_0 w (sI (sI σ (25) (upd (iA σ 25) (47 * g + m9) (z).1)) (26) (upd (iA σ 26) (47 * g + m9) (z).2))) rfl rfl rfl rfl rfl (by decide +kernel) ⟨by decide, by decide⟩ rfl (Nat.le_of_ble_eq_true rfl) ⟨by decide, by decide⟩ (fun r_26 σ_26 q_26 => ?_)
          obtain ⟨qs_26, qr_26⟩ := q_26
          replace qr_26 : r_26 = nI (mSt (mq σ k) m9 x9 - 1) := qr_26
          rw [qs_26, qr_26]
          clear qs_26 qr_26
          refine g_iadd (pc9 := 245) C rfl dX11_laysOne_244 ?_
          refine g_aload_n (pc9 := 246) C rfl 4 dX11_laysOne_245 rfl rfl ?_
          refine g_iload_n (pc9 := 247) C rfl 6 dX11_laysOne_246 rfl rfl ?_
          refine g_iload (pc9 := 249) C rfl 8 dX11_laysOne_247 rfl ?_
          refine g_iload (pc9 := 251) C rfl 2 dX11_laysOne_249 rfl ?_
          refine g_callVi (nn := 3) (rest := [.int (((iA σ 26 (47 * o + x9)) + (iA σ 26 (47 * t9 + y9))) + (nI (mSt (mq σ k) m9 x9 - 1)))]) (pc9 := 254) C rfl (0) [.int (nI (k)), .int (nI (m9)), .int (nI (y9))] rfl dX11_laysOne_251 (m_X11_between l w (sI (sI σ (25) (upd (iA σ 25) (47 * g + m9) (z).1)) (26) (upd (iA σ 26) (47 * g + m9) (z).2)) k hb_k (hM k hb_k) m9 y9 (by show y9 < mN σ k; omega) (by omega) hA_y9) gX11_laysOne_X11_between (by decide) (ce_0 w (sI (sI σ (25) (upd (iA σ 25) (47 * g + m9) (z).1)) (26) (upd (iA σ 26) (47 * g + m9) (z).2))) rfl rfl rfl rfl rfl (by decide +kernel) ⟨by decide, by decide⟩ rfl (Nat.le_of_ble_eq_true rfl) ⟨by decide, by decide⟩ (fun r_27 σ_27 q_27 => ?_)
          obtain ⟨qs_27, qr_27⟩ := q_27
          replace qr_27 : r_27 = nI (mSt (mq σ k) m9 y9 - 1) := qr_27
          rw [qs_27, qr_27]
          clear qs_27 qr_27
          refine g_iadd (pc9 := 255) C rfl dX11_laysOne_254 ?_
          refine g_iload (pc9 := 257) C rfl 1 dX11_laysOne_255 rfl ?_
          refine g_if_eq (pc9 := 260) C rfl 271 dX11_laysOne_257 rfl (fun c_28 => ?_) (fun c_28 => ?_)
          · exact absurd c_28 (by decide)
          · refine g_iload (pc9 := 262) C rfl 3 dX11_laysOne_260 rfl ?_
            refine g_iload (pc9 := 264) C rfl 8 dX11_laysOne_262 rfl ?_
            refine g_icmp_eq (pc9 := 267) C rfl 271 dX11_laysOne_264 rfl (fun c_29 => ?_) (fun c_29 => ?_)
            · replace c_29 := (nI_eq (by omega) (by omega)).mp c_29
              exact absurd c_29 c_1
            · replace c_29 := (not_congr (nI_eq (by omega) (by omega))).mp c_29
              have hb1 : cI (lzI (mq σ k) m9 x9 y9 ∧ ¬ x9 = m9) (nI 1) (nI 0) = nI 1 := cI_t ⟨his, by assumption⟩
              refine g_iconst (pc9 := 268) C rfl (nI (1)) dX11_laysOne_267 rfl ?_
              refine g_goto C 272 dX11_laysOne_268 rfl ?_
              refine g_iadd (pc9 := 273) C rfl dX11_laysOne_272 ?_
              refine g_iload (pc9 := 275) C rfl 1 dX11_laysOne_273 rfl ?_
              refine g_if_eq (pc9 := 278) C rfl 289 dX11_laysOne_275 rfl (fun c_30 => ?_) (fun c_30 => ?_)
              · exact absurd c_30 (by decide)
              · refine g_iload (pc9 := 280) C rfl 2 dX11_laysOne_278 rfl ?_
                refine g_iload (pc9 := 282) C rfl 8 dX11_laysOne_280 rfl ?_
                refine g_icmp_eq (pc9 := 285) C rfl 289 dX11_laysOne_282 rfl (fun c_31 => ?_) (fun c_31 => ?_)
                · replace c_31 := (nI_eq (by omega) (by omega)).mp c_31
                  exact absurd c_31 c_9
                · replace c_31 := (not_congr (nI_eq (by omega) (by omega))).mp c_31
                  have hb2 : cI (lzI (mq σ k) m9 x9 y9 ∧ ¬ y9 = m9) (nI 1) (nI 0) = nI 1 := cI_t ⟨his, by assumption⟩
                  refine g_iconst (pc9 := 286) C rfl (nI (1)) dX11_laysOne_285 rfl ?_
                  refine g_goto C 290 dX11_laysOne_286 rfl ?_
                  refine g_iadd (pc9 := 291) C rfl dX11_laysOne_290 ?_
                  refine g_istore (pc9 := 293) C rfl [(12, .int ((((((iA σ 26 (47 * o + x9)) + (iA σ 26 (47 * t9 + y9))) + (nI (mSt (mq σ k) m9 x9 - 1))) + (nI (mSt (mq σ k) m9 y9 - 1))) + (nI (1))) + (nI (1)))), (11, .int (((iA σ 25 (47 * o + x9)) + (iA σ 25 (47 * t9 + y9))) + (nI (1)))), (10, .int (nI (1))), (9, .int (nI (y9))), (8, .int (nI (x9))), (0, .ref (w.1 (0))), (1, .int (nI (i))), (2, .int (nI (k))), (3, .int (nI (g))), (4, .int (nI (m9))), (5, .int (nI (o))), (6, .int (nI (t9))), (7, .int (nI (47 * g + m9)))] dX11_laysOne_291 (by decide) rfl ?_
                  refine g_sub [0, 1, 3, 4, 5, 6, 7, 8, 9, 10, 11, 12] [(12, .int ((((((iA σ 26 (47 * o + x9)) + (iA σ 26 (47 * t9 + y9))) + (nI (mSt (mq σ k) m9 x9 - 1))) + (nI (mSt (mq σ k) m9 y9 - 1))) + (nI (1))) + (nI (1)))), (11, .int (((iA σ 25 (47 * o + x9)) + (iA σ 25 (47 * t9 + y9))) + (nI (1)))), (9, .int (nI (y9))), (8, .int (nI (x9))), (0, .ref (w.1 (0))), (1, .int (nI (i))), (2, .int (nI (k))), (3, .int (nI (g))), (4, .int (nI (m9))), (5, .int (nI (o))), (6, .int (nI (t9))), (7, .int (nI (47 * g + m9)))] rfl ?_
                  refine g_lv (lv9 := [(12, .int (lzL (iA σ 26) (mq σ k) o t9 m9 x9 y9)), (11, .int (lzD (iA σ 25) (mq σ k) o t9 m9 x9 y9)), (9, .int (nI (y9))), (8, .int (nI (x9))), (0, .ref (w.1 (0))), (1, .int (nI (i))), (2, .int (nI (k))), (3, .int (nI (g))), (4, .int (nI (m9))), (5, .int (nI (o))), (6, .int (nI (t9))), (7, .int (nI (47 * g + m9)))]) (by unfold lzD lzL; rw [hb0, hb1, hb2]; try rfl) ?_
                  exact kont
set_option maxRecDepth 100000 in
set_option maxHeartbeats 4000000 in
theorem m16_inner {p : Program} {l : Launch} {e : Env} {s : State} {m : MethodId} {args : Array Value} {below : List Frame} {meth : Method} {c : Code} {Q : State → Prop} {w : Wd} {A : Nat → Prop} (C : Cx p s m args c w A cX11_laysOne RX11 13 wsX11_laysOne) (σ : St) (hM : ∀ i, i < 8 → mtOk σ i) (i k g m9 o t9 : Nat) (hb_i : i < 8) (hb_k : k < 8) (hg : g < mN σ i) (ho : o < mN σ i) (ht : t9 < mN σ i) (hgo : g < o) (hgt : g < t9) (hm9 : m9 < mN σ k) (x9 : Nat) (hx9 : x9 < mN σ k) (hX9 : lzX (iA σ 25) (mq σ k) o m9 x9) (z : LzP) (kont : G p l e (rmL 2) s m args below meth c Q w A 13 (sI (sI σ (25) (upd (iA σ 25) (47 * g + m9) (lz1 (iA σ 25) (iA σ 26) (mq σ k) o t9 m9 x9 z (mN σ k - m9)).1)) (26) (upd (iA σ 26) (47 * g + m9) (lz1 (iA σ 25) (iA σ 26) (mq σ k) o t9 m9 x9 z (mN σ k - m9)).2)) 0 0 353 [(8, .int (nI (x9))), (0, .ref (w.1 (0))), (1, .int (nI (i))), (2, .int (nI (k))), (3, .int (nI (g))), (4, .int (nI (m9))), (5, .int (nI (o))), (6, .int (nI (t9))), (7, .int (nI (47 * g + m9)))] []) : G p l e (rmL 2) s m args below meth c Q w A 13 (sI (sI σ (25) (upd (iA σ 25) (47 * g + m9) (z).1)) (26) (upd (iA σ 26) (47 * g + m9) (z).2)) 0 0 81 [(9, .int (nI (m9))), (8, .int (nI (x9))), (0, .ref (w.1 (0))), (1, .int (nI (i))), (2, .int (nI (k))), (3, .int (nI (g))), (4, .int (nI (m9))), (5, .int (nI (o))), (6, .int (nI (t9))), (7, .int (nI (47 * g + m9)))] [] := by
  have hin_11 : ∀ u ∈ wsX110, u ∈ wsX11_laysOne := by decide +kernel
  have hl_17 : Cond.fieldLink RX11 17 "LineageBenchModel" "many" "[I" ∈ wsX11_laysOne := by decide +kernel
  have hl_92 : Cond.fieldLink RX11 92 "LineageBenchModel" "doubled" "[I" ∈ wsX11_laysOne := by decide +kernel
  have h47i := (hM i hb_i).2.1
  have h47k := (hM k hb_k).2.1
  refine g_lp1 (α := Nat) (fun u => u ≤ mN σ k - m9) (fun u => mN σ k - u) (fun u => G p l e _ s m args below meth c _ w A _ (sI (sI σ (25) (upd (iA σ 25) (47 * g + m9) (lz1 (iA σ 25) (iA σ 26) (mq σ k) o t9 m9 x9 z (u)).1)) (26) (upd (iA σ 26) (47 * g + m9) (lz1 (iA σ 25) (iA σ 26) (mq σ k) o t9 m9 x9 z (u)).2)) 0 0 81 [(9, .int (nI (m9 + u))), (8, .int (nI (x9))), (0, .ref (w.1 (0))), (1, .int (nI (i))), (2, .int (nI (k))), (3, .int (nI (g))), (4, .int (nI (m9))), (5, .int (nI (o))), (6, .int (nI (t9))), (7, .int (nI (47 * g + m9)))] []) (fun u hu ih0 => ?_) (0) (Nat.zero_le _)
  refine g_iload (pc9 := 83) C rfl 0 dX11_laysOne_81 rfl ?_
  refine g_aload_n (pc9 := 84) C rfl 2 dX11_laysOne_83 rfl rfl ?_
  refine g_get (v := .ref (w.1 (2))) (pc9 := 87) C rfl (0) 5 dX11_laysOne_84 (by decide) (ce_0 w (sI (sI σ (25) (upd (iA σ 25) (47 * g + m9) (lz1 (iA σ 25) (iA σ 26) (mq σ k) o t9 m9 x9 z (u)).1)) (26) (upd (iA σ 26) (47 * g + m9) (lz1 (iA σ 25) (iA σ 26) (mq σ k) o t9 m9 x9 z (u)).2))) hin_11 hl_17 rfl (by decide) rfl rfl ?_
  refine g_iload_n (pc9 := 88) C rfl 4 dX11_laysOne_87 rfl rfl ?_
  refine g_iald (x := nI (mN σ (k))) (pc9 := 89) C rfl (2) (k) dX11_laysOne_88 (by decide) (ce_2 w (sI (sI σ (25) (upd (iA σ 25) (47 * g + m9) (lz1 (iA σ 25) (iA σ 26) (mq σ k) o t9 m9 x9 z (u)).1)) (26) (upd (iA σ 26) (47 * g + m9) (lz1 (iA σ 25) (iA σ 26) (mq σ k) o t9 m9 x9 z (u)).2))) rfl (by omega) (by decide) ((congrFun ((iA_n (by decide)).trans (iA_n (by decide))) _).trans (hM k hb_k).1) ?_
  refine g_icmp_ge (pc9 := 92) C rfl 353 dX11_laysOne_89 rfl (fun c_1 => ?_) (fun c_1 => ?_)
  · replace c_1 := (nI_leI (by omega) (by omega)).mp c_1
    refine g_sub [1, 2, 3, 4, 5, 6, 7, 8, 9] [(8, .int (nI (x9))), (0, .ref (w.1 (0))), (1, .int (nI (i))), (2, .int (nI (k))), (3, .int (nI (g))), (4, .int (nI (m9))), (5, .int (nI (o))), (6, .int (nI (t9))), (7, .int (nI (47 * g + m9)))] rfl ?_
    have hue : u = mN σ k - m9 := by omega
    subst hue
    exact kont
  · replace c_1 := (not_congr (nI_leI (by omega) (by omega))).mp c_1
    refine g_aload_n (pc9 := 93) C rfl 2 dX11_laysOne_92 rfl rfl ?_
    refine g_get (v := .ref (w.1 (25))) (pc9 := 96) C rfl (0) 34 dX11_laysOne_93 (by decide) (ce_0 w (sI (sI σ (25) (upd (iA σ 25) (47 * g + m9) (lz1 (iA σ 25) (iA σ 26) (mq σ k) o t9 m9 x9 z (u)).1)) (26) (upd (iA σ 26) (47 * g + m9) (lz1 (iA σ 25) (iA σ 26) (mq σ k) o t9 m9 x9 z (u)).2))) hin_11 hl_92 rfl (by decide) rfl rfl ?_
    refine g_bipush (pc9 := 98) C rfl (nI (47)) dX11_laysOne_96 rfl ?_
    refine g_iload (pc9 := 100) C rfl 8 dX11_laysOne_98 rfl ?_
    refine g_imulN (pc9 := 101) C rfl dX11_laysOne_100 ?_
    refine g_iload (pc9 := 103) C rfl 0 dX11_laysOne_101 rfl ?_
    refine g_iaddN (pc9 := 104) C rfl dX11_laysOne_103 ?_
    refine g_iald (x := iA σ 25 (47 * t9 + (m9 + u))) (pc9 := 105) C rfl (25) ((47 * t9) + (m9 + u)) dX11_laysOne_104 (by decide) (ce_25 w (sI (sI σ (25) (upd (iA σ 25) (47 * g + m9) (lz1 (iA σ 25) (iA σ 26) (mq σ k) o t9 m9 x9 z (u)).1)) (26) (upd (iA σ 26) (47 * g + m9) (lz1 (iA σ 25) (iA σ 26) (mq σ k) o t9 m9 x9 z (u)).2))) rfl (by omega) (by decide) ((congrFun ((iA_n (by decide)).trans (iA_s)) _).trans (pk_un (by omega))) ?_
    refine g_ldc_w (pc9 := 108) C rfl (lzN) dX11_laysOne_105 (by decide +kernel) ?_
    refine g_icmp_ge (pc9 := 111) C rfl 347 dX11_laysOne_108 rfl (fun c_2 => ?_) (fun c_2 => ?_)
    · have hs : lzS (iA σ 25) (iA σ 26) (mq σ k) o t9 m9 x9 (m9 + u) (lz1 (iA σ 25) (iA σ 26) (mq σ k) o t9 m9 x9 z (u)) = lz1 (iA σ 25) (iA σ 26) (mq σ k) o t9 m9 x9 z (u) := cI_f (fun h => absurd h.2.1 (Int32.not_lt.mpr c_2))
      refine g_iinc (pc9 := 350) C rfl [(9, .int (nI (m9 + u + 1))), (8, .int (nI (x9))), (0, .ref (w.1 (0))), (1, .int (nI (i))), (2, .int (nI (k))), (3, .int (nI (g))), (4, .int (nI (m9))), (5, .int (nI (o))), (6, .int (nI (t9))), (7, .int (nI (47 * g + m9)))] 0 (nI (m9 + u + 1)) dX11_laysOne_347 rfl (nI_1 (m9 + u)) (by decide) rfl ?_
      refine g_goto C 81 dX11_laysOne_350 rfl ?_
      refine g_sub [0, 1, 2, 3, 4, 5, 6, 7, 8, 9] [(9, .int (nI (m9 + u + 1))), (8, .int (nI (x9))), (0, .ref (w.1 (0))), (1, .int (nI (i))), (2, .int (nI (k))), (3, .int (nI (g))), (4, .int (nI (m9))), (5, .int (nI (o))), (6, .int (nI (t9))), (7, .int (nI (47 * g + m9)))] rfl ?_
      refine g_st (σ9 := sI (sI σ (25) (upd (iA σ 25) (47 * g + m9) (lz1 (iA σ 25) (iA σ 26) (mq σ k) o t9 m9 x9 z (u + 1)).1)) (26) (upd (iA σ 26) (47 * g + m9) (lz1 (iA σ 25) (iA σ 26) (mq σ k) o t9 m9 x9 z (u + 1)).2)) (by rw [← hs]; rfl) ?_
      exact ih0 (u + 1) (by omega) (by omega)
    · have h1 := Int32.not_le.mp c_2
      refine g_aload_n (pc9 := 112) C rfl 2 dX11_laysOne_111 rfl rfl ?_
      refine g_iload_n (pc9 := 113) C rfl 4 dX11_laysOne_112 rfl rfl ?_
      refine g_iload (pc9 := 115) C rfl 6 dX11_laysOne_113 rfl ?_
      refine g_iload (pc9 := 117) C rfl 0 dX11_laysOne_115 rfl ?_
      refine g_callVi (nn := 3) (rest := []) (pc9 := 120) C rfl (0) [.int (nI (k)), .int (nI (m9)), .int (nI (m9 + u))] rfl dX11_laysOne_117 (m_X11_isAbove l w (sI (sI σ (25) (upd (iA σ 25) (47 * g + m9) (lz1 (iA σ 25) (iA σ 26) (mq σ k) o t9 m9 x9 z (u)).1)) (26) (upd (iA σ 26) (47 * g + m9) (lz1 (iA σ 25) (iA σ 26) (mq σ k) o t9 m9 x9 z (u)).2)) k hb_k (hM k hb_k) m9 (m9 + u) (by show m9 + u < mN σ k; omega) (by omega)) gX11_laysOne_X11_isAbove (by decide) (ce_0 w (sI (sI σ (25) (upd (iA σ 25) (47 * g + m9) (lz1 (iA σ 25) (iA σ 26) (mq σ k) o t9 m9 x9 z (u)).1)) (26) (upd (iA σ 26) (47 * g + m9) (lz1 (iA σ 25) (iA σ 26) (mq σ k) o t9 m9 x9 z (u)).2))) rfl rfl rfl rfl rfl (by decide +kernel) ⟨by decide, by decide⟩ rfl (Nat.le_of_ble_eq_true rfl) ⟨by decide, by decide⟩ (fun r_3 σ_3 q_3 => ?_)
      obtain ⟨qs_3, qr_3⟩ := q_3
      replace qr_3 : r_3 = pI (mAb (mq σ k) m9 (m9 + u)) := qr_3
      rw [qs_3, qr_3]
      clear qs_3 qr_3
      refine g_if_ne (pc9 := 123) C rfl 126 dX11_laysOne_120 rfl (fun c_4 => ?_) (fun c_4 => ?_)
      · have h2 := pI_ye (fun h => c_4 h)
        refine g_sub [0, 1, 2, 3, 4, 5, 6, 7, 8, 9] [(9, .int (nI (m9 + u))), (8, .int (nI (x9))), (0, .ref (w.1 (0))), (1, .int (nI (i))), (2, .int (nI (k))), (3, .int (nI (g))), (4, .int (nI (m9))), (5, .int (nI (o))), (6, .int (nI (t9))), (7, .int (nI (47 * g + m9)))] rfl ?_
        have hs : lzS (iA σ 25) (iA σ 26) (mq σ k) o t9 m9 x9 (m9 + u) (lz1 (iA σ 25) (iA σ 26) (mq σ k) o t9 m9 x9 z (u)) = lzM (lzD (iA σ 25) (mq σ k) o t9 m9 x9 (m9 + u)) (lzL (iA σ 26) (mq σ k) o t9 m9 x9 (m9 + u)) (lz1 (iA σ 25) (iA σ 26) (mq σ k) o t9 m9 x9 z (u)) := cI_t ⟨hX9, h1, h2⟩
        refine m16_val C σ hM i k g m9 o t9 hb_i hb_k hg ho ht hgo hgt hm9 x9 (m9 + u) hx9 (by omega) hX9.2 h2 _ ?_
        refine m16_cmp C σ i k g m9 o t9 x9 (m9 + u) (by omega) (by omega) _ _ _ ?_
        refine g_iinc (pc9 := 350) C rfl [(9, .int (nI (m9 + u + 1))), (8, .int (nI (x9))), (0, .ref (w.1 (0))), (1, .int (nI (i))), (2, .int (nI (k))), (3, .int (nI (g))), (4, .int (nI (m9))), (5, .int (nI (o))), (6, .int (nI (t9))), (7, .int (nI (47 * g + m9)))] 0 (nI (m9 + u + 1)) dX11_laysOne_347 rfl (nI_1 (m9 + u)) (by decide) rfl ?_
        refine g_goto C 81 dX11_laysOne_350 rfl ?_
        refine g_sub [0, 1, 2, 3, 4, 5, 6, 7, 8, 9] [(9, .int (nI (m9 + u + 1))), (8, .int (nI (x9))), (0, .ref (w.1 (0))), (1, .int (nI (i))), (2, .int (nI (k))), (3, .int (nI (g))), (4, .int (nI (m9))), (5, .int (nI (o))), (6, .int (nI (t9))), (7, .int (nI (47 * g + m9)))] rfl ?_
        refine g_st (σ9 := sI (sI σ (25) (upd (iA σ 25) (47 * g + m9) (lz1 (iA σ 25) (iA σ 26) (mq σ k) o t9 m9 x9 z (u + 1)).1)) (26) (upd (iA σ 26) (47 * g + m9) (lz1 (iA σ 25) (iA σ 26) (mq σ k) o t9 m9 x9 z (u + 1)).2)) (by rw [← hs]; rfl) ?_
        exact ih0 (u + 1) (by omega) (by omega)
      · have hs : lzS (iA σ 25) (iA σ 26) (mq σ k) o t9 m9 x9 (m9 + u) (lz1 (iA σ 25) (iA σ 26) (mq σ k) o t9 m9 x9 z (u)) = lz1 (iA σ 25) (iA σ 26) (mq σ k) o t9 m9 x9 z (u) := cI_f (fun h => pI_no (Classical.not_not.mp (fun q => q c_4)) h.2.2)
        refine g_goto C 347 dX11_laysOne_123 rfl ?_
        refine g_iinc (pc9 := 350) C rfl [(9, .int (nI (m9 + u + 1))), (8, .int (nI (x9))), (0, .ref (w.1 (0))), (1, .int (nI (i))), (2, .int (nI (k))), (3, .int (nI (g))), (4, .int (nI (m9))), (5, .int (nI (o))), (6, .int (nI (t9))), (7, .int (nI (47 * g + m9)))] 0 (nI (m9 + u + 1)) dX11_laysOne_347 rfl (nI_1 (m9 + u)) (by decide) rfl ?_
        refine g_goto C 81 dX11_laysOne_350 rfl ?_
        refine g_sub [0, 1, 2, 3, 4, 5, 6, 7, 8, 9] [(9, .int (nI (m9 + u + 1))), (8, .int (nI (x9))), (0, .ref (w.1 (0))), (1, .int (nI (i))), (2, .int (nI (k))), (3, .int (nI (g))), (4, .int (nI (m9))), (5, .int (nI (o))), (6, .int (nI (t9))), (7, .int (nI (47 * g + m9)))] rfl ?_
        refine g_st (σ9 := sI (sI σ (25) (upd (iA σ 25) (47 * g + m9) (lz1 (iA σ 25) (iA σ 26) (mq σ k) o t9 m9 x9 z (u + 1)).1)) (26) (upd (iA σ 26) (47 * g + m9) (lz1 (iA σ 25) (iA σ 26) (mq σ k) o t9 m9 x9 z (u + 1)).2)) (by rw [← hs]; rfl) ?_
        exact ih0 (u + 1) (by omega) (by omega)
theorem nxC_u {σ : St} {i x b : Nat} {r r2 : Int32} (h1 : nxC σ i x b r) (h2 : nxC σ i x b r2) : r = r2 := by
  rcases h1 with ⟨k, a1, a2, a3, a4, e⟩ | ⟨e, a4⟩ <;> rcases h2 with ⟨k2, b1, b2, b3, b4, e2⟩ | ⟨e2, b4⟩
  · rcases Nat.lt_trichotomy k k2 with h | h | h
    · exact absurd a3 (b4 k a1 h)
    · rw [e, e2, h]
    · exact absurd b3 (a4 k2 b1 h)
  · exact absurd a3 (b4 k a1 a2)
  · exact absurd b3 (a4 k2 b1 b2)
  · rw [e, e2]
set_option maxRecDepth 100000 in
set_option maxHeartbeats 4000000 in
theorem m_X11_laysOne (l : Launch) (w : Wd) (σ : St) (hM : ∀ i, i < 8 → mtOk σ i) (i k g m9 o t9 : Nat) (hb_i : i < 8) (hb_k : k < 8) (hg : g < mN σ i) (ho : o < mN σ i) (ht : t9 < mN σ i) (hgo : g < o) (hgt : g < t9) (hm9 : m9 < mN σ k) (hn1 : nxC σ i g g (nI o)) (hn2 : nxC σ i g o (nI t9)) (z0 : LzP) : MV l yX11_laysOne wsX11_laysOne (rmL 2) w [.ref (w.1 (0)), .int (nI (i)), .int (nI (k)), .int (nI (g)), .int (nI (m9))] (sI (sI σ (25) (upd (iA σ 25) (47 * g + m9) (z0).1)) (26) (upd (iA σ 26) (47 * g + m9) (z0).2)) (fun σ9 => σ9 = sI (sI σ (25) (upd (iA σ 25) (47 * g + m9) (lz2 (iA σ 25) (iA σ 26) (mq σ k) o t9 m9 (mN σ k) z0 (mN σ k - m9)).1)) (26) (upd (iA σ 26) (47 * g + m9) (lz2 (iA σ 25) (iA σ 26) (mq σ k) o t9 m9 (mN σ k) z0 (mN σ k - m9)).2)) := by
  refine MV_of (cc := cX11_laysOne) (maxL := 13) (by decide) rfl (Nat.le_of_ble_eq_true rfl) ?_
  intro p e s m args below meth c A C hr hlk
  have C : Cx p s m args c w A cX11_laysOne RX11 13 wsX11_laysOne := C
  have hin_11 : ∀ u ∈ wsX110, u ∈ wsX11_laysOne := by decide +kernel
  have hl_17 : Cond.fieldLink RX11 17 "LineageBenchModel" "many" "[I" ∈ wsX11_laysOne := by decide +kernel
  have hl_92 : Cond.fieldLink RX11 92 "LineageBenchModel" "doubled" "[I" ∈ wsX11_laysOne := by decide +kernel
  have h47i := (hM i hb_i).2.1
  have h47k := (hM k hb_k).2.1
  refine g_aload_n (pc9 := 1) C rfl 0 dX11_laysOne_0 rfl rfl ?_
  refine g_iload_n (pc9 := 2) C rfl 1 dX11_laysOne_1 rfl rfl ?_
  refine g_iload_n (pc9 := 3) C rfl 3 dX11_laysOne_2 rfl rfl ?_
  refine g_iload_n (pc9 := 4) C rfl 3 dX11_laysOne_3 rfl rfl ?_
  refine g_callVi (nn := 3) (rest := []) (pc9 := 7) C rfl (0) [.int (nI (i)), .int (nI (g)), .int (nI (g))] rfl dX11_laysOne_4 (m_X11_child l w (sI (sI σ (25) (upd (iA σ 25) (47 * g + m9) (z0).1)) (26) (upd (iA σ 26) (47 * g + m9) (z0).2)) i hb_i (hM i hb_i) g g (show g < mN σ i by omega) (by omega)) gX11_laysOne_X11_child (by decide) (ce_0 w (sI (sI σ (25) (upd (iA σ 25) (47 * g + m9) (z0).1)) (26) (upd (iA σ 26) (47 * g + m9) (z0).2))) rfl rfl rfl rfl rfl (by decide +kernel) ⟨by decide, by decide⟩ rfl (Nat.le_of_ble_eq_true rfl) ⟨by decide, by decide⟩ (fun r_1 σ_1 q_1 => ?_)
  obtain ⟨qs_1, qn_1⟩ := q_1
  rw [qs_1, nxC_u (σ := σ) qn_1 hn1]
  refine g_istore (pc9 := 9) C rfl [(5, .int (nI (o))), (0, .ref (w.1 (0))), (1, .int (nI (i))), (2, .int (nI (k))), (3, .int (nI (g))), (4, .int (nI (m9)))] dX11_laysOne_7 (by decide) rfl ?_
  refine g_aload_n (pc9 := 10) C rfl 1 dX11_laysOne_9 rfl rfl ?_
  refine g_iload_n (pc9 := 11) C rfl 2 dX11_laysOne_10 rfl rfl ?_
  refine g_iload_n (pc9 := 12) C rfl 4 dX11_laysOne_11 rfl rfl ?_
  refine g_iload (pc9 := 14) C rfl 0 dX11_laysOne_12 rfl ?_
  refine g_callVi (nn := 3) (rest := []) (pc9 := 17) C rfl (0) [.int (nI (i)), .int (nI (g)), .int (nI (o))] rfl dX11_laysOne_14 (m_X11_child l w (sI (sI σ (25) (upd (iA σ 25) (47 * g + m9) (z0).1)) (26) (upd (iA σ 26) (47 * g + m9) (z0).2)) i hb_i (hM i hb_i) g o (show o < mN σ i by omega) (by omega)) gX11_laysOne_X11_child (by decide) (ce_0 w (sI (sI σ (25) (upd (iA σ 25) (47 * g + m9) (z0).1)) (26) (upd (iA σ 26) (47 * g + m9) (z0).2))) rfl rfl rfl rfl rfl (by decide +kernel) ⟨by decide, by decide⟩ rfl (Nat.le_of_ble_eq_true rfl) ⟨by decide, by decide⟩ (fun r_2 σ_2 q_2 => ?_)
  obtain ⟨qs_2, qn_2⟩ := q_2
  rw [qs_2, nxC_u (σ := σ) qn_2 hn2]
  refine g_istore (pc9 := 19) C rfl [(6, .int (nI (t9))), (5, .int (nI (o))), (0, .ref (w.1 (0))), (1, .int (nI (i))), (2, .int (nI (k))), (3, .int (nI (g))), (4, .int (nI (m9)))] dX11_laysOne_17 (by decide) rfl ?_
  refine g_bipush (pc9 := 21) C rfl (nI (47)) dX11_laysOne_19 rfl ?_
  refine g_iload_n (pc9 := 22) C rfl 5 dX11_laysOne_21 rfl rfl ?_
  refine g_imulN (pc9 := 23) C rfl dX11_laysOne_22 ?_
  refine g_iload (pc9 := 25) C rfl 6 dX11_laysOne_23 rfl ?_
  refine g_iaddN (pc9 := 26) C rfl dX11_laysOne_25 ?_
  refine g_istore (pc9 := 28) C rfl [(7, .int (nI ((47 * g) + m9))), (6, .int (nI (t9))), (5, .int (nI (o))), (0, .ref (w.1 (0))), (1, .int (nI (i))), (2, .int (nI (k))), (3, .int (nI (g))), (4, .int (nI (m9)))] dX11_laysOne_26 (by decide) rfl ?_
  refine g_iload (pc9 := 30) C rfl 7 dX11_laysOne_28 rfl ?_
  refine g_istore (pc9 := 32) C rfl [(8, .int (nI (m9))), (7, .int (nI ((47 * g) + m9))), (6, .int (nI (t9))), (5, .int (nI (o))), (0, .ref (w.1 (0))), (1, .int (nI (i))), (2, .int (nI (k))), (3, .int (nI (g))), (4, .int (nI (m9)))] dX11_laysOne_30 (by decide) rfl ?_
  refine g_sub [0, 4, 5, 6, 7, 8, 3, 2, 1] [(8, .int (nI (m9))), (0, .ref (w.1 (0))), (1, .int (nI (i))), (2, .int (nI (k))), (3, .int (nI (g))), (4, .int (nI (m9))), (5, .int (nI (o))), (6, .int (nI (t9))), (7, .int (nI ((47 * g) + m9)))] rfl ?_
  refine g_st (σ9 := sI (sI σ (25) (upd (iA σ 25) (47 * g + m9) (lz2 (iA σ 25) (iA σ 26) (mq σ k) o t9 m9 (mN σ k) z0 (0)).1)) (26) (upd (iA σ 26) (47 * g + m9) (lz2 (iA σ 25) (iA σ 26) (mq σ k) o t9 m9 (mN σ k) z0 (0)).2)) rfl ?_
  refine g_lp1 (α := Nat) (fun v => v ≤ mN σ k - m9) (fun v => mN σ k - v) (fun v => G p l e _ s m args below meth c _ w A _ (sI (sI σ (25) (upd (iA σ 25) (47 * g + m9) (lz2 (iA σ 25) (iA σ 26) (mq σ k) o t9 m9 (mN σ k) z0 (v)).1)) (26) (upd (iA σ 26) (47 * g + m9) (lz2 (iA σ 25) (iA σ 26) (mq σ k) o t9 m9 (mN σ k) z0 (v)).2)) 0 0 32 [(8, .int (nI (m9 + v))), (0, .ref (w.1 (0))), (1, .int (nI (i))), (2, .int (nI (k))), (3, .int (nI (g))), (4, .int (nI (m9))), (5, .int (nI (o))), (6, .int (nI (t9))), (7, .int (nI (47 * g + m9)))] []) (fun v hv ih0 => ?_) (0) (Nat.zero_le _)
  refine g_iload (pc9 := 34) C rfl 0 dX11_laysOne_32 rfl ?_
  refine g_aload_n (pc9 := 35) C rfl 1 dX11_laysOne_34 rfl rfl ?_
  refine g_get (v := .ref (w.1 (2))) (pc9 := 38) C rfl (0) 5 dX11_laysOne_35 (by decide) (ce_0 w (sI (sI σ (25) (upd (iA σ 25) (47 * g + m9) (lz2 (iA σ 25) (iA σ 26) (mq σ k) o t9 m9 (mN σ k) z0 (v)).1)) (26) (upd (iA σ 26) (47 * g + m9) (lz2 (iA σ 25) (iA σ 26) (mq σ k) o t9 m9 (mN σ k) z0 (v)).2))) hin_11 hl_17 rfl (by decide) rfl rfl ?_
  refine g_iload_n (pc9 := 39) C rfl 3 dX11_laysOne_38 rfl rfl ?_
  refine g_iald (x := nI (mN σ (k))) (pc9 := 40) C rfl (2) (k) dX11_laysOne_39 (by decide) (ce_2 w (sI (sI σ (25) (upd (iA σ 25) (47 * g + m9) (lz2 (iA σ 25) (iA σ 26) (mq σ k) o t9 m9 (mN σ k) z0 (v)).1)) (26) (upd (iA σ 26) (47 * g + m9) (lz2 (iA σ 25) (iA σ 26) (mq σ k) o t9 m9 (mN σ k) z0 (v)).2))) rfl (by omega) (by decide) ((congrFun ((iA_n (by decide)).trans (iA_n (by decide))) _).trans (hM k hb_k).1) ?_
  refine g_icmp_ge (pc9 := 43) C rfl 359 dX11_laysOne_40 rfl (fun c_3 => ?_) (fun c_3 => ?_)
  · replace c_3 := (nI_leI (by omega) (by omega)).mp c_3
    exact g_return C hr hlk dX11_laysOne_359 (by show _ = sI (sI σ (25) (upd (iA σ 25) (47 * g + m9) (lz2 (iA σ 25) (iA σ 26) (mq σ k) o t9 m9 (mN σ k) z0 (mN σ k - m9)).1)) (26) (upd (iA σ 26) (47 * g + m9) (lz2 (iA σ 25) (iA σ 26) (mq σ k) o t9 m9 (mN σ k) z0 (mN σ k - m9)).2); rw [show v = mN σ k - m9 by omega])
  · replace c_3 := (not_congr (nI_leI (by omega) (by omega))).mp c_3
    refine g_aload_n (pc9 := 44) C rfl 1 dX11_laysOne_43 rfl rfl ?_
    refine g_get (v := .ref (w.1 (25))) (pc9 := 47) C rfl (0) 34 dX11_laysOne_44 (by decide) (ce_0 w (sI (sI σ (25) (upd (iA σ 25) (47 * g + m9) (lz2 (iA σ 25) (iA σ 26) (mq σ k) o t9 m9 (mN σ k) z0 (v)).1)) (26) (upd (iA σ 26) (47 * g + m9) (lz2 (iA σ 25) (iA σ 26) (mq σ k) o t9 m9 (mN σ k) z0 (v)).2))) hin_11 hl_92 rfl (by decide) rfl rfl ?_
    refine g_bipush (pc9 := 49) C rfl (nI (47)) dX11_laysOne_47 rfl ?_
    refine g_iload (pc9 := 51) C rfl 6 dX11_laysOne_49 rfl ?_
    refine g_imulN (pc9 := 52) C rfl dX11_laysOne_51 ?_
    refine g_iload (pc9 := 54) C rfl 0 dX11_laysOne_52 rfl ?_
    refine g_iaddN (pc9 := 55) C rfl dX11_laysOne_54 ?_
    refine g_iald (x := iA σ 25 (47 * o + (m9 + v))) (pc9 := 56) C rfl (25) ((47 * o) + (m9 + v)) dX11_laysOne_55 (by decide) (ce_25 w (sI (sI σ (25) (upd (iA σ 25) (47 * g + m9) (lz2 (iA σ 25) (iA σ 26) (mq σ k) o t9 m9 (mN σ k) z0 (v)).1)) (26) (upd (iA σ 26) (47 * g + m9) (lz2 (iA σ 25) (iA σ 26) (mq σ k) o t9 m9 (mN σ k) z0 (v)).2))) rfl (by omega) (by decide) ((congrFun ((iA_n (by decide)).trans (iA_s)) _).trans (pk_un (by omega))) ?_
    refine g_ldc_w (pc9 := 59) C rfl (lzN) dX11_laysOne_56 (by decide +kernel) ?_
    refine g_icmp_ge (pc9 := 62) C rfl 353 dX11_laysOne_59 rfl (fun c_4 => ?_) (fun c_4 => ?_)
    · have hs : lz2 (iA σ 25) (iA σ 26) (mq σ k) o t9 m9 (mN σ k) z0 (v + 1) = lz2 (iA σ 25) (iA σ 26) (mq σ k) o t9 m9 (mN σ k) z0 (v) := lz1_n (fun h => absurd h.1 (Int32.not_lt.mpr c_4)) _
      refine g_iinc (pc9 := 356) C rfl [(8, .int (nI (m9 + v + 1))), (0, .ref (w.1 (0))), (1, .int (nI (i))), (2, .int (nI (k))), (3, .int (nI (g))), (4, .int (nI (m9))), (5, .int (nI (o))), (6, .int (nI (t9))), (7, .int (nI (47 * g + m9)))] 0 (nI (m9 + v + 1)) dX11_laysOne_353 rfl (nI_1 (m9 + v)) (by decide) rfl ?_
      refine g_goto C 32 dX11_laysOne_356 rfl ?_
      refine g_sub [0, 1, 2, 3, 4, 5, 6, 7, 8] [(8, .int (nI (m9 + v + 1))), (0, .ref (w.1 (0))), (1, .int (nI (i))), (2, .int (nI (k))), (3, .int (nI (g))), (4, .int (nI (m9))), (5, .int (nI (o))), (6, .int (nI (t9))), (7, .int (nI (47 * g + m9)))] rfl ?_
      refine g_st (σ9 := sI (sI σ (25) (upd (iA σ 25) (47 * g + m9) (lz2 (iA σ 25) (iA σ 26) (mq σ k) o t9 m9 (mN σ k) z0 (v + 1)).1)) (26) (upd (iA σ 26) (47 * g + m9) (lz2 (iA σ 25) (iA σ 26) (mq σ k) o t9 m9 (mN σ k) z0 (v + 1)).2)) (by rw [hs]) ?_
      exact ih0 (v + 1) (by omega) (by omega)
    · have h1 := Int32.not_le.mp c_4
      refine g_aload_n (pc9 := 63) C rfl 1 dX11_laysOne_62 rfl rfl ?_
      refine g_iload_n (pc9 := 64) C rfl 3 dX11_laysOne_63 rfl rfl ?_
      refine g_iload (pc9 := 66) C rfl 5 dX11_laysOne_64 rfl ?_
      refine g_iload (pc9 := 68) C rfl 0 dX11_laysOne_66 rfl ?_
      refine g_callVi (nn := 3) (rest := []) (pc9 := 71) C rfl (0) [.int (nI (k)), .int (nI (m9)), .int (nI (m9 + v))] rfl dX11_laysOne_68 (m_X11_isAbove l w (sI (sI σ (25) (upd (iA σ 25) (47 * g + m9) (lz2 (iA σ 25) (iA σ 26) (mq σ k) o t9 m9 (mN σ k) z0 (v)).1)) (26) (upd (iA σ 26) (47 * g + m9) (lz2 (iA σ 25) (iA σ 26) (mq σ k) o t9 m9 (mN σ k) z0 (v)).2)) k hb_k (hM k hb_k) m9 (m9 + v) (by show m9 + v < mN σ k; omega) (by omega)) gX11_laysOne_X11_isAbove (by decide) (ce_0 w (sI (sI σ (25) (upd (iA σ 25) (47 * g + m9) (lz2 (iA σ 25) (iA σ 26) (mq σ k) o t9 m9 (mN σ k) z0 (v)).1)) (26) (upd (iA σ 26) (47 * g + m9) (lz2 (iA σ 25) (iA σ 26) (mq σ k) o t9 m9 (mN σ k) z0 (v)).2))) rfl rfl rfl rfl rfl (by decide +kernel) ⟨by decide, by decide⟩ rfl (Nat.le_of_ble_eq_true rfl) ⟨by decide, by decide⟩ (fun r_5 σ_5 q_5 => ?_)
      obtain ⟨qs_5, qr_5⟩ := q_5
      replace qr_5 : r_5 = pI (mAb (mq σ k) m9 (m9 + v)) := qr_5
      rw [qs_5, qr_5]
      clear qs_5 qr_5
      refine g_if_ne (pc9 := 74) C rfl 77 dX11_laysOne_71 rfl (fun c_6 => ?_) (fun c_6 => ?_)
      · have h2 : lzX (iA σ 25) (mq σ k) o m9 (m9 + v) := ⟨h1, pI_ye (fun h => c_6 h)⟩
        refine g_iload (pc9 := 79) C rfl 5 dX11_laysOne_77 rfl ?_
        refine g_istore (pc9 := 81) C rfl [(9, .int (nI (m9))), (8, .int (nI (m9 + v))), (0, .ref (w.1 (0))), (1, .int (nI (i))), (2, .int (nI (k))), (3, .int (nI (g))), (4, .int (nI (m9))), (5, .int (nI (o))), (6, .int (nI (t9))), (7, .int (nI (47 * g + m9)))] dX11_laysOne_79 (by decide) rfl ?_
        refine g_sub [0, 1, 2, 3, 4, 5, 6, 7, 8, 9] [(9, .int (nI (m9))), (8, .int (nI (m9 + v))), (0, .ref (w.1 (0))), (1, .int (nI (i))), (2, .int (nI (k))), (3, .int (nI (g))), (4, .int (nI (m9))), (5, .int (nI (o))), (6, .int (nI (t9))), (7, .int (nI (47 * g + m9)))] rfl ?_
        refine m16_inner C σ hM i k g m9 o t9 hb_i hb_k hg ho ht hgo hgt hm9 (m9 + v) (by omega) h2 _ ?_
        refine g_iinc (pc9 := 356) C rfl [(8, .int (nI (m9 + v + 1))), (0, .ref (w.1 (0))), (1, .int (nI (i))), (2, .int (nI (k))), (3, .int (nI (g))), (4, .int (nI (m9))), (5, .int (nI (o))), (6, .int (nI (t9))), (7, .int (nI (47 * g + m9)))] 0 (nI (m9 + v + 1)) dX11_laysOne_353 rfl (nI_1 (m9 + v)) (by decide) rfl ?_
        refine g_goto C 32 dX11_laysOne_356 rfl ?_
        refine g_sub [0, 1, 2, 3, 4, 5, 6, 7, 8] [(8, .int (nI (m9 + v + 1))), (0, .ref (w.1 (0))), (1, .int (nI (i))), (2, .int (nI (k))), (3, .int (nI (g))), (4, .int (nI (m9))), (5, .int (nI (o))), (6, .int (nI (t9))), (7, .int (nI (47 * g + m9)))] rfl ?_
        exact ih0 (v + 1) (by omega) (by omega)
      · have hs : lz2 (iA σ 25) (iA σ 26) (mq σ k) o t9 m9 (mN σ k) z0 (v + 1) = lz2 (iA σ 25) (iA σ 26) (mq σ k) o t9 m9 (mN σ k) z0 (v) := lz1_n (fun h => pI_no (Classical.not_not.mp (fun q => q c_6)) h.2) _
        refine g_goto C 353 dX11_laysOne_74 rfl ?_
        refine g_iinc (pc9 := 356) C rfl [(8, .int (nI (m9 + v + 1))), (0, .ref (w.1 (0))), (1, .int (nI (i))), (2, .int (nI (k))), (3, .int (nI (g))), (4, .int (nI (m9))), (5, .int (nI (o))), (6, .int (nI (t9))), (7, .int (nI (47 * g + m9)))] 0 (nI (m9 + v + 1)) dX11_laysOne_353 rfl (nI_1 (m9 + v)) (by decide) rfl ?_
        refine g_goto C 32 dX11_laysOne_356 rfl ?_
        refine g_sub [0, 1, 2, 3, 4, 5, 6, 7, 8] [(8, .int (nI (m9 + v + 1))), (0, .ref (w.1 (0))), (1, .int (nI (i))), (2, .int (nI (k))), (3, .int (nI (g))), (4, .int (nI (m9))), (5, .int (nI (o))), (6, .int (nI (t9))), (7, .int (nI (47 * g + m9)))] rfl ?_
        refine g_st (σ9 := sI (sI σ (25) (upd (iA σ 25) (47 * g + m9) (lz2 (iA σ 25) (iA σ 26) (mq σ k) o t9 m9 (mN σ k) z0 (v + 1)).1)) (26) (upd (iA σ 26) (47 * g + m9) (lz2 (iA σ 25) (iA σ 26) (mq σ k) o t9 m9 (mN σ k) z0 (v + 1)).2)) (by rw [hs]) ?_
        exact ih0 (v + 1) (by omega) (by omega)

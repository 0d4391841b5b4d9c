/-! The reference: nearest -/
abbrev nqA (b : Nat → Int32) (k : Nat) : Prop := ¬ b k = 0
/-- sumOf -/
noncomputable def nqS (b : Nat → Int32) (d : Nat → Int64) (i : Nat) : Nat → Int64
  | 0 => 0
  | k + 1 => nqS b d i k + (cI (nqA b k ∧ ¬ k = i) (d (24 * i + k)) 0)
/-- liveOf -/
noncomputable def nqL (a b : Nat → Int32) (p : Nat) : Nat → Int32
  | 0 => -1
  | k + 1 => cI (nqA b k ∧ ntz (a k) = nI p) (nI k) (nqL a b p k)
theorem nqL_in {a b : Nat → Int32} {p : Nat} : ∀ m, nqL a b p m = -1 ∨ ∃ k, k < m ∧ nqL a b p m = nI k
  | 0 => Or.inl rfl
  | m + 1 => by
    by_cases h : nqA b m ∧ ntz (a m) = nI p
    · exact Or.inr ⟨m, by omega, cI_t h⟩
    · have e : nqL a b p (m + 1) = nqL a b p m := cI_f h
      rw [e]
      rcases nqL_in (a := a) (b := b) (p := p) m with q | ⟨k, h1, h2⟩
      · exact Or.inl q
      · exact Or.inr ⟨k, by omega, h2⟩
/-- the score of two nodes -/
noncomputable def nqV (b : Nat → Int32) (d : Nat → Int64) (m L : Nat) (i j : Nat) : Int64 := (nI (L - 2)).toInt64 * d (24 * i + j) - nqS b d i m - nqS b d j m
abbrev NC := Int32 × Int32 × Int64
noncomputable def nqQ (a b : Nat → Int32) (d : Nat → Int64) (m L p q : Nat) (s : NC) : NC :=
  cI (nqL a b p m < 0 ∨ nqL a b q m < 0) s
    (cI (¬ s.1 < 0 ∧ ¬ nqV b d m L (nqL a b p m).toNatClampNeg (nqL a b q m).toNatClampNeg < s.2.2) s (nqL a b p m, nqL a b q m, nqV b d m L (nqL a b p m).toNatClampNeg (nqL a b q m).toNatClampNeg))
noncomputable def nqC1 (a b : Nat → Int32) (d : Nat → Int64) (m L p : Nat) (s : NC) : Nat → NC
  | 0 => s
  | u + 1 => nqQ a b d m L p (p + 1 + u) (nqC1 a b d m L p s u)
noncomputable def nqC (a b : Nat → Int32) (d : Nat → Int64) (m L N : Nat) : Nat → NC
  | 0 => (-1, -1, 0)
  | p + 1 => nqC1 a b d m L p (nqC a b d m L N p) (N - (p + 1))
def nqF (x y m : Nat) (d : Nat → Int64) : Nat → (Nat → Int64)
  | 0 => d
  | k + 1 => vp_updL (vp_updL (nqF x y m d k) (24 * m + k) ((nqF x y m d k (24 * x + k) + nqF x y m d k (24 * y + k) - nqF x y m d k (24 * x + y)) / 2)) (24 * k + m) (vp_updL (nqF x y m d k) (24 * m + k) ((nqF x y m d k (24 * x + k) + nqF x y m d k (24 * y + k) - nqF x y m d k (24 * x + y)) / 2) (24 * m + k))
abbrev nqOn : Int32 := vp_nar .boolean (nI (1))
abbrev nqOff : Int32 := vp_nar .boolean (nI (0))
abbrev NJ := (Nat → Int32) × (Nat → Int32) × (Nat → Int64) × Fam
def nqR (σ : St) (i : Nat) (d : Nat → Int64) : Nat → (Nat → Int64)
  | 0 => d
  | j + 1 => vp_updL (nqR σ i d j) (24 * i + j) (4096 * (mD σ i j).toInt64)
noncomputable def nq0 (σ : St) (N : Nat) : Nat → NJ
  | 0 => (iA σ 22, iA σ 23, jA σ 24, (0, iA σ 13))
  | i + 1 => (upd (nq0 σ N i).1 i (bitI i), upd (nq0 σ N i).2.1 i nqOn, nqR σ i (nq0 σ N i).2.2.1 N, maA (nq0 σ N i).2.2.2 (bitI i))
noncomputable def nqN (x y m : Nat) (s : NJ) : NJ := (upd s.1 m (s.1 x ||| s.1 y), upd (upd (upd s.2.1 x nqOff) y nqOff) m nqOn, vp_updL (nqF x y m s.2.2.1 m) (24 * m + m) 0, maA s.2.2.2 (s.1 x ||| s.1 y))
noncomputable abbrev nqK (N : Nat) (s : NJ) (t : Nat) : NC := nqC s.1 s.2.1 s.2.2.1 (N + t) (N - t) N N
/-- behind t joinings -/
noncomputable def nqT (σ : St) (N : Nat) : Nat → NJ
  | 0 => nq0 σ N N
  | t + 1 => nqN (nqK N (nqT σ N t) t).1.toNatClampNeg (nqK N (nqT σ N t) t).2.1.toNatClampNeg (N + t) (nqT σ N t)
noncomputable abbrev nqE (σ : St) (N : Nat) : Fam := maA (nqT σ N (N - 2)).2.2.2 (nI 1 <<< (nI N &&& 31) - nI 1)
abbrev nqW (σ : St) (s : NJ) : St := sN (sI (sJ (sI (sI (mT σ 0) 22 s.1) 23 s.2.1) 24 s.2.2.1) 13 s.2.2.2.2) 0 21 (nI s.2.2.2.1)
theorem nq0_le {σ : St} {N : Nat} : ∀ i, (nq0 σ N i).2.2.2.1 ≤ i
  | 0 => Nat.le_refl _
  | i + 1 => by
    have h1 := nq0_le (σ := σ) (N := N) i
    have h2 := maA_le (F := (nq0 σ N i).2.2.2) (x := bitI i)
    show (maA _ _).1 ≤ _
    omega
theorem nqT_le {σ : St} {N : Nat} : ∀ t, (nqT σ N t).2.2.2.1 ≤ N + t
  | 0 => nq0_le N
  | t + 1 => by
    have h1 := nqT_le (σ := σ) (N := N) t
    have h2 := maA_le (F := (nqT σ N t).2.2.2) (x := (nqT σ N t).1 (nqK N (nqT σ N t) t).1.toNatClampNeg ||| (nqT σ N t).1 (nqK N (nqT σ N t) t).2.1.toNatClampNeg)
    show (maA _ _).1 ≤ _
    omega
def mneaP (σ : St) (N : Nat) (u : Int32) (σ9 : St) : Prop := (¬ okI 8 u ∧ σ9 = mT σ 1) ∨ (∃ (k : Nat) (s : NJ), k < 8 ∧ u = nI k ∧ σ9 = puS (sJ (sI (sI (mT σ 0) 22 s.1) 23 s.2.1) 24 s.2.2.1) (nqE σ N) k)
set_option maxRecDepth 100000 in
set_option maxHeartbeats 4000000 in
theorem m_X11_far (l : Launch) (w : Wd) (σ : St) (i j : Nat) (hi : i < 24) (hj : j < 24) : ML l yX11_far wsX11_far (rmL 1) w [.ref (w.1 (0)), .int (nI (i)), .int (nI (j))] (σ) (fun r σ9 => σ9 = σ ∧ r = jA σ 24 (24 * i + j)) := by
  refine ML_of (cc := cX11_far) (maxL := 3) (ret := .long) (by decide) rfl (Nat.le_of_ble_eq_true rfl) ?_
  intro p e s m args below meth c A C hr hlk
  have C : Cx p s m args c w A cX11_far RX11 3 wsX11_far := C
  have hin_11 : ∀ u ∈ wsX110, u ∈ wsX11_far := by decide +kernel
  have hl_88 : Cond.fieldLink RX11 88 "LineageBenchModel" "far" "[J" ∈ wsX11_far := by decide +kernel
  refine g_aload_n (pc9 := 1) C rfl 0 dX11_far_0 rfl rfl ?_
  refine g_get (v := .ref (w.1 (24))) (pc9 := 4) C rfl (0) 33 dX11_far_1 (by decide) (ce_0 w (σ)) hin_11 hl_88 rfl (by decide) rfl rfl ?_
  refine g_bipush (pc9 := 6) C rfl (nI (24)) dX11_far_4 rfl ?_
  refine g_iload_n (pc9 := 7) C rfl 1 dX11_far_6 rfl rfl ?_
  refine g_imulN (pc9 := 8) C rfl dX11_far_7 ?_
  refine g_iload_n (pc9 := 9) C rfl 2 dX11_far_8 rfl rfl ?_
  refine g_iaddN (pc9 := 10) C rfl dX11_far_9 ?_
  refine g_lald (x := (jA σ (24)) ((24 * i) + j)) (pc9 := 11) C rfl (24) ((24 * i) + j) dX11_far_10 (by decide) (ce_24 w (σ)) rfl (by omega) (by decide) rfl ?_
  exact g_lreturn C hr hlk dX11_far_11 ⟨rfl, rfl⟩
set_option maxRecDepth 100000 in
set_option maxHeartbeats 4000000 in
theorem m_X11_sumOf (l : Launch) (w : Wd) (σ : St) (i m9 : Nat) (hi : i < 24) (hm : m9 ≤ 24) : ML l yX11_sumOf wsX11_sumOf (rmL 2) w [.ref (w.1 (0)), .int (nI (i)), .int (nI (m9))] (σ) (fun r σ9 => σ9 = σ ∧ r = nqS (iA σ 23) (jA σ 24) i m9) := by
  refine ML_of (cc := cX11_sumOf) (maxL := 6) (ret := .long) (by decide) rfl (Nat.le_of_ble_eq_true rfl) ?_
  intro p e s m args below meth c A C hr hlk
  have C : Cx p s m args c w A cX11_sumOf RX11 6 wsX11_sumOf := C
  have hin_11 : ∀ u ∈ wsX110, u ∈ wsX11_sumOf := by decide +kernel
  have hl_85 : Cond.fieldLink RX11 85 "LineageBenchModel" "isLive" "[Z" ∈ wsX11_sumOf := by decide +kernel
  refine g_lconst (pc9 := 1) C rfl (0) dX11_sumOf_0 rfl ?_
  refine g_lstore_n (pc9 := 2) C rfl [(3, .long ((0))), (0, .ref (w.1 (0))), (1, .int (nI (i))), (2, .int (nI (m9)))] dX11_sumOf_1 rfl (by decide) rfl ?_
  refine g_iconst (pc9 := 3) C rfl (nI (0)) dX11_sumOf_2 rfl ?_
  refine g_istore (pc9 := 5) C rfl [(5, .int (nI (0))), (3, .long ((0))), (0, .ref (w.1 (0))), (1, .int (nI (i))), (2, .int (nI (m9)))] dX11_sumOf_3 (by decide) rfl ?_
  refine g_sub [0, 1, 2, 3, 4] [(5, .int (nI (0))), (3, .long ((0))), (0, .ref (w.1 (0))), (1, .int (nI (i))), (2, .int (nI (m9)))] rfl ?_
  refine g_lp1 (α := Nat) (fun k => k ≤ m9) (fun k => m9 - k) (fun k => G p l e _ s m args below meth c _ w A _ (σ) 0 0 5 [(5, .int (nI (k))), (3, .long (nqS (iA σ 23) (jA σ 24) i k)), (0, .ref (w.1 (0))), (1, .int (nI (i))), (2, .int (nI (m9)))] []) (fun k hI ih => ?_) (0) (Nat.zero_le _)
  obtain hk := hI
  refine g_iload (pc9 := 7) C rfl 0 dX11_sumOf_5 rfl ?_
  refine g_iload_n (pc9 := 8) C rfl 4 dX11_sumOf_7 rfl rfl ?_
  refine g_icmp_ge (pc9 := 11) C rfl 47 dX11_sumOf_8 rfl (fun c_1 => ?_) (fun c_1 => ?_)
  · replace c_1 := (nI_leI (by omega) (by omega)).mp c_1
    refine g_lload_n (pc9 := 48) C rfl 1 dX11_sumOf_47 rfl rfl ?_
    exact g_lreturn C hr hlk dX11_sumOf_48 ⟨rfl, by rw [show k = m9 by omega]⟩
  · replace c_1 := (not_congr (nI_leI (by omega) (by omega))).mp c_1
    refine g_lload_n (pc9 := 12) C rfl 1 dX11_sumOf_11 rfl rfl ?_
    refine g_aload_n (pc9 := 13) C rfl 2 dX11_sumOf_12 rfl rfl ?_
    refine g_get (v := .ref (w.1 (23))) (pc9 := 16) C rfl (0) 32 dX11_sumOf_13 (by decide) (ce_0 w (σ)) hin_11 hl_85 rfl (by decide) rfl rfl ?_
    refine g_iload (pc9 := 18) C rfl 0 dX11_sumOf_16 rfl ?_
    refine g_zald (x := (iA σ (23)) (k)) (pc9 := 19) C rfl (23) (k) dX11_sumOf_18 (by decide) (ce_23 w (σ)) rfl (by omega) (by decide) rfl ?_
    refine g_if_eq (pc9 := 22) C rfl 38 dX11_sumOf_19 rfl (fun c_2 => ?_) (fun c_2 => ?_)
    · have hs : cI (nqA (iA σ 23) k ∧ ¬ k = i) (jA σ 24 (24 * i + k)) 0 = 0 := cI_f (fun h => h.1 c_2)
      refine g_lconst (pc9 := 39) C rfl (0) dX11_sumOf_38 rfl ?_
      refine g_ladd (pc9 := 40) C rfl dX11_sumOf_39 ?_
      refine g_lstore_n (pc9 := 41) C rfl [(3, .long ((nqS (iA σ 23) (jA σ 24) i k) + ((0)))), (5, .int (nI (k))), (0, .ref (w.1 (0))), (1, .int (nI (i))), (2, .int (nI (m9)))] dX11_sumOf_40 rfl (by decide) rfl ?_
      refine g_iinc (pc9 := 44) C rfl [(5, .int (nI (k + 1))), (3, .long ((nqS (iA σ 23) (jA σ 24) i k) + ((0)))), (0, .ref (w.1 (0))), (1, .int (nI (i))), (2, .int (nI (m9)))] 1 (nI (k + 1)) dX11_sumOf_41 rfl (nI_1 (k)) (by decide) rfl ?_
      refine g_goto C 5 dX11_sumOf_44 rfl ?_
      refine g_sub [0, 1, 2, 3, 4] [(5, .int (nI (k + 1))), (3, .long ((nqS (iA σ 23) (jA σ 24) i k) + ((0)))), (0, .ref (w.1 (0))), (1, .int (nI (i))), (2, .int (nI (m9)))] rfl ?_
      rw [← hs]
      exact ih (k + 1) (by omega) (by omega)
    · have h1 : nqA (iA σ 23) k := c_2
      refine g_iload (pc9 := 24) C rfl 0 dX11_sumOf_22 rfl ?_
      refine g_iload_n (pc9 := 25) C rfl 3 dX11_sumOf_24 rfl rfl ?_
      refine g_icmp_eq (pc9 := 28) C rfl 38 dX11_sumOf_25 rfl (fun c_3 => ?_) (fun c_3 => ?_)
      · replace c_3 := (nI_eq (by omega) (by omega)).mp c_3
        have hs : cI (nqA (iA σ 23) k ∧ ¬ k = i) (jA σ 24 (24 * i + k)) 0 = 0 := cI_f (fun h => h.2 c_3)
        refine g_lconst (pc9 := 39) C rfl (0) dX11_sumOf_38 rfl ?_
        refine g_ladd (pc9 := 40) C rfl dX11_sumOf_39 ?_
        refine g_lstore_n (pc9 := 41) C rfl [(3, .long ((nqS (iA σ 23) (jA σ 24) i k) + ((0)))), (5, .int (nI (k))), (0, .ref (w.1 (0))), (1, .int (nI (i))), (2, .int (nI (m9)))] dX11_sumOf_40 rfl (by decide) rfl ?_
        refine g_iinc (pc9 := 44) C rfl [(5, .int (nI (k + 1))), (3, .long ((nqS (iA σ 23) (jA σ 24) i k) + ((0)))), (0, .ref (w.1 (0))), (1, .int (nI (i))), (2, .int (nI (m9)))] 1 (nI (k + 1)) dX11_sumOf_41 rfl (nI_1 (k)) (by decide) rfl ?_
        refine g_goto C 5 dX11_sumOf_44 rfl ?_
        refine g_sub [0, 1, 2, 3, 4] [(5, .int (nI (k + 1))), (3, .long ((nqS (iA σ 23) (jA σ 24) i k) + ((0)))), (0, .ref (w.1 (0))), (1, .int (nI (i))), (2, .int (nI (m9)))] rfl ?_
        rw [← hs]
        exact ih (k + 1) (by omega) (by omega)
      · replace c_3 := (not_congr (nI_eq (by omega) (by omega))).mp c_3
        have hs : cI (nqA (iA σ 23) k ∧ ¬ k = i) (jA σ 24 (24 * i + k)) 0 = jA σ 24 (24 * i + k) := cI_t ⟨h1, c_3⟩
        refine g_aload_n (pc9 := 29) C rfl 2 dX11_sumOf_28 rfl rfl ?_
        refine g_iload_n (pc9 := 30) C rfl 3 dX11_sumOf_29 rfl rfl ?_
        refine g_iload (pc9 := 32) C rfl 0 dX11_sumOf_30 rfl ?_
        refine g_callVl (nn := 2) (rest := [.long (nqS (iA σ 23) (jA σ 24) i k)]) (pc9 := 35) C rfl (0) [.int (nI (i)), .int (nI (k))] rfl dX11_sumOf_32 (m_X11_far l w σ i k hi (by omega)) gX11_sumOf_X11_far (by decide) (ce_0 w (σ)) rfl rfl rfl rfl rfl (by decide +kernel) ⟨by decide, by decide⟩ rfl (Nat.le_of_ble_eq_true rfl) ⟨by decide, by decide⟩ (fun r_4 σ_4 q_4 => ?_)
        obtain ⟨qs_4, qr_4⟩ := q_4
        rw [qs_4, qr_4]
        clear qs_4 qr_4
        refine g_goto C 39 dX11_sumOf_35 rfl ?_
        refine g_ladd (pc9 := 40) C rfl dX11_sumOf_39 ?_
        refine g_lstore_n (pc9 := 41) C rfl [(3, .long ((nqS (iA σ 23) (jA σ 24) i k) + (jA σ 24 (24 * i + k)))), (5, .int (nI (k))), (0, .ref (w.1 (0))), (1, .int (nI (i))), (2, .int (nI (m9)))] dX11_sumOf_40 rfl (by decide) rfl ?_
        refine g_iinc (pc9 := 44) C rfl [(5, .int (nI (k + 1))), (3, .long ((nqS (iA σ 23) (jA σ 24) i k) + (jA σ 24 (24 * i + k)))), (0, .ref (w.1 (0))), (1, .int (nI (i))), (2, .int (nI (m9)))] 1 (nI (k + 1)) dX11_sumOf_41 rfl (nI_1 (k)) (by decide) rfl ?_
        refine g_goto C 5 dX11_sumOf_44 rfl ?_
        refine g_sub [0, 1, 2, 3, 4] [(5, .int (nI (k + 1))), (3, .long ((nqS (iA σ 23) (jA σ 24) i k) + (jA σ 24 (24 * i + k)))), (0, .ref (w.1 (0))), (1, .int (nI (i))), (2, .int (nI (m9)))] rfl ?_
        rw [← hs]
        exact ih (k + 1) (by omega) (by omega)
set_option maxRecDepth 100000 in
set_option maxHeartbeats 4000000 in
theorem m_X11_liveOf (l : Launch) (w : Wd) (σ : St) (p9 m9 : Nat) (hm : m9 ≤ 24) : MI l yX11_liveOf wsX11_liveOf (rmL 2) w [.ref (w.1 (0)), .int (nI (p9)), .int (nI (m9))] (σ) (fun r σ9 => σ9 = σ ∧ r = nqL (iA σ 22) (iA σ 23) p9 m9) := by
  refine MI_of (cc := cX11_liveOf) (maxL := 5) (ret := .int) (by decide) rfl (Nat.le_of_ble_eq_true rfl) ?_
  intro p e s m args below meth c A C hr hlk
  have C : Cx p s m args c w A cX11_liveOf RX11 5 wsX11_liveOf := C
  have hin_11 : ∀ u ∈ wsX110, u ∈ wsX11_liveOf := by decide +kernel
  have hl_82 : Cond.fieldLink RX11 82 "LineageBenchModel" "nodeSet" "[I" ∈ wsX11_liveOf := by decide +kernel
  have hl_85 : Cond.fieldLink RX11 85 "LineageBenchModel" "isLive" "[Z" ∈ wsX11_liveOf := by decide +kernel
  refine g_iconst (pc9 := 1) C rfl ((-1)) dX11_liveOf_0 rfl ?_
  refine g_istore_n (pc9 := 2) C rfl [(3, .int ((-1))), (0, .ref (w.1 (0))), (1, .int (nI (p9))), (2, .int (nI (m9)))] dX11_liveOf_1 rfl (by decide) rfl ?_
  refine g_iconst (pc9 := 3) C rfl (nI (0)) dX11_liveOf_2 rfl ?_
  refine g_istore (pc9 := 5) C rfl [(4, .int (nI (0))), (3, .int ((-1))), (0, .ref (w.1 (0))), (1, .int (nI (p9))), (2, .int (nI (m9)))] dX11_liveOf_3 (by decide) rfl ?_
  refine g_sub [0, 1, 2, 3, 4] [(4, .int (nI (0))), (3, .int ((-1))), (0, .ref (w.1 (0))), (1, .int (nI (p9))), (2, .int (nI (m9)))] rfl ?_
  refine g_lp1 (α := Nat) (fun k => k ≤ m9) (fun k => m9 - k) (fun k => G p l e _ s m args below meth c _ w A _ (σ) 0 0 5 [(4, .int (nI (k))), (3, .int (nqL (iA σ 22) (iA σ 23) p9 k)), (0, .ref (w.1 (0))), (1, .int (nI (p9))), (2, .int (nI (m9)))] []) (fun k hI ih => ?_) (0) (Nat.zero_le _)
  obtain hk := hI
  refine g_iload (pc9 := 7) C rfl 0 dX11_liveOf_5 rfl ?_
  refine g_iload_n (pc9 := 8) C rfl 4 dX11_liveOf_7 rfl rfl ?_
  refine g_icmp_ge (pc9 := 11) C rfl 44 dX11_liveOf_8 rfl (fun c_1 => ?_) (fun c_1 => ?_)
  · replace c_1 := (nI_leI (by omega) (by omega)).mp c_1
    refine g_iload_n (pc9 := 45) C rfl 1 dX11_liveOf_44 rfl rfl ?_
    exact g_ireturn C hr hlk dX11_liveOf_45 ⟨rfl, by rw [show k = m9 by omega]⟩
  · replace c_1 := (not_congr (nI_leI (by omega) (by omega))).mp c_1
    refine g_aload_n (pc9 := 12) C rfl 2 dX11_liveOf_11 rfl rfl ?_
    refine g_get (v := .ref (w.1 (23))) (pc9 := 15) C rfl (0) 32 dX11_liveOf_12 (by decide) (ce_0 w (σ)) hin_11 hl_85 rfl (by decide) rfl rfl ?_
    refine g_iload (pc9 := 17) C rfl 0 dX11_liveOf_15 rfl ?_
    refine g_zald (x := (iA σ (23)) (k)) (pc9 := 18) C rfl (23) (k) dX11_liveOf_17 (by decide) (ce_23 w (σ)) rfl (by omega) (by decide) rfl ?_
    refine g_if_eq (pc9 := 21) C rfl 38 dX11_liveOf_18 rfl (fun c_2 => ?_) (fun c_2 => ?_)
    · have hs : nqL (iA σ 22) (iA σ 23) p9 (k + 1) = nqL (iA σ 22) (iA σ 23) p9 k := cI_f (fun h => h.1 c_2)
      refine g_iinc (pc9 := 41) C rfl [(4, .int (nI (k + 1))), (3, .int (nqL (iA σ 22) (iA σ 23) p9 k)), (0, .ref (w.1 (0))), (1, .int (nI (p9))), (2, .int (nI (m9)))] 0 (nI (k + 1)) dX11_liveOf_38 rfl (nI_1 (k)) (by decide) rfl ?_
      refine g_goto C 5 dX11_liveOf_41 rfl ?_
      refine g_sub [0, 1, 2, 3, 4] [(4, .int (nI (k + 1))), (3, .int (nqL (iA σ 22) (iA σ 23) p9 k)), (0, .ref (w.1 (0))), (1, .int (nI (p9))), (2, .int (nI (m9)))] rfl ?_
      refine g_l2 hs.symm ?_
      exact ih (k + 1) (by omega) (by omega)
    · have h1 : nqA (iA σ 23) k := c_2
      refine g_aload_n (pc9 := 22) C rfl 2 dX11_liveOf_21 rfl rfl ?_
      refine g_get (v := .ref (w.1 (22))) (pc9 := 25) C rfl (0) 31 dX11_liveOf_22 (by decide) (ce_0 w (σ)) hin_11 hl_82 rfl (by decide) rfl rfl ?_
      refine g_iload (pc9 := 27) C rfl 0 dX11_liveOf_25 rfl ?_
      refine g_iald (x := (iA σ (22)) (k)) (pc9 := 28) C rfl (22) (k) dX11_liveOf_27 (by decide) (ce_22 w (σ)) rfl (by omega) (by decide) rfl ?_
      refine g_callSi (nn := 1) (rest := []) (pc9 := 31) C rfl [.int ((iA σ (22)) (k))] rfl dX11_liveOf_28 (m_ntz l w _ ((iA σ (22)) (k))) gX11_liveOf_J6_numberOfTrailingZeros_0f7a4 rfl rfl rfl (by decide +kernel) ⟨by decide, by decide⟩ rfl (Nat.le_of_ble_eq_true rfl) ⟨by decide, by decide⟩ (fun r_3 σ_3 q_3 => ?_)
      obtain ⟨qs_3, qr_3⟩ := q_3
      rw [qs_3, qr_3]
      clear qs_3 qr_3
      refine g_iload_n (pc9 := 32) C rfl 3 dX11_liveOf_31 rfl rfl ?_
      refine g_icmp_ne (pc9 := 35) C rfl 38 dX11_liveOf_32 rfl (fun c_4 => ?_) (fun c_4 => ?_)
      · have hs : nqL (iA σ 22) (iA σ 23) p9 (k + 1) = nqL (iA σ 22) (iA σ 23) p9 k := cI_f (fun h => c_4 h.2)
        refine g_iinc (pc9 := 41) C rfl [(4, .int (nI (k + 1))), (3, .int (nqL (iA σ 22) (iA σ 23) p9 k)), (0, .ref (w.1 (0))), (1, .int (nI (p9))), (2, .int (nI (m9)))] 0 (nI (k + 1)) dX11_liveOf_38 rfl (nI_1 (k)) (by decide) rfl ?_
        refine g_goto C 5 dX11_liveOf_41 rfl ?_
        refine g_sub [0, 1, 2, 3, 4] [(4, .int (nI (k + 1))), (3, .int (nqL (iA σ 22) (iA σ 23) p9 k)), (0, .ref (w.1 (0))), (1, .int (nI (p9))), (2, .int (nI (m9)))] rfl ?_
        refine g_l2 hs.symm ?_
        exact ih (k + 1) (by omega) (by omega)
      · have hs : nqL (iA σ 22) (iA σ 23) p9 (k + 1) = nI k := cI_t ⟨h1, Classical.not_not.mp (fun h => h c_4)⟩
        refine g_iload (pc9 := 37) C rfl 0 dX11_liveOf_35 rfl ?_
        refine g_istore_n (pc9 := 38) C rfl [(3, .int (nI (k))), (4, .int (nI (k))), (0, .ref (w.1 (0))), (1, .int (nI (p9))), (2, .int (nI (m9)))] dX11_liveOf_37 rfl (by decide) rfl ?_
        refine g_iinc (pc9 := 41) C rfl [(4, .int (nI (k + 1))), (3, .int (nI (k))), (0, .ref (w.1 (0))), (1, .int (nI (p9))), (2, .int (nI (m9)))] 1 (nI (k + 1)) dX11_liveOf_38 rfl (nI_1 (k)) (by decide) rfl ?_
        refine g_goto C 5 dX11_liveOf_41 rfl ?_
        refine g_sub [0, 1, 2, 3, 4] [(4, .int (nI (k + 1))), (3, .int (nI (k))), (0, .ref (w.1 (0))), (1, .int (nI (p9))), (2, .int (nI (m9)))] rfl ?_
        refine g_l2 hs.symm ?_
        exact ih (k + 1) (by omega) (by omega)
set_option maxRecDepth 100000 in
set_option maxHeartbeats 4000000 in
theorem m14_init {p : Program} {l : Launch} {e : Env} {s : State} {m : MethodId} {args : Array Value} {below : List Frame} {meth : Method} {c : Code} {Q : State → Prop} {w : Wd} {A : Nat → Prop} (C : Cx p s m args c w A cX11_nearest RX11 14 wsX11_nearest) (σ : St) (N : Nat) (hN : nF σ 0 16 = nI N) (h12 : N ≤ 12) (q9 : Nat) (kont : G p l e (rmL 3) s m args below meth c Q w A 14 (sN (sI (sJ (sI (sI (sN σ (0) 0 (nI (0))) (22) ((nq0 σ N N).1)) (23) ((nq0 σ N N).2.1)) (24) ((nq0 σ N N).2.2.1)) (13) ((nq0 σ N N).2.2.2.2)) (0) 21 (nI ((nq0 σ N N).2.2.2.1))) 0 0 109 [(2, .int (nI (N))), (0, .ref (w.1 (0))), (1, .int (nI (q9)))] []) : G p l e (rmL 3) s m args below meth c Q w A 14 (sN (sN σ (0) 0 (nI (0))) (0) 21 (nI (0))) 0 0 30 [(3, .int (nI (0))), (2, .int (nI (N))), (0, .ref (w.1 (0))), (1, .int (nI (q9)))] [] := by
  have hin_11 : ∀ u ∈ wsX110, u ∈ wsX11_nearest := by decide +kernel
  have hl_45 : Cond.fieldLink RX11 45 "LineageBenchModel" "n" "I" ∈ wsX11_nearest := by decide +kernel
  have hl_82 : Cond.fieldLink RX11 82 "LineageBenchModel" "nodeSet" "[I" ∈ wsX11_nearest := by decide +kernel
  have hl_85 : Cond.fieldLink RX11 85 "LineageBenchModel" "isLive" "[Z" ∈ wsX11_nearest := by decide +kernel
  have hl_88 : Cond.fieldLink RX11 88 "LineageBenchModel" "far" "[J" ∈ wsX11_nearest := by decide +kernel
  refine g_st (σ9 := sN (sI (sJ (sI (sI (sN σ (0) 0 (nI (0))) (22) ((nq0 σ N 0).1)) (23) ((nq0 σ N 0).2.1)) (24) ((nq0 σ N 0).2.2.1)) (13) ((nq0 σ N 0).2.2.2.2)) (0) 21 (nI ((nq0 σ N 0).2.2.2.1))) (by show _ = sN (sI (sJ (sI (sI (mT σ 0) 22 (iA (mT σ 0) 22)) 23 (iA (mT σ 0) 23)) 24 (jA (mT σ 0) 24)) 13 (iA (mT σ 0) 13)) 0 21 (nI 0); rw [sI_self, sI_self, sJ_self, sI_self]) ?_
  refine g_lp1 (α := Nat) (fun i => i ≤ N) (fun i => N - i) (fun i => G p l e _ s m args below meth c _ w A _ (sN (sI (sJ (sI (sI (sN σ (0) 0 (nI (0))) (22) ((nq0 σ N i).1)) (23) ((nq0 σ N i).2.1)) (24) ((nq0 σ N i).2.2.1)) (13) ((nq0 σ N i).2.2.2.2)) (0) 21 (nI ((nq0 σ N i).2.2.2.1))) 0 0 30 [(3, .int (nI (i))), (2, .int (nI (N))), (0, .ref (w.1 (0))), (1, .int (nI (q9)))] []) (fun i hi ih0 => ?_) (0) (Nat.zero_le _)
  have hle := nq0_le (σ := σ) (N := N) i
  refine g_iload_n (pc9 := 31) C rfl 0 dX11_nearest_30 rfl rfl ?_
  refine g_aload_n (pc9 := 32) C rfl 2 dX11_nearest_31 rfl rfl ?_
  refine g_get (v := .int (nI (N))) (pc9 := 35) C rfl (0) 16 dX11_nearest_32 (by decide) (ce_0 w (sN (sI (sJ (sI (sI (sN σ (0) 0 (nI (0))) (22) ((nq0 σ N i).1)) (23) ((nq0 σ N i).2.1)) (24) ((nq0 σ N i).2.2.1)) (13) ((nq0 σ N i).2.2.2.2)) (0) 21 (nI ((nq0 σ N i).2.2.2.1)))) hin_11 hl_45 rfl (by decide) rfl (congrArg (fun z => some (Value.int z)) (((((((nF_k (k := 21) (k9 := 16) (by decide)).trans (nF_I)).trans (nF_J)).trans (nF_I)).trans (nF_I)).trans (nF_k (k := 0) (k9 := 16) (by decide))).trans hN)) ?_
  refine g_icmp_ge (pc9 := 38) C rfl 109 dX11_nearest_35 rfl (fun c_1 => ?_) (fun c_1 => ?_)
  · replace c_1 := (nI_leI (by omega) (by omega)).mp c_1
    refine g_sub [1, 2, 3] [(2, .int (nI (N))), (0, .ref (w.1 (0))), (1, .int (nI (q9)))] rfl ?_
    have hiN : i = N := by omega
    subst hiN
    exact kont
  · replace c_1 := (not_congr (nI_leI (by omega) (by omega))).mp c_1
    refine g_aload_n (pc9 := 39) C rfl 2 dX11_nearest_38 rfl rfl ?_
    refine g_get (v := .ref (w.1 (22))) (pc9 := 42) C rfl (0) 31 dX11_nearest_39 (by decide) (ce_0 w (sN (sI (sJ (sI (sI (sN σ (0) 0 (nI (0))) (22) ((nq0 σ N i).1)) (23) ((nq0 σ N i).2.1)) (24) ((nq0 σ N i).2.2.1)) (13) ((nq0 σ N i).2.2.2.2)) (0) 21 (nI ((nq0 σ N i).2.2.2.1)))) hin_11 hl_82 rfl (by decide) rfl rfl ?_
    refine g_iload_n (pc9 := 43) C rfl 0 dX11_nearest_42 rfl rfl ?_
    refine g_iconst (pc9 := 44) C rfl (nI (1)) dX11_nearest_43 rfl ?_
    refine g_iload_n (pc9 := 45) C rfl 0 dX11_nearest_44 rfl rfl ?_
    refine g_ishl (pc9 := 46) C rfl dX11_nearest_45 ?_
    refine g_iast (pc9 := 47) C rfl (22) (i) ((nq0 σ N i).1) dX11_nearest_46 (by decide) (fun _ => rfl) (ce_22 w (sN (sI (sJ (sI (sI (sN σ (0) 0 (nI (0))) (22) ((nq0 σ N i).1)) (23) ((nq0 σ N i).2.1)) (24) ((nq0 σ N i).2.2.1)) (13) ((nq0 σ N i).2.2.2.2)) (0) 21 (nI ((nq0 σ N i).2.2.2.1)))) rfl (by omega) (by decide) (((((iA_N).trans (iA_n (by decide))).trans (iA_J)).trans (iA_n (by decide))).trans (iA_s)) ?_
    rw [sI_sN (a := 0) (k := 21) (b := 22), sI_cm (a := 13) (b := 22) (by decide), sI_sJ (a := 22) (b := 24), sI_cm (a := 23) (b := 22) (by decide), sI_sI (a := 22)]
    refine g_aload_n (pc9 := 48) C rfl 2 dX11_nearest_47 rfl rfl ?_
    refine g_get (v := .ref (w.1 (23))) (pc9 := 51) C rfl (0) 32 dX11_nearest_48 (by decide) (ce_0 w (sN (sI (sJ (sI (sI (sN σ (0) 0 (nI (0))) (22) (upd ((nq0 σ N i).1) (i) ((nI (1)) <<< ((nI (i)) &&& 31)))) (23) ((nq0 σ N i).2.1)) (24) ((nq0 σ N i).2.2.1)) (13) ((nq0 σ N i).2.2.2.2)) (0) 21 (nI ((nq0 σ N i).2.2.2.1)))) hin_11 hl_85 rfl (by decide) rfl rfl ?_
    refine g_iload_n (pc9 := 52) C rfl 0 dX11_nearest_51 rfl rfl ?_
    refine g_iconst (pc9 := 53) C rfl (nI (1)) dX11_nearest_52 rfl ?_
    refine g_zast (pc9 := 54) C rfl (23) (i) ((nq0 σ N i).2.1) dX11_nearest_53 (by decide) (fun _ => rfl) (ce_23 w (sN (sI (sJ (sI (sI (sN σ (0) 0 (nI (0))) (22) (upd ((nq0 σ N i).1) (i) ((nI (1)) <<< ((nI (i)) &&& 31)))) (23) ((nq0 σ N i).2.1)) (24) ((nq0 σ N i).2.2.1)) (13) ((nq0 σ N i).2.2.2.2)) (0) 21 (nI ((nq0 σ N i).2.2.2.1)))) rfl (by omega) (by decide) ((((iA_N).trans (iA_n (by decide))).trans (iA_J)).trans (iA_s)) ?_
    rw [sI_sN (a := 0) (k := 21) (b := 23), sI_cm (a := 13) (b := 23) (by decide), sI_sJ (a := 23) (b := 24), sI_sI (a := 23)]
    refine g_aload_n (pc9 := 55) C rfl 2 dX11_nearest_54 rfl rfl ?_
    refine g_iconst (pc9 := 56) C rfl (nI (1)) dX11_nearest_55 rfl ?_
    refine g_iload_n (pc9 := 57) C rfl 0 dX11_nearest_56 rfl rfl ?_
    refine g_ishl (pc9 := 58) C rfl dX11_nearest_57 ?_
    refine g_callVv (nn := 1) (rest := []) (pc9 := 61) C rfl (0) [.int ((nI (1)) <<< ((nI (i)) &&& 31))] rfl dX11_nearest_58 (m_X11_adds l w (sJ (sI (sI (sN σ (0) 0 (nI (0))) (22) (upd (nq0 σ N i).1 i (bitI i))) (23) (upd (nq0 σ N i).2.1 i nqOn)) (24) ((nq0 σ N i).2.2.1)) (nq0 σ N i).2.2.2 (by omega) (bitI i)) gX11_nearest_X11_adds (by decide) (ce_0 w (sN (sI (sJ (sI (sI (sN σ (0) 0 (nI (0))) (22) (upd ((nq0 σ N i).1) (i) ((nI (1)) <<< ((nI (i)) &&& 31)))) (23) (upd ((nq0 σ N i).2.1) (i) (vp_nar .boolean (nI (1))))) (24) ((nq0 σ N i).2.2.1)) (13) ((nq0 σ N i).2.2.2.2)) (0) 21 (nI ((nq0 σ N i).2.2.2.1)))) rfl rfl rfl rfl rfl (by decide +kernel) ⟨by decide, by decide⟩ rfl (Nat.le_of_ble_eq_true rfl) ⟨by decide, by decide⟩ (fun σ_2 q_2 => ?_)
    replace q_2 : σ_2 = sN (sI (sJ (sI (sI (sN σ (0) 0 (nI (0))) (22) (upd (nq0 σ N i).1 i (bitI i))) (23) (upd (nq0 σ N i).2.1 i nqOn)) (24) (nqR σ i (nq0 σ N i).2.2.1 0)) (13) ((maA (nq0 σ N i).2.2.2 (bitI i)).2)) (0) 21 (nI ((maA (nq0 σ N i).2.2.2 (bitI i)).1)) := q_2
    rw [q_2]
    clear q_2
    refine g_iconst (pc9 := 62) C rfl (nI (0)) dX11_nearest_61 rfl ?_
    refine g_istore (pc9 := 64) C rfl [(4, .int (nI (0))), (3, .int (nI (i))), (2, .int (nI (N))), (0, .ref (w.1 (0))), (1, .int (nI (q9)))] dX11_nearest_62 (by decide) rfl ?_
    refine g_sub [0, 1, 2, 3, 4] [(4, .int (nI (0))), (3, .int (nI (i))), (2, .int (nI (N))), (0, .ref (w.1 (0))), (1, .int (nI (q9)))] rfl ?_
    refine g_lp1 (α := Nat) (fun j => j ≤ N) (fun j => N - j) (fun j => G p l e _ s m args below meth c _ w A _ (sN (sI (sJ (sI (sI (sN σ (0) 0 (nI (0))) (22) (upd (nq0 σ N i).1 i (bitI i))) (23) (upd (nq0 σ N i).2.1 i nqOn)) (24) (nqR σ i (nq0 σ N i).2.2.1 (j))) (13) ((maA (nq0 σ N i).2.2.2 (bitI i)).2)) (0) 21 (nI ((maA (nq0 σ N i).2.2.2 (bitI i)).1))) 0 0 64 [(4, .int (nI (j))), (3, .int (nI (i))), (2, .int (nI (N))), (0, .ref (w.1 (0))), (1, .int (nI (q9)))] []) (fun j hj ih1 => ?_) (0) (Nat.zero_le _)
    refine g_iload (pc9 := 66) C rfl 0 dX11_nearest_64 rfl ?_
    refine g_aload_n (pc9 := 67) C rfl 3 dX11_nearest_66 rfl rfl ?_
    refine g_get (v := .int (nI (N))) (pc9 := 70) C rfl (0) 16 dX11_nearest_67 (by decide) (ce_0 w (sN (sI (sJ (sI (sI (sN σ (0) 0 (nI (0))) (22) (upd (nq0 σ N i).1 i (bitI i))) (23) (upd (nq0 σ N i).2.1 i nqOn)) (24) (nqR σ i (nq0 σ N i).2.2.1 (j))) (13) ((maA (nq0 σ N i).2.2.2 (bitI i)).2)) (0) 21 (nI ((maA (nq0 σ N i).2.2.2 (bitI i)).1)))) hin_11 hl_45 rfl (by decide) rfl (congrArg (fun z => some (Value.int z)) (((((((nF_k (k := 21) (k9 := 16) (by decide)).trans (nF_I)).trans (nF_J)).trans (nF_I)).trans (nF_I)).trans (nF_k (k := 0) (k9 := 16) (by decide))).trans hN)) ?_
    refine g_icmp_ge (pc9 := 73) C rfl 103 dX11_nearest_70 rfl (fun c_3 => ?_) (fun c_3 => ?_)
    · replace c_3 := (nI_leI (by omega) (by omega)).mp c_3
      refine g_iinc (pc9 := 106) C rfl [(3, .int (nI (i + 1))), (4, .int (nI (j))), (2, .int (nI (N))), (0, .ref (w.1 (0))), (1, .int (nI (q9)))] 1 (nI (i + 1)) dX11_nearest_103 rfl (nI_1 (i)) (by decide) rfl ?_
      refine g_goto C 30 dX11_nearest_106 rfl ?_
      refine g_sub [0, 2, 3, 4] [(3, .int (nI (i + 1))), (2, .int (nI (N))), (0, .ref (w.1 (0))), (1, .int (nI (q9)))] rfl ?_
      refine g_st (σ9 := sN (sI (sJ (sI (sI (sN σ (0) 0 (nI (0))) (22) ((nq0 σ N (i + 1)).1)) (23) ((nq0 σ N (i + 1)).2.1)) (24) ((nq0 σ N (i + 1)).2.2.1)) (13) ((nq0 σ N (i + 1)).2.2.2.2)) (0) 21 (nI ((nq0 σ N (i + 1)).2.2.2.1))) (by rw [show j = N by omega]; rfl) ?_
      exact ih0 (i + 1) (by omega) (by omega)
    · replace c_3 := (not_congr (nI_leI (by omega) (by omega))).mp c_3
      refine g_aload_n (pc9 := 74) C rfl 3 dX11_nearest_73 rfl rfl ?_
      refine g_get (v := .ref (w.1 (24))) (pc9 := 77) C rfl (0) 33 dX11_nearest_74 (by decide) (ce_0 w (sN (sI (sJ (sI (sI (sN σ (0) 0 (nI (0))) (22) (upd (nq0 σ N i).1 i (bitI i))) (23) (upd (nq0 σ N i).2.1 i nqOn)) (24) (nqR σ i (nq0 σ N i).2.2.1 (j))) (13) ((maA (nq0 σ N i).2.2.2 (bitI i)).2)) (0) 21 (nI ((maA (nq0 σ N i).2.2.2 (bitI i)).1)))) hin_11 hl_88 rfl (by decide) rfl rfl ?_
      refine g_bipush (pc9 := 79) C rfl (nI (24)) dX11_nearest_77 rfl ?_
      refine g_iload_n (pc9 := 80) C rfl 1 dX11_nearest_79 rfl rfl ?_
      refine g_imulN (pc9 := 81) C rfl dX11_nearest_80 ?_
      refine g_iload (pc9 := 83) C rfl 0 dX11_nearest_81 rfl ?_
      refine g_iaddN (pc9 := 84) C rfl dX11_nearest_83 ?_
      refine g_ldc2 (pc9 := 87) C rfl (4096) dX11_nearest_84 (by decide +kernel) ?_
      refine g_aload_n (pc9 := 88) C rfl 3 dX11_nearest_87 rfl rfl ?_
      refine g_iload_n (pc9 := 89) C rfl 1 dX11_nearest_88 rfl rfl ?_
      refine g_iload (pc9 := 91) C rfl 0 dX11_nearest_89 rfl ?_
      refine g_callVi (nn := 2) (rest := [.long (4096), .int (nI ((24 * i) + j)), .ref (w.1 (24))]) (pc9 := 94) C rfl (0) [.int (nI (i)), .int (nI (j))] rfl dX11_nearest_91 (m_X11_d l w (sN (sI (sJ (sI (sI (sN σ (0) 0 (nI (0))) (22) (upd (nq0 σ N i).1 i (bitI i))) (23) (upd (nq0 σ N i).2.1 i nqOn)) (24) (nqR σ i (nq0 σ N i).2.2.1 (j))) (13) ((maA (nq0 σ N i).2.2.2 (bitI i)).2)) (0) 21 (nI ((maA (nq0 σ N i).2.2.2 (bitI i)).1))) (i) (j) (by omega) (by omega)) gX11_nearest_X11_d (by decide) (ce_0 w (sN (sI (sJ (sI (sI (sN σ (0) 0 (nI (0))) (22) (upd (nq0 σ N i).1 i (bitI i))) (23) (upd (nq0 σ N i).2.1 i nqOn)) (24) (nqR σ i (nq0 σ N i).2.2.1 (j))) (13) ((maA (nq0 σ N i).2.2.2 (bitI i)).2)) (0) 21 (nI ((maA (nq0 σ N i).2.2.2 (bitI i)).1)))) rfl rfl rfl rfl rfl (by decide +kernel) ⟨by decide, by decide⟩ rfl (Nat.le_of_ble_eq_true rfl) ⟨by decide, by decide⟩ (fun r_4 σ_4 q_4 => ?_)
      obtain ⟨qs_4, qr_4⟩ := q_4
      replace qr_4 : r_4 = mD σ (i) (j) := qr_4
      rw [qs_4, qr_4]
      clear qs_4 qr_4
      refine g_i2l (pc9 := 95) C rfl dX11_nearest_94 ?_
      refine g_lmul (pc9 := 96) C rfl dX11_nearest_95 ?_
      refine g_last (pc9 := 97) C rfl (24) ((24 * i) + j) (nqR σ i (nq0 σ N i).2.2.1 (j)) dX11_nearest_96 (by decide) (fun _ => rfl) (ce_24 w (sN (sI (sJ (sI (sI (sN σ (0) 0 (nI (0))) (22) (upd (nq0 σ N i).1 i (bitI i))) (23) (upd (nq0 σ N i).2.1 i nqOn)) (24) (nqR σ i (nq0 σ N i).2.2.1 (j))) (13) ((maA (nq0 σ N i).2.2.2 (bitI i)).2)) (0) 21 (nI ((maA (nq0 σ N i).2.2.2 (bitI i)).1)))) rfl (by omega) (by decide) (((jA_N).trans (jA_I)).trans (jA_s)) ?_
      rw [sJ_sN (a := 0) (k := 21) (b := 24), sJ_sI (a := 13) (b := 24), sJ_sJ (a := 24)]
      refine g_iinc (pc9 := 100) C rfl [(4, .int (nI (j + 1))), (3, .int (nI (i))), (2, .int (nI (N))), (0, .ref (w.1 (0))), (1, .int (nI (q9)))] 0 (nI (j + 1)) dX11_nearest_97 rfl (nI_1 (j)) (by decide) rfl ?_
      refine g_goto C 64 dX11_nearest_100 rfl ?_
      refine g_sub [0, 1, 2, 3, 4] [(4, .int (nI (j + 1))), (3, .int (nI (i))), (2, .int (nI (N))), (0, .ref (w.1 (0))), (1, .int (nI (q9)))] rfl ?_
      exact ih1 (j + 1) (by omega) (by omega)
theorem cI_f0 {α : Type} {P Q : Prop} {x y z : α} (h : P) : cI P x (cI Q y z) = x := cI_t h
theorem nqQ_b {a b : Nat → Int32} {d : Nat → Int64} {m L p q : Nat} {s : NC} {i j : Nat} (h1 : ¬ nqL a b p m < 0) (h2 : ¬ nqL a b q m < 0) (ei : nqL a b p m = nI i) (ej : nqL a b q m = nI j) (hi : i < 24) (hj : j < 24) : nqQ a b d m L p q s = cI (¬ s.1 < 0 ∧ ¬ nqV b d m L i j < s.2.2) s (nI i, nI j, nqV b d m L i j) := by
  unfold nqQ
  rw [cI_f (fun h => h.elim h1 h2), ei, ej, nI_clamp (by omega), nI_clamp (by omega)]
theorem lcmp_lt {x y : Int64} : lg_cmp x y < 0 ↔ x < y := by
  unfold lg_cmp
  split
  · rename_i h; exact ⟨fun q => absurd q (by decide), fun q => absurd h (Int64.not_lt.mpr (Int64.le_of_lt q))⟩
  · rename_i h
    split
    · rename_i e; exact ⟨fun q => absurd q (by decide), fun q => absurd q (by rw [e]; exact Int64.lt_irrefl)⟩
    · rename_i e; exact ⟨fun _ => Int64.lt_of_le_of_ne (Int64.not_lt.mp h) e, fun _ => by decide⟩
set_option maxRecDepth 100000 in
set_option maxHeartbeats 4000000 in
theorem m14_choose {p : Program} {l : Launch} {e : Env} {s : State} {m : MethodId} {args : Array Value} {below : List Frame} {meth : Method} {c : Code} {Q : State → Prop} {w : Wd} {A : Nat → Prop} (C : Cx p s m args c w A cX11_nearest RX11 14 wsX11_nearest) (σ : St) (N : Nat) (hN : nF σ 0 16 = nI N) (h12 : N ≤ 12) (q9 L m9 : Nat) (hL : 2 < L) (hL2 : L ≤ 12) (hm9 : m9 < 24) (z9 : NJ) (kont : G p l e (rmL 3) s m args below meth c Q w A 14 (sN (sI (sJ (sI (sI (sN σ (0) 0 (nI (0))) (22) ((z9).1)) (23) ((z9).2.1)) (24) ((z9).2.2.1)) (13) ((z9).2.2.2.2)) (0) 21 (nI ((z9).2.2.2.1))) 0 0 257 [(4, .int ((nqC z9.1 z9.2.1 z9.2.2.1 m9 L N (N)).1)), (5, .int ((nqC z9.1 z9.2.1 z9.2.2.1 m9 L N (N)).2.1)), (6, .long ((nqC z9.1 z9.2.1 z9.2.2.1 m9 L N (N)).2.2)), (3, .int (nI (L))), (2, .int (nI (m9))), (0, .ref (w.1 (0))), (1, .int (nI (q9)))] []) : G p l e (rmL 3) s m args below meth c Q w A 14 (sN (sI (sJ (sI (sI (sN σ (0) 0 (nI (0))) (22) ((z9).1)) (23) ((z9).2.1)) (24) ((z9).2.2.1)) (13) ((z9).2.2.2.2)) (0) 21 (nI ((z9).2.2.2.1))) 0 0 131 [(8, .int (nI (0))), (4, .int ((nqC z9.1 z9.2.1 z9.2.2.1 m9 L N (0)).1)), (5, .int ((nqC z9.1 z9.2.1 z9.2.2.1 m9 L N (0)).2.1)), (6, .long ((nqC z9.1 z9.2.1 z9.2.2.1 m9 L N (0)).2.2)), (3, .int (nI (L))), (2, .int (nI (m9))), (0, .ref (w.1 (0))), (1, .int (nI (q9)))] [] := by
  have hin_11 : ∀ u ∈ wsX110, u ∈ wsX11_nearest := by decide +kernel
  have hl_45 : Cond.fieldLink RX11 45 "LineageBenchModel" "n" "I" ∈ wsX11_nearest := by decide +kernel
  refine g_lp1 (α := Nat) (fun p9 => p9 ≤ N) (fun p9 => N - p9) (fun p9 => G p l e _ s m args below meth c _ w A _ (sN (sI (sJ (sI (sI (sN σ (0) 0 (nI (0))) (22) ((z9).1)) (23) ((z9).2.1)) (24) ((z9).2.2.1)) (13) ((z9).2.2.2.2)) (0) 21 (nI ((z9).2.2.2.1))) 0 0 131 [(8, .int (nI (p9))), (4, .int ((nqC z9.1 z9.2.1 z9.2.2.1 m9 L N (p9)).1)), (5, .int ((nqC z9.1 z9.2.1 z9.2.2.1 m9 L N (p9)).2.1)), (6, .long ((nqC z9.1 z9.2.1 z9.2.2.1 m9 L N (p9)).2.2)), (3, .int (nI (L))), (2, .int (nI (m9))), (0, .ref (w.1 (0))), (1, .int (nI (q9)))] []) (fun p9 hp ih0 => ?_) (0) (Nat.zero_le _)
  refine g_iload (pc9 := 133) C rfl 0 dX11_nearest_131 rfl ?_
  refine g_aload_n (pc9 := 134) C rfl 6 dX11_nearest_133 rfl rfl ?_
  refine g_get (v := .int (nI (N))) (pc9 := 137) C rfl (0) 16 dX11_nearest_134 (by decide) (ce_0 w (sN (sI (sJ (sI (sI (sN σ (0) 0 (nI (0))) (22) ((z9).1)) (23) ((z9).2.1)) (24) ((z9).2.2.1)) (13) ((z9).2.2.2.2)) (0) 21 (nI ((z9).2.2.2.1)))) hin_11 hl_45 rfl (by decide) rfl (congrArg (fun z => some (Value.int z)) (((((((nF_k (k := 21) (k9 := 16) (by decide)).trans (nF_I)).trans (nF_J)).trans (nF_I)).trans (nF_I)).trans (nF_k (k := 0) (k9 := 16) (by decide))).trans hN)) ?_
  refine g_icmp_ge (pc9 := 140) C rfl 257 dX11_nearest_137 rfl (fun c_1 => ?_) (fun c_1 => ?_)
  · replace c_1 := (nI_leI (by omega) (by omega)).mp c_1
    refine g_sub [1, 2, 3, 4, 5, 6, 7] [(4, .int ((nqC z9.1 z9.2.1 z9.2.2.1 m9 L N (p9)).1)), (5, .int ((nqC z9.1 z9.2.1 z9.2.2.1 m9 L N (p9)).2.1)), (6, .long ((nqC z9.1 z9.2.1 z9.2.2.1 m9 L N (p9)).2.2)), (3, .int (nI (L))), (2, .int (nI (m9))), (0, .ref (w.1 (0))), (1, .int (nI (q9)))] rfl ?_
    have hpN : p9 = N := by omega
    subst hpN
    exact kont
  · replace c_1 := (not_congr (nI_leI (by omega) (by omega))).mp c_1
    refine g_iload (pc9 := 142) C rfl 0 dX11_nearest_140 rfl ?_
    refine g_iconst (pc9 := 143) C rfl (nI (1)) dX11_nearest_142 rfl ?_
    refine g_iaddN (pc9 := 144) C rfl dX11_nearest_143 ?_
    refine g_istore (pc9 := 146) C rfl [(9, .int (nI (p9 + 1))), (8, .int (nI (p9))), (4, .int ((nqC z9.1 z9.2.1 z9.2.2.1 m9 L N (p9)).1)), (5, .int ((nqC z9.1 z9.2.1 z9.2.2.1 m9 L N (p9)).2.1)), (6, .long ((nqC z9.1 z9.2.1 z9.2.2.1 m9 L N (p9)).2.2)), (3, .int (nI (L))), (2, .int (nI (m9))), (0, .ref (w.1 (0))), (1, .int (nI (q9)))] dX11_nearest_144 (by decide) rfl ?_
    refine g_sub [0, 1, 2, 3, 4, 5, 6, 7, 8] [(9, .int (nI (p9 + 1))), (8, .int (nI (p9))), (4, .int ((nqC z9.1 z9.2.1 z9.2.2.1 m9 L N (p9)).1)), (5, .int ((nqC z9.1 z9.2.1 z9.2.2.1 m9 L N (p9)).2.1)), (6, .long ((nqC z9.1 z9.2.1 z9.2.2.1 m9 L N (p9)).2.2)), (3, .int (nI (L))), (2, .int (nI (m9))), (0, .ref (w.1 (0))), (1, .int (nI (q9)))] rfl ?_
    refine g_lp1 (α := Nat) (fun u => u ≤ N - (p9 + 1)) (fun u => N - u) (fun u => G p l e _ s m args below meth c _ w A _ (sN (sI (sJ (sI (sI (sN σ (0) 0 (nI (0))) (22) ((z9).1)) (23) ((z9).2.1)) (24) ((z9).2.2.1)) (13) ((z9).2.2.2.2)) (0) 21 (nI ((z9).2.2.2.1))) 0 0 146 [(9, .int (nI (p9 + 1 + u))), (8, .int (nI (p9))), (4, .int ((nqC1 z9.1 z9.2.1 z9.2.2.1 m9 L p9 (nqC z9.1 z9.2.1 z9.2.2.1 m9 L N (p9)) (u)).1)), (5, .int ((nqC1 z9.1 z9.2.1 z9.2.2.1 m9 L p9 (nqC z9.1 z9.2.1 z9.2.2.1 m9 L N (p9)) (u)).2.1)), (6, .long ((nqC1 z9.1 z9.2.1 z9.2.2.1 m9 L p9 (nqC z9.1 z9.2.1 z9.2.2.1 m9 L N (p9)) (u)).2.2)), (3, .int (nI (L))), (2, .int (nI (m9))), (0, .ref (w.1 (0))), (1, .int (nI (q9)))] []) (fun u hu ih1 => ?_) (0) (Nat.zero_le _)
    refine g_iload (pc9 := 148) C rfl 0 dX11_nearest_146 rfl ?_
    refine g_aload_n (pc9 := 149) C rfl 7 dX11_nearest_148 rfl rfl ?_
    refine g_get (v := .int (nI (N))) (pc9 := 152) C rfl (0) 16 dX11_nearest_149 (by decide) (ce_0 w (sN (sI (sJ (sI (sI (sN σ (0) 0 (nI (0))) (22) ((z9).1)) (23) ((z9).2.1)) (24) ((z9).2.2.1)) (13) ((z9).2.2.2.2)) (0) 21 (nI ((z9).2.2.2.1)))) hin_11 hl_45 rfl (by decide) rfl (congrArg (fun z => some (Value.int z)) (((((((nF_k (k := 21) (k9 := 16) (by decide)).trans (nF_I)).trans (nF_J)).trans (nF_I)).trans (nF_I)).trans (nF_k (k := 0) (k9 := 16) (by decide))).trans hN)) ?_
    refine g_icmp_ge (pc9 := 155) C rfl 251 dX11_nearest_152 rfl (fun c_2 => ?_) (fun c_2 => ?_)
    · replace c_2 := (nI_leI (by omega) (by omega)).mp c_2
      refine g_iinc (pc9 := 254) C rfl [(8, .int (nI (p9 + 1))), (9, .int (nI (p9 + 1 + u))), (4, .int ((nqC1 z9.1 z9.2.1 z9.2.2.1 m9 L p9 (nqC z9.1 z9.2.1 z9.2.2.1 m9 L N (p9)) (u)).1)), (5, .int ((nqC1 z9.1 z9.2.1 z9.2.2.1 m9 L p9 (nqC z9.1 z9.2.1 z9.2.2.1 m9 L N (p9)) (u)).2.1)), (6, .long ((nqC1 z9.1 z9.2.1 z9.2.2.1 m9 L p9 (nqC z9.1 z9.2.1 z9.2.2.1 m9 L N (p9)) (u)).2.2)), (3, .int (nI (L))), (2, .int (nI (m9))), (0, .ref (w.1 (0))), (1, .int (nI (q9)))] 1 (nI (p9 + 1)) dX11_nearest_251 rfl (nI_1 (p9)) (by decide) rfl ?_
      refine g_goto C 131 dX11_nearest_254 rfl ?_
      refine g_sub [0, 2, 3, 4, 5, 6, 7, 8] [(8, .int (nI (p9 + 1))), (4, .int ((nqC1 z9.1 z9.2.1 z9.2.2.1 m9 L p9 (nqC z9.1 z9.2.1 z9.2.2.1 m9 L N (p9)) (u)).1)), (5, .int ((nqC1 z9.1 z9.2.1 z9.2.2.1 m9 L p9 (nqC z9.1 z9.2.1 z9.2.2.1 m9 L N (p9)) (u)).2.1)), (6, .long ((nqC1 z9.1 z9.2.1 z9.2.2.1 m9 L p9 (nqC z9.1 z9.2.1 z9.2.2.1 m9 L N (p9)) (u)).2.2)), (3, .int (nI (L))), (2, .int (nI (m9))), (0, .ref (w.1 (0))), (1, .int (nI (q9)))] rfl ?_
      have hu9 : u = N - (p9 + 1) := by omega
      subst hu9
      exact ih0 (p9 + 1) (by omega) (by omega)
    · replace c_2 := (not_congr (nI_leI (by omega) (by omega))).mp c_2
      refine g_aload_n (pc9 := 156) C rfl 7 dX11_nearest_155 rfl rfl ?_
      refine g_iload (pc9 := 158) C rfl 1 dX11_nearest_156 rfl ?_
      refine g_iload_n (pc9 := 159) C rfl 6 dX11_nearest_158 rfl rfl ?_
      refine g_callVi (nn := 2) (rest := []) (pc9 := 162) C rfl (0) [.int (nI (p9)), .int (nI (m9))] rfl dX11_nearest_159 (m_X11_liveOf l w (sN (sI (sJ (sI (sI (sN σ (0) 0 (nI (0))) (22) ((z9).1)) (23) ((z9).2.1)) (24) ((z9).2.2.1)) (13) ((z9).2.2.2.2)) (0) 21 (nI ((z9).2.2.2.1))) (p9) m9 (by omega)) gX11_nearest_X11_liveOf (by decide) (ce_0 w (sN (sI (sJ (sI (sI (sN σ (0) 0 (nI (0))) (22) ((z9).1)) (23) ((z9).2.1)) (24) ((z9).2.2.1)) (13) ((z9).2.2.2.2)) (0) 21 (nI ((z9).2.2.2.1)))) rfl rfl rfl rfl rfl (by decide +kernel) ⟨by decide, by decide⟩ rfl (Nat.le_of_ble_eq_true rfl) ⟨by decide, by decide⟩ (fun r_3 σ_3 q_3 => ?_)
      obtain ⟨qs_3, qr_3⟩ := q_3
      replace qr_3 : r_3 = nqL z9.1 z9.2.1 (p9) m9 := qr_3
      rw [qs_3, qr_3]
      clear qs_3 qr_3
      refine g_istore (pc9 := 164) C rfl [(10, .int (nqL z9.1 z9.2.1 (p9) m9)), (9, .int (nI (p9 + 1 + u))), (8, .int (nI (p9))), (4, .int ((nqC1 z9.1 z9.2.1 z9.2.2.1 m9 L p9 (nqC z9.1 z9.2.1 z9.2.2.1 m9 L N (p9)) (u)).1)), (5, .int ((nqC1 z9.1 z9.2.1 z9.2.2.1 m9 L p9 (nqC z9.1 z9.2.1 z9.2.2.1 m9 L N (p9)) (u)).2.1)), (6, .long ((nqC1 z9.1 z9.2.1 z9.2.2.1 m9 L p9 (nqC z9.1 z9.2.1 z9.2.2.1 m9 L N (p9)) (u)).2.2)), (3, .int (nI (L))), (2, .int (nI (m9))), (0, .ref (w.1 (0))), (1, .int (nI (q9)))] dX11_nearest_162 (by decide) rfl ?_
      refine g_aload_n (pc9 := 165) C rfl 8 dX11_nearest_164 rfl rfl ?_
      refine g_iload (pc9 := 167) C rfl 1 dX11_nearest_165 rfl ?_
      refine g_iload_n (pc9 := 168) C rfl 7 dX11_nearest_167 rfl rfl ?_
      refine g_callVi (nn := 2) (rest := []) (pc9 := 171) C rfl (0) [.int (nI (p9 + 1 + u)), .int (nI (m9))] rfl dX11_nearest_168 (m_X11_liveOf l w (sN (sI (sJ (sI (sI (sN σ (0) 0 (nI (0))) (22) ((z9).1)) (23) ((z9).2.1)) (24) ((z9).2.2.1)) (13) ((z9).2.2.2.2)) (0) 21 (nI ((z9).2.2.2.1))) (p9 + 1 + u) m9 (by omega)) gX11_nearest_X11_liveOf (by decide) (ce_0 w (sN (sI (sJ (sI (sI (sN σ (0) 0 (nI (0))) (22) ((z9).1)) (23) ((z9).2.1)) (24) ((z9).2.2.1)) (13) ((z9).2.2.2.2)) (0) 21 (nI ((z9).2.2.2.1)))) rfl rfl rfl rfl rfl (by decide +kernel) ⟨by decide, by decide⟩ rfl (Nat.le_of_ble_eq_true rfl) ⟨by decide, by decide⟩ (fun r_4 σ_4 q_4 => ?_)
      obtain ⟨qs_4, qr_4⟩ := q_4
      replace qr_4 : r_4 = nqL z9.1 z9.2.1 (p9 + 1 + u) m9 := qr_4
      rw [qs_4, qr_4]
      clear qs_4 qr_4
      refine g_istore (pc9 := 173) C rfl [(11, .int (nqL z9.1 z9.2.1 (p9 + 1 + u) m9)), (10, .int (nqL z9.1 z9.2.1 (p9) m9)), (9, .int (nI (p9 + 1 + u))), (8, .int (nI (p9))), (4, .int ((nqC1 z9.1 z9.2.1 z9.2.2.1 m9 L p9 (nqC z9.1 z9.2.1 z9.2.2.1 m9 L N (p9)) (u)).1)), (5, .int ((nqC1 z9.1 z9.2.1 z9.2.2.1 m9 L p9 (nqC z9.1 z9.2.1 z9.2.2.1 m9 L N (p9)) (u)).2.1)), (6, .long ((nqC1 z9.1 z9.2.1 z9.2.2.1 m9 L p9 (nqC z9.1 z9.2.1 z9.2.2.1 m9 L N (p9)) (u)).2.2)), (3, .int (nI (L))), (2, .int (nI (m9))), (0, .ref (w.1 (0))), (1, .int (nI (q9)))] dX11_nearest_171 (by decide) rfl ?_
      refine g_iload (pc9 := 175) C rfl 1 dX11_nearest_173 rfl ?_
      refine g_if_lt (pc9 := 178) C rfl 245 dX11_nearest_175 rfl (fun c_5 => ?_) (fun c_5 => ?_)
      · have hs : nqQ z9.1 z9.2.1 z9.2.2.1 m9 L p9 (p9 + 1 + u) (nqC1 z9.1 z9.2.1 z9.2.2.1 m9 L p9 (nqC z9.1 z9.2.1 z9.2.2.1 m9 L N (p9)) (u)) = nqC1 z9.1 z9.2.1 z9.2.2.1 m9 L p9 (nqC z9.1 z9.2.1 z9.2.2.1 m9 L N (p9)) (u) := cI_f0 (Or.inl c_5)
        refine g_iinc (pc9 := 248) C rfl [(9, .int (nI (p9 + 1 + u + 1))), (11, .int (nqL z9.1 z9.2.1 (p9 + 1 + u) m9)), (10, .int (nqL z9.1 z9.2.1 (p9) m9)), (8, .int (nI (p9))), (4, .int ((nqC1 z9.1 z9.2.1 z9.2.2.1 m9 L p9 (nqC z9.1 z9.2.1 z9.2.2.1 m9 L N (p9)) (u)).1)), (5, .int ((nqC1 z9.1 z9.2.1 z9.2.2.1 m9 L p9 (nqC z9.1 z9.2.1 z9.2.2.1 m9 L N (p9)) (u)).2.1)), (6, .long ((nqC1 z9.1 z9.2.1 z9.2.2.1 m9 L p9 (nqC z9.1 z9.2.1 z9.2.2.1 m9 L N (p9)) (u)).2.2)), (3, .int (nI (L))), (2, .int (nI (m9))), (0, .ref (w.1 (0))), (1, .int (nI (q9)))] 2 (nI (p9 + 1 + u + 1)) dX11_nearest_245 rfl (nI_1 (p9 + 1 + u)) (by decide) rfl ?_
        refine g_goto C 146 dX11_nearest_248 rfl ?_
        refine g_sub [0, 3, 4, 5, 6, 7, 8, 9, 10] [(9, .int (nI (p9 + 1 + u + 1))), (8, .int (nI (p9))), (4, .int ((nqC1 z9.1 z9.2.1 z9.2.2.1 m9 L p9 (nqC z9.1 z9.2.1 z9.2.2.1 m9 L N (p9)) (u)).1)), (5, .int ((nqC1 z9.1 z9.2.1 z9.2.2.1 m9 L p9 (nqC z9.1 z9.2.1 z9.2.2.1 m9 L N (p9)) (u)).2.1)), (6, .long ((nqC1 z9.1 z9.2.1 z9.2.2.1 m9 L p9 (nqC z9.1 z9.2.1 z9.2.2.1 m9 L N (p9)) (u)).2.2)), (3, .int (nI (L))), (2, .int (nI (m9))), (0, .ref (w.1 (0))), (1, .int (nI (q9)))] rfl ?_
        refine g_lv (lv9 := [(9, .int (nI (p9 + 1 + u + 1))), (8, .int (nI (p9))), (4, .int ((nqC1 z9.1 z9.2.1 z9.2.2.1 m9 L p9 (nqC z9.1 z9.2.1 z9.2.2.1 m9 L N (p9)) (u + 1)).1)), (5, .int ((nqC1 z9.1 z9.2.1 z9.2.2.1 m9 L p9 (nqC z9.1 z9.2.1 z9.2.2.1 m9 L N (p9)) (u + 1)).2.1)), (6, .long ((nqC1 z9.1 z9.2.1 z9.2.2.1 m9 L p9 (nqC z9.1 z9.2.1 z9.2.2.1 m9 L N (p9)) (u + 1)).2.2)), (3, .int (nI (L))), (2, .int (nI (m9))), (0, .ref (w.1 (0))), (1, .int (nI (q9)))]) (by rw [show nqC1 z9.1 z9.2.1 z9.2.2.1 m9 L p9 (nqC z9.1 z9.2.1 z9.2.2.1 m9 L N (p9)) (u + 1) = nqQ z9.1 z9.2.1 z9.2.2.1 m9 L p9 (p9 + 1 + u) (nqC1 z9.1 z9.2.1 z9.2.2.1 m9 L p9 (nqC z9.1 z9.2.1 z9.2.2.1 m9 L N (p9)) (u)) from rfl, hs]; try rfl) ?_
        exact ih1 (u + 1) (by omega) (by omega)
      · have h1 := c_5
        refine g_iload (pc9 := 180) C rfl 0 dX11_nearest_178 rfl ?_
        refine g_if_ge (pc9 := 183) C rfl 186 dX11_nearest_180 rfl (fun c_6 => ?_) (fun c_6 => ?_)
        · have h2 := Int32.not_lt.mpr c_6
          obtain ⟨i9, hi9, ei⟩ : ∃ k, k < m9 ∧ nqL z9.1 z9.2.1 (p9) m9 = nI k := (nqL_in m9).resolve_left (fun h => h1 (by rw [h]; decide))
          obtain ⟨j9, hj9, ej⟩ : ∃ k, k < m9 ∧ nqL z9.1 z9.2.1 (p9 + 1 + u) m9 = nI k := (nqL_in m9).resolve_left (fun h => h2 (by rw [h]; decide))
          have hq : nqQ z9.1 z9.2.1 z9.2.2.1 m9 L p9 (p9 + 1 + u) (nqC1 z9.1 z9.2.1 z9.2.2.1 m9 L p9 (nqC z9.1 z9.2.1 z9.2.2.1 m9 L N (p9)) (u)) = cI (¬ (nqC1 z9.1 z9.2.1 z9.2.2.1 m9 L p9 (nqC z9.1 z9.2.1 z9.2.2.1 m9 L N (p9)) (u)).1 < 0 ∧ ¬ nqV z9.2.1 z9.2.2.1 m9 L i9 j9 < (nqC1 z9.1 z9.2.1 z9.2.2.1 m9 L p9 (nqC z9.1 z9.2.1 z9.2.2.1 m9 L N (p9)) (u)).2.2) (nqC1 z9.1 z9.2.1 z9.2.2.1 m9 L p9 (nqC z9.1 z9.2.1 z9.2.2.1 m9 L N (p9)) (u)) (nI i9, nI j9, nqV z9.2.1 z9.2.2.1 m9 L i9 j9) := nqQ_b h1 h2 ei ej (by omega) (by omega)
          rw [ei, ej]
          refine g_iload_n (pc9 := 187) C rfl 7 dX11_nearest_186 rfl rfl ?_
          refine g_iconst (pc9 := 188) C rfl (nI (2)) dX11_nearest_187 rfl ?_
          refine g_isubN (pc9 := 189) C rfl dX11_nearest_188 (by omega) ?_
          refine g_i2l (pc9 := 190) C rfl dX11_nearest_189 ?_
          refine g_aload_n (pc9 := 191) C rfl 9 dX11_nearest_190 rfl rfl ?_
          refine g_iload (pc9 := 193) C rfl 1 dX11_nearest_191 rfl ?_
          refine g_iload (pc9 := 195) C rfl 0 dX11_nearest_193 rfl ?_
          refine g_callVl (nn := 2) (rest := [.long ((nI (L - (2))).toInt64)]) (pc9 := 198) C rfl (0) [.int (nI (i9)), .int (nI (j9))] rfl dX11_nearest_195 (m_X11_far l w (sN (sI (sJ (sI (sI (sN σ (0) 0 (nI (0))) (22) ((z9).1)) (23) ((z9).2.1)) (24) ((z9).2.2.1)) (13) ((z9).2.2.2.2)) (0) 21 (nI ((z9).2.2.2.1))) i9 j9 (by omega) (by omega)) gX11_nearest_X11_far (by decide) (ce_0 w (sN (sI (sJ (sI (sI (sN σ (0) 0 (nI (0))) (22) ((z9).1)) (23) ((z9).2.1)) (24) ((z9).2.2.1)) (13) ((z9).2.2.2.2)) (0) 21 (nI ((z9).2.2.2.1)))) rfl rfl rfl rfl rfl (by decide +kernel) ⟨by decide, by decide⟩ rfl (Nat.le_of_ble_eq_true rfl) ⟨by decide, by decide⟩ (fun r_7 σ_7 q_7 => ?_)
          obtain ⟨qs_7, qr_7⟩ := q_7
          replace qr_7 : r_7 = z9.2.2.1 (24 * i9 + j9) := qr_7
          rw [qs_7, qr_7]
          clear qs_7 qr_7
          refine g_lmul (pc9 := 199) C rfl dX11_nearest_198 ?_
          refine g_aload_n (pc9 := 200) C rfl 9 dX11_nearest_199 rfl rfl ?_
          refine g_iload (pc9 := 202) C rfl 1 dX11_nearest_200 rfl ?_
          refine g_iload_n (pc9 := 203) C rfl 8 dX11_nearest_202 rfl rfl ?_
          refine g_callVl (nn := 2) (rest := [.long (((nI (L - (2))).toInt64) * (z9.2.2.1 (24 * i9 + j9)))]) (pc9 := 206) C rfl (0) [.int (nI (i9)), .int (nI (m9))] rfl dX11_nearest_203 (m_X11_sumOf l w (sN (sI (sJ (sI (sI (sN σ (0) 0 (nI (0))) (22) ((z9).1)) (23) ((z9).2.1)) (24) ((z9).2.2.1)) (13) ((z9).2.2.2.2)) (0) 21 (nI ((z9).2.2.2.1))) i9 m9 (by omega) (by omega)) gX11_nearest_X11_sumOf (by decide) (ce_0 w (sN (sI (sJ (sI (sI (sN σ (0) 0 (nI (0))) (22) ((z9).1)) (23) ((z9).2.1)) (24) ((z9).2.2.1)) (13) ((z9).2.2.2.2)) (0) 21 (nI ((z9).2.2.2.1)))) rfl rfl rfl rfl rfl (by decide +kernel) ⟨by decide, by decide⟩ rfl (Nat.le_of_ble_eq_true rfl) ⟨by decide, by decide⟩ (fun r_8 σ_8 q_8 => ?_)
          obtain ⟨qs_8, qr_8⟩ := q_8
          replace qr_8 : r_8 = nqS z9.2.1 z9.2.2.1 i9 m9 := qr_8
          rw [qs_8, qr_8]
          clear qs_8 qr_8
          refine g_lsub (pc9 := 207) C rfl dX11_nearest_206 ?_
          refine g_aload_n (pc9 := 208) C rfl 9 dX11_nearest_207 rfl rfl ?_
          refine g_iload (pc9 := 210) C rfl 0 dX11_nearest_208 rfl ?_
          refine g_iload_n (pc9 := 211) C rfl 8 dX11_nearest_210 rfl rfl ?_
          refine g_callVl (nn := 2) (rest := [.long ((((nI (L - (2))).toInt64) * (z9.2.2.1 (24 * i9 + j9))) - (nqS z9.2.1 z9.2.2.1 i9 m9))]) (pc9 := 214) C rfl (0) [.int (nI (j9)), .int (nI (m9))] rfl dX11_nearest_211 (m_X11_sumOf l w (sN (sI (sJ (sI (sI (sN σ (0) 0 (nI (0))) (22) ((z9).1)) (23) ((z9).2.1)) (24) ((z9).2.2.1)) (13) ((z9).2.2.2.2)) (0) 21 (nI ((z9).2.2.2.1))) j9 m9 (by omega) (by omega)) gX11_nearest_X11_sumOf (by decide) (ce_0 w (sN (sI (sJ (sI (sI (sN σ (0) 0 (nI (0))) (22) ((z9).1)) (23) ((z9).2.1)) (24) ((z9).2.2.1)) (13) ((z9).2.2.2.2)) (0) 21 (nI ((z9).2.2.2.1)))) rfl rfl rfl rfl rfl (by decide +kernel) ⟨by decide, by decide⟩ rfl (Nat.le_of_ble_eq_true rfl) ⟨by decide, by decide⟩ (fun r_9 σ_9 q_9 => ?_)
          obtain ⟨qs_9, qr_9⟩ := q_9
          replace qr_9 : r_9 = nqS z9.2.1 z9.2.2.1 j9 m9 := qr_9
          rw [qs_9, qr_9]
          clear qs_9 qr_9
          refine g_lsub (pc9 := 215) C rfl dX11_nearest_214 ?_
          refine g_lstore (pc9 := 217) C rfl [(12, .long (((((nI (L - (2))).toInt64) * (z9.2.2.1 (24 * i9 + j9))) - (nqS z9.2.1 z9.2.2.1 i9 m9)) - (nqS z9.2.1 z9.2.2.1 j9 m9))), (11, .int (nI (j9))), (10, .int (nI (i9))), (9, .int (nI (p9 + 1 + u))), (8, .int (nI (p9))), (4, .int ((nqC1 z9.1 z9.2.1 z9.2.2.1 m9 L p9 (nqC z9.1 z9.2.1 z9.2.2.1 m9 L N (p9)) (u)).1)), (5, .int ((nqC1 z9.1 z9.2.1 z9.2.2.1 m9 L p9 (nqC z9.1 z9.2.1 z9.2.2.1 m9 L N (p9)) (u)).2.1)), (6, .long ((nqC1 z9.1 z9.2.1 z9.2.2.1 m9 L p9 (nqC z9.1 z9.2.1 z9.2.2.1 m9 L N (p9)) (u)).2.2)), (3, .int (nI (L))), (2, .int (nI (m9))), (0, .ref (w.1 (0))), (1, .int (nI (q9)))] dX11_nearest_215 (by decide) rfl ?_
          refine g_iload (pc9 := 219) C rfl 5 dX11_nearest_217 rfl ?_
          refine g_if_lt (pc9 := 222) C rfl 233 dX11_nearest_219 rfl (fun c_10 => ?_) (fun c_10 => ?_)
          · have hs : nqQ z9.1 z9.2.1 z9.2.2.1 m9 L p9 (p9 + 1 + u) (nqC1 z9.1 z9.2.1 z9.2.2.1 m9 L p9 (nqC z9.1 z9.2.1 z9.2.2.1 m9 L N (p9)) (u)) = (nI i9, nI j9, nqV z9.2.1 z9.2.2.1 m9 L i9 j9) := hq.trans (cI_f (fun h => h.1 c_10))
            refine g_iload (pc9 := 235) C rfl 2 dX11_nearest_233 rfl ?_
            refine g_istore (pc9 := 237) C rfl [(4, .int (nI (i9))), (12, .long (((((nI (L - (2))).toInt64) * (z9.2.2.1 (24 * i9 + j9))) - (nqS z9.2.1 z9.2.2.1 i9 m9)) - (nqS z9.2.1 z9.2.2.1 j9 m9))), (11, .int (nI (j9))), (10, .int (nI (i9))), (9, .int (nI (p9 + 1 + u))), (8, .int (nI (p9))), (5, .int ((nqC1 z9.1 z9.2.1 z9.2.2.1 m9 L p9 (nqC z9.1 z9.2.1 z9.2.2.1 m9 L N (p9)) (u)).2.1)), (6, .long ((nqC1 z9.1 z9.2.1 z9.2.2.1 m9 L p9 (nqC z9.1 z9.2.1 z9.2.2.1 m9 L N (p9)) (u)).2.2)), (3, .int (nI (L))), (2, .int (nI (m9))), (0, .ref (w.1 (0))), (1, .int (nI (q9)))] dX11_nearest_235 (by decide) rfl ?_
            refine g_iload (pc9 := 239) C rfl 2 dX11_nearest_237 rfl ?_
            refine g_istore (pc9 := 241) C rfl [(5, .int (nI (j9))), (4, .int (nI (i9))), (12, .long (((((nI (L - (2))).toInt64) * (z9.2.2.1 (24 * i9 + j9))) - (nqS z9.2.1 z9.2.2.1 i9 m9)) - (nqS z9.2.1 z9.2.2.1 j9 m9))), (11, .int (nI (j9))), (10, .int (nI (i9))), (9, .int (nI (p9 + 1 + u))), (8, .int (nI (p9))), (6, .long ((nqC1 z9.1 z9.2.1 z9.2.2.1 m9 L p9 (nqC z9.1 z9.2.1 z9.2.2.1 m9 L N (p9)) (u)).2.2)), (3, .int (nI (L))), (2, .int (nI (m9))), (0, .ref (w.1 (0))), (1, .int (nI (q9)))] dX11_nearest_239 (by decide) rfl ?_
            refine g_lload (pc9 := 243) C rfl 2 dX11_nearest_241 rfl ?_
            refine g_lstore (pc9 := 245) C rfl [(6, .long (((((nI (L - (2))).toInt64) * (z9.2.2.1 (24 * i9 + j9))) - (nqS z9.2.1 z9.2.2.1 i9 m9)) - (nqS z9.2.1 z9.2.2.1 j9 m9))), (5, .int (nI (j9))), (4, .int (nI (i9))), (12, .long (((((nI (L - (2))).toInt64) * (z9.2.2.1 (24 * i9 + j9))) - (nqS z9.2.1 z9.2.2.1 i9 m9)) - (nqS z9.2.1 z9.2.2.1 j9 m9))), (11, .int (nI (j9))), (10, .int (nI (i9))), (9, .int (nI (p9 + 1 + u))), (8, .int (nI (p9))), (3, .int (nI (L))), (2, .int (nI (m9))), (0, .ref (w.1 (0))), (1, .int (nI (q9)))] dX11_nearest_243 (by decide) rfl ?_
            refine g_iinc (pc9 := 248) C rfl [(9, .int (nI (p9 + 1 + u + 1))), (6, .long (((((nI (L - (2))).toInt64) * (z9.2.2.1 (24 * i9 + j9))) - (nqS z9.2.1 z9.2.2.1 i9 m9)) - (nqS z9.2.1 z9.2.2.1 j9 m9))), (5, .int (nI (j9))), (4, .int (nI (i9))), (12, .long (((((nI (L - (2))).toInt64) * (z9.2.2.1 (24 * i9 + j9))) - (nqS z9.2.1 z9.2.2.1 i9 m9)) - (nqS z9.2.1 z9.2.2.1 j9 m9))), (11, .int (nI (j9))), (10, .int (nI (i9))), (8, .int (nI (p9))), (3, .int (nI (L))), (2, .int (nI (m9))), (0, .ref (w.1 (0))), (1, .int (nI (q9)))] 6 (nI (p9 + 1 + u + 1)) dX11_nearest_245 rfl (nI_1 (p9 + 1 + u)) (by decide) rfl ?_
            refine g_goto C 146 dX11_nearest_248 rfl ?_
            refine g_sub [0, 7, 3, 2, 1, 8, 9, 10, 11] [(9, .int (nI (p9 + 1 + u + 1))), (8, .int (nI (p9))), (4, .int (nI (i9))), (5, .int (nI (j9))), (6, .long (((((nI (L - (2))).toInt64) * (z9.2.2.1 (24 * i9 + j9))) - (nqS z9.2.1 z9.2.2.1 i9 m9)) - (nqS z9.2.1 z9.2.2.1 j9 m9))), (3, .int (nI (L))), (2, .int (nI (m9))), (0, .ref (w.1 (0))), (1, .int (nI (q9)))] rfl ?_
            refine g_lv (lv9 := [(9, .int (nI (p9 + 1 + u + 1))), (8, .int (nI (p9))), (4, .int ((nqC1 z9.1 z9.2.1 z9.2.2.1 m9 L p9 (nqC z9.1 z9.2.1 z9.2.2.1 m9 L N (p9)) (u + 1)).1)), (5, .int ((nqC1 z9.1 z9.2.1 z9.2.2.1 m9 L p9 (nqC z9.1 z9.2.1 z9.2.2.1 m9 L N (p9)) (u + 1)).2.1)), (6, .long ((nqC1 z9.1 z9.2.1 z9.2.2.1 m9 L p9 (nqC z9.1 z9.2.1 z9.2.2.1 m9 L N (p9)) (u + 1)).2.2)), (3, .int (nI (L))), (2, .int (nI (m9))), (0, .ref (w.1 (0))), (1, .int (nI (q9)))]) (by rw [show nqC1 z9.1 z9.2.1 z9.2.2.1 m9 L p9 (nqC z9.1 z9.2.1 z9.2.2.1 m9 L N (p9)) (u + 1) = nqQ z9.1 z9.2.1 z9.2.2.1 m9 L p9 (p9 + 1 + u) (nqC1 z9.1 z9.2.1 z9.2.2.1 m9 L p9 (nqC z9.1 z9.2.1 z9.2.2.1 m9 L N (p9)) (u)) from rfl, hs]; try rfl) ?_
            exact ih1 (u + 1) (by omega) (by omega)
          · have h3 := c_10
            refine g_lload (pc9 := 224) C rfl 0 dX11_nearest_222 rfl ?_
            refine g_lload (pc9 := 226) C rfl 7 dX11_nearest_224 rfl ?_
            refine g_lcmp (pc9 := 227) C rfl dX11_nearest_226 ?_
            refine g_if_lt (pc9 := 230) C rfl 233 dX11_nearest_227 rfl (fun c_11 => ?_) (fun c_11 => ?_)
            · have hs : nqQ z9.1 z9.2.1 z9.2.2.1 m9 L p9 (p9 + 1 + u) (nqC1 z9.1 z9.2.1 z9.2.2.1 m9 L p9 (nqC z9.1 z9.2.1 z9.2.2.1 m9 L N (p9)) (u)) = (nI i9, nI j9, nqV z9.2.1 z9.2.2.1 m9 L i9 j9) := hq.trans (cI_f (fun h => h.2 (lcmp_lt.mp c_11)))
              refine g_iload (pc9 := 235) C rfl 2 dX11_nearest_233 rfl ?_
              refine g_istore (pc9 := 237) C rfl [(4, .int (nI (i9))), (12, .long (((((nI (L - (2))).toInt64) * (z9.2.2.1 (24 * i9 + j9))) - (nqS z9.2.1 z9.2.2.1 i9 m9)) - (nqS z9.2.1 z9.2.2.1 j9 m9))), (11, .int (nI (j9))), (10, .int (nI (i9))), (9, .int (nI (p9 + 1 + u))), (8, .int (nI (p9))), (5, .int ((nqC1 z9.1 z9.2.1 z9.2.2.1 m9 L p9 (nqC z9.1 z9.2.1 z9.2.2.1 m9 L N (p9)) (u)).2.1)), (6, .long ((nqC1 z9.1 z9.2.1 z9.2.2.1 m9 L p9 (nqC z9.1 z9.2.1 z9.2.2.1 m9 L N (p9)) (u)).2.2)), (3, .int (nI (L))), (2, .int (nI (m9))), (0, .ref (w.1 (0))), (1, .int (nI (q9)))] dX11_nearest_235 (by decide) rfl ?_
              refine g_iload (pc9 := 239) C rfl 2 dX11_nearest_237 rfl ?_
              refine g_istore (pc9 := 241) C rfl [(5, .int (nI (j9))), (4, .int (nI (i9))), (12, .long (((((nI (L - (2))).toInt64) * (z9.2.2.1 (24 * i9 + j9))) - (nqS z9.2.1 z9.2.2.1 i9 m9)) - (nqS z9.2.1 z9.2.2.1 j9 m9))), (11, .int (nI (j9))), (10, .int (nI (i9))), (9, .int (nI (p9 + 1 + u))), (8, .int (nI (p9))), (6, .long ((nqC1 z9.1 z9.2.1 z9.2.2.1 m9 L p9 (nqC z9.1 z9.2.1 z9.2.2.1 m9 L N (p9)) (u)).2.2)), (3, .int (nI (L))), (2, .int (nI (m9))), (0, .ref (w.1 (0))), (1, .int (nI (q9)))] dX11_nearest_239 (by decide) rfl ?_
              refine g_lload (pc9 := 243) C rfl 2 dX11_nearest_241 rfl ?_
              refine g_lstore (pc9 := 245) C rfl [(6, .long (((((nI (L - (2))).toInt64) * (z9.2.2.1 (24 * i9 + j9))) - (nqS z9.2.1 z9.2.2.1 i9 m9)) - (nqS z9.2.1 z9.2.2.1 j9 m9))), (5, .int (nI (j9))), (4, .int (nI (i9))), (12, .long (((((nI (L - (2))).toInt64) * (z9.2.2.1 (24 * i9 + j9))) - (nqS z9.2.1 z9.2.2.1 i9 m9)) - (nqS z9.2.1 z9.2.2.1 j9 m9))), (11, .int (nI (j9))), (10, .int (nI (i9))), (9, .int (nI (p9 + 1 + u))), (8, .int (nI (p9))), (3, .int (nI (L))), (2, .int (nI (m9))), (0, .ref (w.1 (0))), (1, .int (nI (q9)))] dX11_nearest_243 (by decide) rfl ?_
              refine g_iinc (pc9 := 248) C rfl [(9, .int (nI (p9 + 1 + u + 1))), (6, .long (((((nI (L - (2))).toInt64) * (z9.2.2.1 (24 * i9 + j9))) - (nqS z9.2.1 z9.2.2.1 i9 m9)) - (nqS z9.2.1 z9.2.2.1 j9 m9))), (5, .int (nI (j9))), (4, .int (nI (i9))), (12, .long (((((nI (L - (2))).toInt64) * (z9.2.2.1 (24 * i9 + j9))) - (nqS z9.2.1 z9.2.2.1 i9 m9)) - (nqS z9.2.1 z9.2.2.1 j9 m9))), (11, .int (nI (j9))), (10, .int (nI (i9))), (8, .int (nI (p9))), (3, .int (nI (L))), (2, .int (nI (m9))), (0, .ref (w.1 (0))), (1, .int (nI (q9)))] 6 (nI (p9 + 1 + u + 1)) dX11_nearest_245 rfl (nI_1 (p9 + 1 + u)) (by decide) rfl ?_
              refine g_goto C 146 dX11_nearest_248 rfl ?_
              refine g_sub [0, 7, 3, 2, 1, 8, 9, 10, 11] [(9, .int (nI (p9 + 1 + u + 1))), (8, .int (nI (p9))), (4, .int (nI (i9))), (5, .int (nI (j9))), (6, .long (((((nI (L - (2))).toInt64) * (z9.2.2.1 (24 * i9 + j9))) - (nqS z9.2.1 z9.2.2.1 i9 m9)) - (nqS z9.2.1 z9.2.2.1 j9 m9))), (3, .int (nI (L))), (2, .int (nI (m9))), (0, .ref (w.1 (0))), (1, .int (nI (q9)))] rfl ?_
              refine g_lv (lv9 := [(9, .int (nI (p9 + 1 + u + 1))), (8, .int (nI (p9))), (4, .int ((nqC1 z9.1 z9.2.1 z9.2.2.1 m9 L p9 (nqC z9.1 z9.2.1 z9.2.2.1 m9 L N (p9)) (u + 1)).1)), (5, .int ((nqC1 z9.1 z9.2.1 z9.2.2.1 m9 L p9 (nqC z9.1 z9.2.1 z9.2.2.1 m9 L N (p9)) (u + 1)).2.1)), (6, .long ((nqC1 z9.1 z9.2.1 z9.2.2.1 m9 L p9 (nqC z9.1 z9.2.1 z9.2.2.1 m9 L N (p9)) (u + 1)).2.2)), (3, .int (nI (L))), (2, .int (nI (m9))), (0, .ref (w.1 (0))), (1, .int (nI (q9)))]) (by rw [show nqC1 z9.1 z9.2.1 z9.2.2.1 m9 L p9 (nqC z9.1 z9.2.1 z9.2.2.1 m9 L N (p9)) (u + 1) = nqQ z9.1 z9.2.1 z9.2.2.1 m9 L p9 (p9 + 1 + u) (nqC1 z9.1 z9.2.1 z9.2.2.1 m9 L p9 (nqC z9.1 z9.2.1 z9.2.2.1 m9 L N (p9)) (u)) from rfl, hs]; try rfl) ?_
              exact ih1 (u + 1) (by omega) (by omega)
            · have hs : nqQ z9.1 z9.2.1 z9.2.2.1 m9 L p9 (p9 + 1 + u) (nqC1 z9.1 z9.2.1 z9.2.2.1 m9 L p9 (nqC z9.1 z9.2.1 z9.2.2.1 m9 L N (p9)) (u)) = nqC1 z9.1 z9.2.1 z9.2.2.1 m9 L p9 (nqC z9.1 z9.2.1 z9.2.2.1 m9 L N (p9)) (u) := hq.trans (cI_t ⟨h3, fun h => c_11 (lcmp_lt.mpr h)⟩)
              refine g_goto C 245 dX11_nearest_230 rfl ?_
              refine g_iinc (pc9 := 248) C rfl [(9, .int (nI (p9 + 1 + u + 1))), (12, .long (((((nI (L - (2))).toInt64) * (z9.2.2.1 (24 * i9 + j9))) - (nqS z9.2.1 z9.2.2.1 i9 m9)) - (nqS z9.2.1 z9.2.2.1 j9 m9))), (11, .int (nI (j9))), (10, .int (nI (i9))), (8, .int (nI (p9))), (4, .int ((nqC1 z9.1 z9.2.1 z9.2.2.1 m9 L p9 (nqC z9.1 z9.2.1 z9.2.2.1 m9 L N (p9)) (u)).1)), (5, .int ((nqC1 z9.1 z9.2.1 z9.2.2.1 m9 L p9 (nqC z9.1 z9.2.1 z9.2.2.1 m9 L N (p9)) (u)).2.1)), (6, .long ((nqC1 z9.1 z9.2.1 z9.2.2.1 m9 L p9 (nqC z9.1 z9.2.1 z9.2.2.1 m9 L N (p9)) (u)).2.2)), (3, .int (nI (L))), (2, .int (nI (m9))), (0, .ref (w.1 (0))), (1, .int (nI (q9)))] 3 (nI (p9 + 1 + u + 1)) dX11_nearest_245 rfl (nI_1 (p9 + 1 + u)) (by decide) rfl ?_
              refine g_goto C 146 dX11_nearest_248 rfl ?_
              refine g_sub [0, 4, 5, 6, 7, 8, 9, 10, 11] [(9, .int (nI (p9 + 1 + u + 1))), (8, .int (nI (p9))), (4, .int ((nqC1 z9.1 z9.2.1 z9.2.2.1 m9 L p9 (nqC z9.1 z9.2.1 z9.2.2.1 m9 L N (p9)) (u)).1)), (5, .int ((nqC1 z9.1 z9.2.1 z9.2.2.1 m9 L p9 (nqC z9.1 z9.2.1 z9.2.2.1 m9 L N (p9)) (u)).2.1)), (6, .long ((nqC1 z9.1 z9.2.1 z9.2.2.1 m9 L p9 (nqC z9.1 z9.2.1 z9.2.2.1 m9 L N (p9)) (u)).2.2)), (3, .int (nI (L))), (2, .int (nI (m9))), (0, .ref (w.1 (0))), (1, .int (nI (q9)))] rfl ?_
              refine g_lv (lv9 := [(9, .int (nI (p9 + 1 + u + 1))), (8, .int (nI (p9))), (4, .int ((nqC1 z9.1 z9.2.1 z9.2.2.1 m9 L p9 (nqC z9.1 z9.2.1 z9.2.2.1 m9 L N (p9)) (u + 1)).1)), (5, .int ((nqC1 z9.1 z9.2.1 z9.2.2.1 m9 L p9 (nqC z9.1 z9.2.1 z9.2.2.1 m9 L N (p9)) (u + 1)).2.1)), (6, .long ((nqC1 z9.1 z9.2.1 z9.2.2.1 m9 L p9 (nqC z9.1 z9.2.1 z9.2.2.1 m9 L N (p9)) (u + 1)).2.2)), (3, .int (nI (L))), (2, .int (nI (m9))), (0, .ref (w.1 (0))), (1, .int (nI (q9)))]) (by rw [show nqC1 z9.1 z9.2.1 z9.2.2.1 m9 L p9 (nqC z9.1 z9.2.1 z9.2.2.1 m9 L N (p9)) (u + 1) = nqQ z9.1 z9.2.1 z9.2.2.1 m9 L p9 (p9 + 1 + u) (nqC1 z9.1 z9.2.1 z9.2.2.1 m9 L p9 (nqC z9.1 z9.2.1 z9.2.2.1 m9 L N (p9)) (u)) from rfl, hs]; try rfl) ?_
              exact ih1 (u + 1) (by omega) (by omega)
        · have hs : nqQ z9.1 z9.2.1 z9.2.2.1 m9 L p9 (p9 + 1 + u) (nqC1 z9.1 z9.2.1 z9.2.2.1 m9 L p9 (nqC z9.1 z9.2.1 z9.2.2.1 m9 L N (p9)) (u)) = nqC1 z9.1 z9.2.1 z9.2.2.1 m9 L p9 (nqC z9.1 z9.2.1 z9.2.2.1 m9 L N (p9)) (u) := cI_f0 (Or.inr (Int32.not_le.mp c_6))
          refine g_goto C 245 dX11_nearest_183 rfl ?_
          refine g_iinc (pc9 := 248) C rfl [(9, .int (nI (p9 + 1 + u + 1))), (11, .int (nqL z9.1 z9.2.1 (p9 + 1 + u) m9)), (10, .int (nqL z9.1 z9.2.1 (p9) m9)), (8, .int (nI (p9))), (4, .int ((nqC1 z9.1 z9.2.1 z9.2.2.1 m9 L p9 (nqC z9.1 z9.2.1 z9.2.2.1 m9 L N (p9)) (u)).1)), (5, .int ((nqC1 z9.1 z9.2.1 z9.2.2.1 m9 L p9 (nqC z9.1 z9.2.1 z9.2.2.1 m9 L N (p9)) (u)).2.1)), (6, .long ((nqC1 z9.1 z9.2.1 z9.2.2.1 m9 L p9 (nqC z9.1 z9.2.1 z9.2.2.1 m9 L N (p9)) (u)).2.2)), (3, .int (nI (L))), (2, .int (nI (m9))), (0, .ref (w.1 (0))), (1, .int (nI (q9)))] 2 (nI (p9 + 1 + u + 1)) dX11_nearest_245 rfl (nI_1 (p9 + 1 + u)) (by decide) rfl ?_
          refine g_goto C 146 dX11_nearest_248 rfl ?_
          refine g_sub [0, 3, 4, 5, 6, 7, 8, 9, 10] [(9, .int (nI (p9 + 1 + u + 1))), (8, .int (nI (p9))), (4, .int ((nqC1 z9.1 z9.2.1 z9.2.2.1 m9 L p9 (nqC z9.1 z9.2.1 z9.2.2.1 m9 L N (p9)) (u)).1)), (5, .int ((nqC1 z9.1 z9.2.1 z9.2.2.1 m9 L p9 (nqC z9.1 z9.2.1 z9.2.2.1 m9 L N (p9)) (u)).2.1)), (6, .long ((nqC1 z9.1 z9.2.1 z9.2.2.1 m9 L p9 (nqC z9.1 z9.2.1 z9.2.2.1 m9 L N (p9)) (u)).2.2)), (3, .int (nI (L))), (2, .int (nI (m9))), (0, .ref (w.1 (0))), (1, .int (nI (q9)))] rfl ?_
          refine g_lv (lv9 := [(9, .int (nI (p9 + 1 + u + 1))), (8, .int (nI (p9))), (4, .int ((nqC1 z9.1 z9.2.1 z9.2.2.1 m9 L p9 (nqC z9.1 z9.2.1 z9.2.2.1 m9 L N (p9)) (u + 1)).1)), (5, .int ((nqC1 z9.1 z9.2.1 z9.2.2.1 m9 L p9 (nqC z9.1 z9.2.1 z9.2.2.1 m9 L N (p9)) (u + 1)).2.1)), (6, .long ((nqC1 z9.1 z9.2.1 z9.2.2.1 m9 L p9 (nqC z9.1 z9.2.1 z9.2.2.1 m9 L N (p9)) (u + 1)).2.2)), (3, .int (nI (L))), (2, .int (nI (m9))), (0, .ref (w.1 (0))), (1, .int (nI (q9)))]) (by rw [show nqC1 z9.1 z9.2.1 z9.2.2.1 m9 L p9 (nqC z9.1 z9.2.1 z9.2.2.1 m9 L N (p9)) (u + 1) = nqQ z9.1 z9.2.1 z9.2.2.1 m9 L p9 (p9 + 1 + u) (nqC1 z9.1 z9.2.1 z9.2.2.1 m9 L p9 (nqC z9.1 z9.2.1 z9.2.2.1 m9 L N (p9)) (u)) from rfl, hs]; try rfl) ?_
          exact ih1 (u + 1) (by omega) (by omega)
set_option maxRecDepth 100000 in
set_option maxHeartbeats 4000000 in
theorem m14_merge {p : Program} {l : Launch} {e : Env} {s : State} {m : MethodId} {args : Array Value} {below : List Frame} {meth : Method} {c : Code} {Q : State → Prop} {w : Wd} {A : Nat → Prop} (C : Cx p s m args c w A cX11_nearest RX11 14 wsX11_nearest) (σ : St) (q9 L m9 x9 y9 : Nat) (hm9 : m9 < 24) (hx9 : x9 < 24) (hy9 : y9 < 24) (z9 : NJ) (kont : G p l e (rmL 3) s m args below meth c Q w A 14 (sN (sI (sJ (sI (sI (sN σ (0) 0 (nI (0))) (22) (upd z9.1 m9 (z9.1 x9 ||| z9.1 y9))) (23) (z9.2.1)) (24) (nqF x9 y9 m9 z9.2.2.1 m9)) (13) (z9.2.2.2.2)) (0) 21 (nI (z9.2.2.2.1))) 0 0 354 [(4, .int (nI (x9))), (5, .int (nI (y9))), (3, .int (nI (L))), (2, .int (nI (m9))), (0, .ref (w.1 (0))), (1, .int (nI (q9)))] []) : G p l e (rmL 3) s m args below meth c Q w A 14 (sN (sI (sJ (sI (sI (sN σ (0) 0 (nI (0))) (22) (upd z9.1 m9 (z9.1 x9 ||| z9.1 y9))) (23) (z9.2.1)) (24) (z9.2.2.1)) (13) (z9.2.2.2.2)) (0) 21 (nI (z9.2.2.2.1))) 0 0 281 [(8, .int (nI (0))), (4, .int (nI (x9))), (5, .int (nI (y9))), (3, .int (nI (L))), (2, .int (nI (m9))), (0, .ref (w.1 (0))), (1, .int (nI (q9)))] [] := by
  have hin_11 : ∀ u ∈ wsX110, u ∈ wsX11_nearest := by decide +kernel
  have hl_88 : Cond.fieldLink RX11 88 "LineageBenchModel" "far" "[J" ∈ wsX11_nearest := by decide +kernel
  refine g_lp1 (α := Nat) (fun k9 => k9 ≤ m9) (fun k9 => m9 - k9) (fun k9 => G p l e _ s m args below meth c _ w A _ (sN (sI (sJ (sI (sI (sN σ (0) 0 (nI (0))) (22) (upd z9.1 m9 (z9.1 x9 ||| z9.1 y9))) (23) (z9.2.1)) (24) (nqF x9 y9 m9 z9.2.2.1 (k9))) (13) (z9.2.2.2.2)) (0) 21 (nI (z9.2.2.2.1))) 0 0 281 [(8, .int (nI (k9))), (4, .int (nI (x9))), (5, .int (nI (y9))), (3, .int (nI (L))), (2, .int (nI (m9))), (0, .ref (w.1 (0))), (1, .int (nI (q9)))] []) (fun k9 hk ih0 => ?_) (0) (Nat.zero_le _)
  refine g_iload (pc9 := 283) C rfl 0 dX11_nearest_281 rfl ?_
  refine g_iload_n (pc9 := 284) C rfl 4 dX11_nearest_283 rfl rfl ?_
  refine g_icmp_ge (pc9 := 287) C rfl 354 dX11_nearest_284 rfl (fun c_1 => ?_) (fun c_1 => ?_)
  · replace c_1 := (nI_leI (by omega) (by omega)).mp c_1
    refine g_sub [1, 2, 3, 4, 5, 6] [(4, .int (nI (x9))), (5, .int (nI (y9))), (3, .int (nI (L))), (2, .int (nI (m9))), (0, .ref (w.1 (0))), (1, .int (nI (q9)))] rfl ?_
    have hkm : k9 = m9 := by omega
    subst hkm
    exact kont
  · replace c_1 := (not_congr (nI_leI (by omega) (by omega))).mp c_1
    refine g_aload_n (pc9 := 288) C rfl 5 dX11_nearest_287 rfl rfl ?_
    refine g_get (v := .ref (w.1 (24))) (pc9 := 291) C rfl (0) 33 dX11_nearest_288 (by decide) (ce_0 w (sN (sI (sJ (sI (sI (sN σ (0) 0 (nI (0))) (22) (upd z9.1 m9 (z9.1 x9 ||| z9.1 y9))) (23) (z9.2.1)) (24) (nqF x9 y9 m9 z9.2.2.1 (k9))) (13) (z9.2.2.2.2)) (0) 21 (nI (z9.2.2.2.1)))) hin_11 hl_88 rfl (by decide) rfl rfl ?_
    refine g_bipush (pc9 := 293) C rfl (nI (24)) dX11_nearest_291 rfl ?_
    refine g_iload_n (pc9 := 294) C rfl 4 dX11_nearest_293 rfl rfl ?_
    refine g_imulN (pc9 := 295) C rfl dX11_nearest_294 ?_
    refine g_iload (pc9 := 297) C rfl 0 dX11_nearest_295 rfl ?_
    refine g_iaddN (pc9 := 298) C rfl dX11_nearest_297 ?_
    refine g_aload_n (pc9 := 299) C rfl 5 dX11_nearest_298 rfl rfl ?_
    refine g_iload (pc9 := 301) C rfl 1 dX11_nearest_299 rfl ?_
    refine g_iload (pc9 := 303) C rfl 0 dX11_nearest_301 rfl ?_
    refine g_callVl (nn := 2) (rest := [.int (nI ((24 * m9) + k9)), .ref (w.1 (24))]) (pc9 := 306) C rfl (0) [.int (nI (x9)), .int (nI (k9))] rfl dX11_nearest_303 (m_X11_far l w (sN (sI (sJ (sI (sI (sN σ (0) 0 (nI (0))) (22) (upd z9.1 m9 (z9.1 x9 ||| z9.1 y9))) (23) (z9.2.1)) (24) (nqF x9 y9 m9 z9.2.2.1 (k9))) (13) (z9.2.2.2.2)) (0) 21 (nI (z9.2.2.2.1))) x9 k9 (by omega) (by omega)) gX11_nearest_X11_far (by decide) (ce_0 w (sN (sI (sJ (sI (sI (sN σ (0) 0 (nI (0))) (22) (upd z9.1 m9 (z9.1 x9 ||| z9.1 y9))) (23) (z9.2.1)) (24) (nqF x9 y9 m9 z9.2.2.1 (k9))) (13) (z9.2.2.2.2)) (0) 21 (nI (z9.2.2.2.1)))) rfl rfl rfl rfl rfl (by decide +kernel) ⟨by decide, by decide⟩ rfl (Nat.le_of_ble_eq_true rfl) ⟨by decide, by decide⟩ (fun r_2 σ_2 q_2 => ?_)
    obtain ⟨qs_2, qr_2⟩ := q_2
    replace qr_2 : r_2 = (nqF x9 y9 m9 z9.2.2.1 (k9)) (24 * x9 + k9) := qr_2
    rw [qs_2, qr_2]
    clear qs_2 qr_2
    refine g_aload_n (pc9 := 307) C rfl 5 dX11_nearest_306 rfl rfl ?_
    refine g_iload (pc9 := 309) C rfl 2 dX11_nearest_307 rfl ?_
    refine g_iload (pc9 := 311) C rfl 0 dX11_nearest_309 rfl ?_
    refine g_callVl (nn := 2) (rest := [.long ((nqF x9 y9 m9 z9.2.2.1 (k9)) (24 * x9 + k9)), .int (nI ((24 * m9) + k9)), .ref (w.1 (24))]) (pc9 := 314) C rfl (0) [.int (nI (y9)), .int (nI (k9))] rfl dX11_nearest_311 (m_X11_far l w (sN (sI (sJ (sI (sI (sN σ (0) 0 (nI (0))) (22) (upd z9.1 m9 (z9.1 x9 ||| z9.1 y9))) (23) (z9.2.1)) (24) (nqF x9 y9 m9 z9.2.2.1 (k9))) (13) (z9.2.2.2.2)) (0) 21 (nI (z9.2.2.2.1))) y9 k9 (by omega) (by omega)) gX11_nearest_X11_far (by decide) (ce_0 w (sN (sI (sJ (sI (sI (sN σ (0) 0 (nI (0))) (22) (upd z9.1 m9 (z9.1 x9 ||| z9.1 y9))) (23) (z9.2.1)) (24) (nqF x9 y9 m9 z9.2.2.1 (k9))) (13) (z9.2.2.2.2)) (0) 21 (nI (z9.2.2.2.1)))) rfl rfl rfl rfl rfl (by decide +kernel) ⟨by decide, by decide⟩ rfl (Nat.le_of_ble_eq_true rfl) ⟨by decide, by decide⟩ (fun r_3 σ_3 q_3 => ?_)
    obtain ⟨qs_3, qr_3⟩ := q_3
    replace qr_3 : r_3 = (nqF x9 y9 m9 z9.2.2.1 (k9)) (24 * y9 + k9) := qr_3
    rw [qs_3, qr_3]
    clear qs_3 qr_3
    refine g_ladd (pc9 := 315) C rfl dX11_nearest_314 ?_
    refine g_aload_n (pc9 := 316) C rfl 5 dX11_nearest_315 rfl rfl ?_
    refine g_iload (pc9 := 318) C rfl 1 dX11_nearest_316 rfl ?_
    refine g_iload (pc9 := 320) C rfl 2 dX11_nearest_318 rfl ?_
    refine g_callVl (nn := 2) (rest := [.long (((nqF x9 y9 m9 z9.2.2.1 (k9)) (24 * x9 + k9)) + ((nqF x9 y9 m9 z9.2.2.1 (k9)) (24 * y9 + k9))), .int (nI ((24 * m9) + k9)), .ref (w.1 (24))]) (pc9 := 323) C rfl (0) [.int (nI (x9)), .int (nI (y9))] rfl dX11_nearest_320 (m_X11_far l w (sN (sI (sJ (sI (sI (sN σ (0) 0 (nI (0))) (22) (upd z9.1 m9 (z9.1 x9 ||| z9.1 y9))) (23) (z9.2.1)) (24) (nqF x9 y9 m9 z9.2.2.1 (k9))) (13) (z9.2.2.2.2)) (0) 21 (nI (z9.2.2.2.1))) x9 y9 (by omega) (by omega)) gX11_nearest_X11_far (by decide) (ce_0 w (sN (sI (sJ (sI (sI (sN σ (0) 0 (nI (0))) (22) (upd z9.1 m9 (z9.1 x9 ||| z9.1 y9))) (23) (z9.2.1)) (24) (nqF x9 y9 m9 z9.2.2.1 (k9))) (13) (z9.2.2.2.2)) (0) 21 (nI (z9.2.2.2.1)))) rfl rfl rfl rfl rfl (by decide +kernel) ⟨by decide, by decide⟩ rfl (Nat.le_of_ble_eq_true rfl) ⟨by decide, by decide⟩ (fun r_4 σ_4 q_4 => ?_)
    obtain ⟨qs_4, qr_4⟩ := q_4
    replace qr_4 : r_4 = (nqF x9 y9 m9 z9.2.2.1 (k9)) (24 * x9 + y9) := qr_4
    rw [qs_4, qr_4]
    clear qs_4 qr_4
    refine g_lsub (pc9 := 324) C rfl dX11_nearest_323 ?_
    refine g_ldc2 (pc9 := 327) C rfl (2) dX11_nearest_324 (by decide +kernel) ?_
    refine g_ldiv (pc9 := 328) C rfl dX11_nearest_327 (by decide) ?_
    refine g_last (pc9 := 329) C rfl (24) ((24 * m9) + k9) (nqF x9 y9 m9 z9.2.2.1 (k9)) dX11_nearest_328 (by decide) (fun _ => rfl) (ce_24 w (sN (sI (sJ (sI (sI (sN σ (0) 0 (nI (0))) (22) (upd z9.1 m9 (z9.1 x9 ||| z9.1 y9))) (23) (z9.2.1)) (24) (nqF x9 y9 m9 z9.2.2.1 (k9))) (13) (z9.2.2.2.2)) (0) 21 (nI (z9.2.2.2.1)))) rfl (by omega) (by decide) (((jA_N).trans (jA_I)).trans (jA_s)) ?_
    rw [sJ_sN (a := 0) (k := 21) (b := 24), sJ_sI (a := 13) (b := 24), sJ_sJ (a := 24)]
    refine g_aload_n (pc9 := 330) C rfl 5 dX11_nearest_329 rfl rfl ?_
    refine g_get (v := .ref (w.1 (24))) (pc9 := 333) C rfl (0) 33 dX11_nearest_330 (by decide) (ce_0 w (sN (sI (sJ (sI (sI (sN σ (0) 0 (nI (0))) (22) (upd z9.1 m9 (z9.1 x9 ||| z9.1 y9))) (23) (z9.2.1)) (24) (vp_updL (nqF x9 y9 m9 z9.2.2.1 (k9)) ((24 * m9) + k9) (((((nqF x9 y9 m9 z9.2.2.1 (k9)) (24 * x9 + k9)) + ((nqF x9 y9 m9 z9.2.2.1 (k9)) (24 * y9 + k9))) - ((nqF x9 y9 m9 z9.2.2.1 (k9)) (24 * x9 + y9))) / (2)))) (13) (z9.2.2.2.2)) (0) 21 (nI (z9.2.2.2.1)))) hin_11 hl_88 rfl (by decide) rfl rfl ?_
    refine g_bipush (pc9 := 335) C rfl (nI (24)) dX11_nearest_333 rfl ?_
    refine g_iload (pc9 := 337) C rfl 0 dX11_nearest_335 rfl ?_
    refine g_imulN (pc9 := 338) C rfl dX11_nearest_337 ?_
    refine g_iload_n (pc9 := 339) C rfl 4 dX11_nearest_338 rfl rfl ?_
    refine g_iaddN (pc9 := 340) C rfl dX11_nearest_339 ?_
    refine g_aload_n (pc9 := 341) C rfl 5 dX11_nearest_340 rfl rfl ?_
    refine g_iload_n (pc9 := 342) C rfl 4 dX11_nearest_341 rfl rfl ?_
    refine g_iload (pc9 := 344) C rfl 0 dX11_nearest_342 rfl ?_
    refine g_callVl (nn := 2) (rest := [.int (nI ((24 * k9) + m9)), .ref (w.1 (24))]) (pc9 := 347) C rfl (0) [.int (nI (m9)), .int (nI (k9))] rfl dX11_nearest_344 (m_X11_far l w (sN (sI (sJ (sI (sI (sN σ (0) 0 (nI (0))) (22) (upd z9.1 m9 (z9.1 x9 ||| z9.1 y9))) (23) (z9.2.1)) (24) (vp_updL (nqF x9 y9 m9 z9.2.2.1 (k9)) ((24 * m9) + k9) (((((nqF x9 y9 m9 z9.2.2.1 (k9)) (24 * x9 + k9)) + ((nqF x9 y9 m9 z9.2.2.1 (k9)) (24 * y9 + k9))) - ((nqF x9 y9 m9 z9.2.2.1 (k9)) (24 * x9 + y9))) / (2)))) (13) (z9.2.2.2.2)) (0) 21 (nI (z9.2.2.2.1))) m9 k9 (by omega) (by omega)) gX11_nearest_X11_far (by decide) (ce_0 w (sN (sI (sJ (sI (sI (sN σ (0) 0 (nI (0))) (22) (upd z9.1 m9 (z9.1 x9 ||| z9.1 y9))) (23) (z9.2.1)) (24) (vp_updL (nqF x9 y9 m9 z9.2.2.1 (k9)) ((24 * m9) + k9) (((((nqF x9 y9 m9 z9.2.2.1 (k9)) (24 * x9 + k9)) + ((nqF x9 y9 m9 z9.2.2.1 (k9)) (24 * y9 + k9))) - ((nqF x9 y9 m9 z9.2.2.1 (k9)) (24 * x9 + y9))) / (2)))) (13) (z9.2.2.2.2)) (0) 21 (nI (z9.2.2.2.1)))) rfl rfl rfl rfl rfl (by decide +kernel) ⟨by decide, by decide⟩ rfl (Nat.le_of_ble_eq_true rfl) ⟨by decide, by decide⟩ (fun r_5 σ_5 q_5 => ?_)
    obtain ⟨qs_5, qr_5⟩ := q_5
    replace qr_5 : r_5 = (vp_updL (nqF x9 y9 m9 z9.2.2.1 (k9)) ((24 * m9) + k9) (((((nqF x9 y9 m9 z9.2.2.1 (k9)) (24 * x9 + k9)) + ((nqF x9 y9 m9 z9.2.2.1 (k9)) (24 * y9 + k9))) - ((nqF x9 y9 m9 z9.2.2.1 (k9)) (24 * x9 + y9))) / (2))) (24 * m9 + k9) := qr_5
    rw [qs_5, qr_5]
    clear qs_5 qr_5
    refine g_last (pc9 := 348) C rfl (24) ((24 * k9) + m9) (vp_updL (nqF x9 y9 m9 z9.2.2.1 (k9)) ((24 * m9) + k9) (((((nqF x9 y9 m9 z9.2.2.1 (k9)) (24 * x9 + k9)) + ((nqF x9 y9 m9 z9.2.2.1 (k9)) (24 * y9 + k9))) - ((nqF x9 y9 m9 z9.2.2.1 (k9)) (24 * x9 + y9))) / (2))) dX11_nearest_347 (by decide) (fun _ => rfl) (ce_24 w (sN (sI (sJ (sI (sI (sN σ (0) 0 (nI (0))) (22) (upd z9.1 m9 (z9.1 x9 ||| z9.1 y9))) (23) (z9.2.1)) (24) (vp_updL (nqF x9 y9 m9 z9.2.2.1 (k9)) ((24 * m9) + k9) (((((nqF x9 y9 m9 z9.2.2.1 (k9)) (24 * x9 + k9)) + ((nqF x9 y9 m9 z9.2.2.1 (k9)) (24 * y9 + k9))) - ((nqF x9 y9 m9 z9.2.2.1 (k9)) (24 * x9 + y9))) / (2)))) (13) (z9.2.2.2.2)) (0) 21 (nI (z9.2.2.2.1)))) rfl (by omega) (by decide) (((jA_N).trans (jA_I)).trans (jA_s)) ?_
    rw [sJ_sN (a := 0) (k := 21) (b := 24), sJ_sI (a := 13) (b := 24), sJ_sJ (a := 24)]
    refine g_iinc (pc9 := 351) C rfl [(8, .int (nI (k9 + 1))), (4, .int (nI (x9))), (5, .int (nI (y9))), (3, .int (nI (L))), (2, .int (nI (m9))), (0, .ref (w.1 (0))), (1, .int (nI (q9)))] 0 (nI (k9 + 1)) dX11_nearest_348 rfl (nI_1 (k9)) (by decide) rfl ?_
    refine g_goto C 281 dX11_nearest_351 rfl ?_
    refine g_sub [0, 1, 2, 3, 4, 5, 6] [(8, .int (nI (k9 + 1))), (4, .int (nI (x9))), (5, .int (nI (y9))), (3, .int (nI (L))), (2, .int (nI (m9))), (0, .ref (w.1 (0))), (1, .int (nI (q9)))] rfl ?_
    exact ih0 (k9 + 1) (by omega) (by omega)
set_option maxRecDepth 100000 in
set_option maxHeartbeats 4000000 in
theorem m_X11_nearest (l : Launch) (w : Wd) (σ : St) (N : Nat) (hN : nF σ 0 16 = nI N) (h12 : N ≤ 12) (h2 : 2 ≤ N) (u : Int32) (hX : ∀ t, t + 2 < N → ∃ x y, x < N + t ∧ y < N + t ∧ ¬ x = y ∧ (nqK N (nqT σ N t) t).1 = nI x ∧ (nqK N (nqT σ N t) t).2.1 = nI y) (hG : 0 < (nqE σ N).1 ∧ (nqE σ N).1 ≤ 47) : MV l yX11_nearest wsX11_nearest (rmL 3) w [.ref (w.1 (0)), .int (u)] (σ) (mneaP σ N u) := by
  refine MV_of (cc := cX11_nearest) (maxL := 14) (by decide) rfl (Nat.le_of_ble_eq_true rfl) ?_
  intro p e s m args below meth c A C hr hlk
  have C : Cx p s m args c w A cX11_nearest RX11 14 wsX11_nearest := C
  have hin_11 : ∀ u ∈ wsX110, u ∈ wsX11_nearest := by decide +kernel
  have hl_45 : Cond.fieldLink RX11 45 "LineageBenchModel" "n" "I" ∈ wsX11_nearest := by decide +kernel
  have hl_82 : Cond.fieldLink RX11 82 "LineageBenchModel" "nodeSet" "[I" ∈ wsX11_nearest := by decide +kernel
  have hl_85 : Cond.fieldLink RX11 85 "LineageBenchModel" "isLive" "[Z" ∈ wsX11_nearest := by decide +kernel
  have hl_88 : Cond.fieldLink RX11 88 "LineageBenchModel" "far" "[J" ∈ wsX11_nearest := by decide +kernel
  have hl_107 : Cond.fieldLink RX11 107 "LineageBenchModel" "thrown" "I" ∈ wsX11_nearest := by decide +kernel
  have hl_129 : Cond.fieldLink RX11 129 "LineageBenchModel" "setMany" "I" ∈ wsX11_nearest := by decide +kernel
  refine g_aload_n (pc9 := 1) C rfl 0 dX11_nearest_0 rfl rfl ?_
  refine g_iconst (pc9 := 2) C rfl (nI (0)) dX11_nearest_1 rfl ?_
  refine g_put (pc9 := 5) C rfl (0) 0 dX11_nearest_2 (by decide) (ce_0 w (σ)) (rfl) hin_11 hl_107 tyX11 tyX11_ok nmX11 rfl (by decide) rfl rfl rfl (Nat.le_of_ble_eq_true rfl) ?_
  refine g_aload_n (pc9 := 6) C rfl 0 dX11_nearest_5 rfl rfl ?_
  refine g_iload_n (pc9 := 7) C rfl 1 dX11_nearest_6 rfl rfl ?_
  refine g_callSi (nn := 1) (rest := [.ref (w.1 (0))]) (pc9 := 10) C rfl [.int (u)] rfl dX11_nearest_7 (m_X11_noShelf l w (sN σ (0) 0 (nI (0))) u) gX11_nearest_X11_noShelf rfl rfl rfl (by decide +kernel) ⟨by decide, by decide⟩ rfl (Nat.le_of_ble_eq_true rfl) ⟨by decide, by decide⟩ (fun r_1 σ_1 q_1 => ?_)
  obtain ⟨qs_1, qr_1⟩ := q_1
  rw [qs_1, qr_1]
  clear qs_1 qr_1
  refine g_iconst (pc9 := 11) C rfl (nI (1)) dX11_nearest_10 rfl ?_
  refine g_callVi (nn := 2) (rest := []) (pc9 := 14) C rfl (0) [.int (pI (¬ okI 8 u)), .int (nI (1))] rfl dX11_nearest_11 (m_throwsP l w (sN σ (0) 0 (nI (0))) (¬ okI 8 u) 1) gX11_nearest_X11_throwsIf (by decide) (ce_0 w (sN σ (0) 0 (nI (0)))) rfl rfl rfl rfl rfl (by decide +kernel) ⟨by decide, by decide⟩ rfl (Nat.le_of_ble_eq_true rfl) ⟨by decide, by decide⟩ (fun r_2 σ_2 q_2 => ?_)
  obtain ⟨qr_2, qt_2, qf_2⟩ := q_2
  rw [qr_2]
  refine g_if_eq (pc9 := 17) C rfl 18 dX11_nearest_14 rfl (fun c_3 => ?_) (fun c_3 => ?_)
  · have hns : ¬ (¬ okI 8 u) := pI_no c_3
    rw [qf_2 hns]
    obtain ⟨q9, hb_q9, hx_q9⟩ := Classical.not_not.mp hns
    subst hx_q9
    refine g_aload_n (pc9 := 19) C rfl 0 dX11_nearest_18 rfl rfl ?_
    refine g_get (v := .int (nI (N))) (pc9 := 22) C rfl (0) 16 dX11_nearest_19 (by decide) (ce_0 w (sN σ (0) 0 (nI (0)))) hin_11 hl_45 rfl (by decide) rfl (congrArg (fun z => some (Value.int z)) ((nF_k (k := 0) (k9 := 16) (by decide)).trans hN)) ?_
    refine g_istore_n (pc9 := 23) C rfl [(2, .int (nI (N))), (0, .ref (w.1 (0))), (1, .int (nI (q9)))] dX11_nearest_22 rfl (by decide) rfl ?_
    refine g_aload_n (pc9 := 24) C rfl 1 dX11_nearest_23 rfl rfl ?_
    refine g_iconst (pc9 := 25) C rfl (nI (0)) dX11_nearest_24 rfl ?_
    refine g_put (pc9 := 28) C rfl (0) 21 dX11_nearest_25 (by decide) (ce_0 w (sN σ (0) 0 (nI (0)))) (rfl) hin_11 hl_129 tyX11 tyX11_ok nmX11 rfl (by decide) rfl rfl rfl (Nat.le_of_ble_eq_true rfl) ?_
    refine g_iconst (pc9 := 29) C rfl (nI (0)) dX11_nearest_28 rfl ?_
    refine g_istore_n (pc9 := 30) C rfl [(3, .int (nI (0))), (2, .int (nI (N))), (0, .ref (w.1 (0))), (1, .int (nI (q9)))] dX11_nearest_29 rfl (by decide) rfl ?_
    refine g_sub [0, 1, 2, 3] [(3, .int (nI (0))), (2, .int (nI (N))), (0, .ref (w.1 (0))), (1, .int (nI (q9)))] rfl ?_
    refine m14_init C σ N hN h12 q9 ?_
    refine g_aload_n (pc9 := 110) C rfl 1 dX11_nearest_109 rfl rfl ?_
    refine g_get (v := .int (nI (N))) (pc9 := 113) C rfl (0) 16 dX11_nearest_110 (by decide) (ce_0 w (sN (sI (sJ (sI (sI (sN σ (0) 0 (nI (0))) (22) ((nq0 σ N N).1)) (23) ((nq0 σ N N).2.1)) (24) ((nq0 σ N N).2.2.1)) (13) ((nq0 σ N N).2.2.2.2)) (0) 21 (nI ((nq0 σ N N).2.2.2.1)))) hin_11 hl_45 rfl (by decide) rfl (congrArg (fun z => some (Value.int z)) (((((((nF_k (k := 21) (k9 := 16) (by decide)).trans (nF_I)).trans (nF_J)).trans (nF_I)).trans (nF_I)).trans (nF_k (k := 0) (k9 := 16) (by decide))).trans hN)) ?_
    refine g_istore_n (pc9 := 114) C rfl [(3, .int (nI (N))), (2, .int (nI (N))), (0, .ref (w.1 (0))), (1, .int (nI (q9)))] dX11_nearest_113 rfl (by decide) rfl ?_
    refine g_sub [0, 1, 2, 3] [(3, .int (nI (N))), (2, .int (nI (N))), (0, .ref (w.1 (0))), (1, .int (nI (q9)))] rfl ?_
    refine g_lv (lv9 := [(3, .int (nI (N - 0))), (2, .int (nI (N + 0))), (0, .ref (w.1 (0))), (1, .int (nI (q9)))]) (by rw [Nat.sub_zero, Nat.add_zero]) ?_
    refine g_lp1 (α := Nat) (fun t => t + 2 ≤ N) (fun t => N - t) (fun t => G p l e _ s m args below meth c _ w A _ (sN (sI (sJ (sI (sI (sN σ (0) 0 (nI (0))) (22) ((nqT σ N (t)).1)) (23) ((nqT σ N (t)).2.1)) (24) ((nqT σ N (t)).2.2.1)) (13) ((nqT σ N (t)).2.2.2.2)) (0) 21 (nI ((nqT σ N (t)).2.2.2.1))) 0 0 114 [(3, .int (nI (N - t))), (2, .int (nI (N + t))), (0, .ref (w.1 (0))), (1, .int (nI (q9)))] []) (fun t ht ih0 => ?_) (0) (by omega)
    have hle := nqT_le (σ := σ) (N := N) t
    refine g_iload_n (pc9 := 115) C rfl 0 dX11_nearest_114 rfl rfl ?_
    refine g_iconst (pc9 := 116) C rfl (nI (2)) dX11_nearest_115 rfl ?_
    refine g_icmp_le (pc9 := 119) C rfl 408 dX11_nearest_116 rfl (fun c_4 => ?_) (fun c_4 => ?_)
    · replace c_4 := (nI_leI (by omega) (by omega)).mp c_4
      have htN : t = N - 2 := by omega
      refine g_aload_n (pc9 := 409) C rfl 2 dX11_nearest_408 rfl rfl ?_
      refine g_iconst (pc9 := 410) C rfl (nI (1)) dX11_nearest_409 rfl ?_
      refine g_aload_n (pc9 := 411) C rfl 2 dX11_nearest_410 rfl rfl ?_
      refine g_get (v := .int (nI (N))) (pc9 := 414) C rfl (0) 16 dX11_nearest_411 (by decide) (ce_0 w (sN (sI (sJ (sI (sI (sN σ (0) 0 (nI (0))) (22) ((nqT σ N (t)).1)) (23) ((nqT σ N (t)).2.1)) (24) ((nqT σ N (t)).2.2.1)) (13) ((nqT σ N (t)).2.2.2.2)) (0) 21 (nI ((nqT σ N (t)).2.2.2.1)))) hin_11 hl_45 rfl (by decide) rfl (congrArg (fun z => some (Value.int z)) (((((((nF_k (k := 21) (k9 := 16) (by decide)).trans (nF_I)).trans (nF_J)).trans (nF_I)).trans (nF_I)).trans (nF_k (k := 0) (k9 := 16) (by decide))).trans hN)) ?_
      refine g_ishl (pc9 := 415) C rfl dX11_nearest_414 ?_
      refine g_iconst (pc9 := 416) C rfl (nI (1)) dX11_nearest_415 rfl ?_
      refine g_isub (pc9 := 417) C rfl dX11_nearest_416 ?_
      refine g_callVv (nn := 1) (rest := []) (pc9 := 420) C rfl (0) [.int (((nI (1)) <<< ((nI (N)) &&& 31)) - (nI (1)))] rfl dX11_nearest_417 (m_X11_adds l w (sJ (sI (sI (sN σ (0) 0 (nI (0))) (22) ((nqT σ N t).1)) (23) ((nqT σ N t).2.1)) (24) ((nqT σ N t).2.2.1)) (nqT σ N t).2.2.2 (by omega) (((nI (1)) <<< ((nI (N)) &&& 31)) - (nI (1)))) gX11_nearest_X11_adds (by decide) (ce_0 w (sN (sI (sJ (sI (sI (sN σ (0) 0 (nI (0))) (22) ((nqT σ N (t)).1)) (23) ((nqT σ N (t)).2.1)) (24) ((nqT σ N (t)).2.2.1)) (13) ((nqT σ N (t)).2.2.2.2)) (0) 21 (nI ((nqT σ N (t)).2.2.2.1)))) rfl rfl rfl rfl rfl (by decide +kernel) ⟨by decide, by decide⟩ rfl (Nat.le_of_ble_eq_true rfl) ⟨by decide, by decide⟩ (fun σ_5 q_5 => ?_)
      replace q_5 : σ_5 = msSt (sJ (sI (sI (sN σ (0) 0 (nI (0))) (22) ((nqT σ N t).1)) (23) ((nqT σ N t).2.1)) (24) ((nqT σ N t).2.2.1)) (nqE σ N) := by rw [q_5, htN]
      rw [q_5]
      refine g_aload_n (pc9 := 421) C rfl 2 dX11_nearest_420 rfl rfl ?_
      refine g_iload_n (pc9 := 422) C rfl 3 dX11_nearest_421 rfl rfl ?_
      refine g_callVv (nn := 1) (rest := []) (pc9 := 425) C rfl (0) [.int (nI (q9))] rfl dX11_nearest_422 (m_X11_puts l w (sJ (sI (sI (sN σ (0) 0 (nI (0))) (22) ((nqT σ N t).1)) (23) ((nqT σ N t).2.1)) (24) ((nqT σ N t).2.2.1)) (nqE σ N) hG.1 hG.2 q9 hb_q9) gX11_nearest_X11_puts (by decide) (ce_0 w ((msSt (sJ (sI (sI (sN σ (0) 0 (nI (0))) (22) ((nqT σ N t).1)) (23) ((nqT σ N t).2.1)) (24) ((nqT σ N t).2.2.1)) (nqE σ N)))) rfl rfl rfl rfl rfl (by decide +kernel) ⟨by decide, by decide⟩ rfl (Nat.le_of_ble_eq_true rfl) ⟨by decide, by decide⟩ (fun σ_6 q_6 => ?_)
      replace q_6 : σ_6 = (puS (sJ (sI (sI (sN σ (0) 0 (nI (0))) (22) ((nqT σ N t).1)) (23) ((nqT σ N t).2.1)) (24) ((nqT σ N t).2.2.1)) (nqE σ N) q9) := q_6
      rw [q_6]
      clear q_6
      exact g_return C hr hlk dX11_nearest_425 (Or.inr ⟨q9, nqT σ N t, hb_q9, rfl, rfl⟩)
    · replace c_4 := (not_congr (nI_leI (by omega) (by omega))).mp c_4
      refine g_iconst (pc9 := 120) C rfl ((-1)) dX11_nearest_119 rfl ?_
      refine g_istore (pc9 := 122) C rfl [(4, .int ((-1))), (3, .int (nI (N - t))), (2, .int (nI (N + t))), (0, .ref (w.1 (0))), (1, .int (nI (q9)))] dX11_nearest_120 (by decide) rfl ?_
      refine g_iconst (pc9 := 123) C rfl ((-1)) dX11_nearest_122 rfl ?_
      refine g_istore (pc9 := 125) C rfl [(5, .int ((-1))), (4, .int ((-1))), (3, .int (nI (N - t))), (2, .int (nI (N + t))), (0, .ref (w.1 (0))), (1, .int (nI (q9)))] dX11_nearest_123 (by decide) rfl ?_
      refine g_lconst (pc9 := 126) C rfl (0) dX11_nearest_125 rfl ?_
      refine g_lstore (pc9 := 128) C rfl [(6, .long ((0))), (5, .int ((-1))), (4, .int ((-1))), (3, .int (nI (N - t))), (2, .int (nI (N + t))), (0, .ref (w.1 (0))), (1, .int (nI (q9)))] dX11_nearest_126 (by decide) rfl ?_
      refine g_iconst (pc9 := 129) C rfl (nI (0)) dX11_nearest_128 rfl ?_
      refine g_istore (pc9 := 131) C rfl [(8, .int (nI (0))), (6, .long ((0))), (5, .int ((-1))), (4, .int ((-1))), (3, .int (nI (N - t))), (2, .int (nI (N + t))), (0, .ref (w.1 (0))), (1, .int (nI (q9)))] dX11_nearest_129 (by decide) rfl ?_
      refine g_sub [0, 3, 2, 1, 4, 5, 6, 7] [(8, .int (nI (0))), (4, .int ((-1))), (5, .int ((-1))), (6, .long ((0))), (3, .int (nI (N - t))), (2, .int (nI (N + t))), (0, .ref (w.1 (0))), (1, .int (nI (q9)))] rfl ?_
      refine m14_choose C σ N hN h12 q9 (N - t) (N + t) (by omega) (by omega) (by omega) (nqT σ N t) ?_
      obtain ⟨x9, y9, hx9, hy9, hxy, ex, ey⟩ := hX t (by omega)
      have hT : nqT σ N (t + 1) = nqN x9 y9 (N + t) (nqT σ N t) := by show nqN (nqK N (nqT σ N t) t).1.toNatClampNeg (nqK N (nqT σ N t) t).2.1.toNatClampNeg _ _ = _; rw [ex, ey, nI_clamp (by omega), nI_clamp (by omega)]
      refine g_lv (lv9 := [(4, .int (nI (x9))), (5, .int (nI (y9))), (6, .long ((nqK N (nqT σ N t) t).2.2)), (3, .int (nI (N - t))), (2, .int (nI (N + t))), (0, .ref (w.1 (0))), (1, .int (nI (q9)))]) (by rw [← ex, ← ey]) ?_
      refine g_aload_n (pc9 := 258) C rfl 5 dX11_nearest_257 rfl rfl ?_
      refine g_get (v := .ref (w.1 (22))) (pc9 := 261) C rfl (0) 31 dX11_nearest_258 (by decide) (ce_0 w (sN (sI (sJ (sI (sI (sN σ (0) 0 (nI (0))) (22) ((nqT σ N (t)).1)) (23) ((nqT σ N (t)).2.1)) (24) ((nqT σ N (t)).2.2.1)) (13) ((nqT σ N (t)).2.2.2.2)) (0) 21 (nI ((nqT σ N (t)).2.2.2.1)))) hin_11 hl_82 rfl (by decide) rfl rfl ?_
      refine g_iload_n (pc9 := 262) C rfl 4 dX11_nearest_261 rfl rfl ?_
      refine g_aload_n (pc9 := 263) C rfl 5 dX11_nearest_262 rfl rfl ?_
      refine g_get (v := .ref (w.1 (22))) (pc9 := 266) C rfl (0) 31 dX11_nearest_263 (by decide) (ce_0 w (sN (sI (sJ (sI (sI (sN σ (0) 0 (nI (0))) (22) ((nqT σ N (t)).1)) (23) ((nqT σ N (t)).2.1)) (24) ((nqT σ N (t)).2.2.1)) (13) ((nqT σ N (t)).2.2.2.2)) (0) 21 (nI ((nqT σ N (t)).2.2.2.1)))) hin_11 hl_82 rfl (by decide) rfl rfl ?_
      refine g_iload (pc9 := 268) C rfl 0 dX11_nearest_266 rfl ?_
      refine g_iald (x := ((nqT σ N (t)).1) (x9)) (pc9 := 269) C rfl (22) (x9) dX11_nearest_268 (by decide) (ce_22 w (sN (sI (sJ (sI (sI (sN σ (0) 0 (nI (0))) (22) ((nqT σ N (t)).1)) (23) ((nqT σ N (t)).2.1)) (24) ((nqT σ N (t)).2.2.1)) (13) ((nqT σ N (t)).2.2.2.2)) (0) 21 (nI ((nqT σ N (t)).2.2.2.1)))) rfl (by omega) (by decide) (congrFun (((((iA_N).trans (iA_n (by decide))).trans (iA_J)).trans (iA_n (by decide))).trans (iA_s)) _) ?_
      refine g_aload_n (pc9 := 270) C rfl 5 dX11_nearest_269 rfl rfl ?_
      refine g_get (v := .ref (w.1 (22))) (pc9 := 273) C rfl (0) 31 dX11_nearest_270 (by decide) (ce_0 w (sN (sI (sJ (sI (sI (sN σ (0) 0 (nI (0))) (22) ((nqT σ N (t)).1)) (23) ((nqT σ N (t)).2.1)) (24) ((nqT σ N (t)).2.2.1)) (13) ((nqT σ N (t)).2.2.2.2)) (0) 21 (nI ((nqT σ N (t)).2.2.2.1)))) hin_11 hl_82 rfl (by decide) rfl rfl ?_
      refine g_iload (pc9 := 275) C rfl 1 dX11_nearest_273 rfl ?_
      refine g_iald (x := ((nqT σ N (t)).1) (y9)) (pc9 := 276) C rfl (22) (y9) dX11_nearest_275 (by decide) (ce_22 w (sN (sI (sJ (sI (sI (sN σ (0) 0 (nI (0))) (22) ((nqT σ N (t)).1)) (23) ((nqT σ N (t)).2.1)) (24) ((nqT σ N (t)).2.2.1)) (13) ((nqT σ N (t)).2.2.2.2)) (0) 21 (nI ((nqT σ N (t)).2.2.2.1)))) rfl (by omega) (by decide) (congrFun (((((iA_N).trans (iA_n (by decide))).trans (iA_J)).trans (iA_n (by decide))).trans (iA_s)) _) ?_
      refine g_ior (pc9 := 277) C rfl dX11_nearest_276 ?_
      refine g_iast (pc9 := 278) C rfl (22) (N + t) ((nqT σ N (t)).1) dX11_nearest_277 (by decide) (fun _ => rfl) (ce_22 w (sN (sI (sJ (sI (sI (sN σ (0) 0 (nI (0))) (22) ((nqT σ N (t)).1)) (23) ((nqT σ N (t)).2.1)) (24) ((nqT σ N (t)).2.2.1)) (13) ((nqT σ N (t)).2.2.2.2)) (0) 21 (nI ((nqT σ N (t)).2.2.2.1)))) rfl (by omega) (by decide) (((((iA_N).trans (iA_n (by decide))).trans (iA_J)).trans (iA_n (by decide))).trans (iA_s)) ?_
      rw [sI_sN (a := 0) (k := 21) (b := 22), sI_cm (a := 13) (b := 22) (by decide), sI_sJ (a := 22) (b := 24), sI_cm (a := 23) (b := 22) (by decide), sI_sI (a := 22)]
      refine g_iconst (pc9 := 279) C rfl (nI (0)) dX11_nearest_278 rfl ?_
      refine g_istore (pc9 := 281) C rfl [(8, .int (nI (0))), (4, .int (nI (x9))), (5, .int (nI (y9))), (6, .long ((nqK N (nqT σ N t) t).2.2)), (3, .int (nI (N - t))), (2, .int (nI (N + t))), (0, .ref (w.1 (0))), (1, .int (nI (q9)))] dX11_nearest_279 (by decide) rfl ?_
      refine g_sub [0, 1, 2, 4, 5, 6, 7] [(8, .int (nI (0))), (4, .int (nI (x9))), (5, .int (nI (y9))), (3, .int (nI (N - t))), (2, .int (nI (N + t))), (0, .ref (w.1 (0))), (1, .int (nI (q9)))] rfl ?_
      refine m14_merge C σ q9 (N - t) (N + t) x9 y9 (by omega) (by omega) (by omega) (nqT σ N t) ?_
      refine g_aload_n (pc9 := 355) C rfl 4 dX11_nearest_354 rfl rfl ?_
      refine g_get (v := .ref (w.1 (24))) (pc9 := 358) C rfl (0) 33 dX11_nearest_355 (by decide) (ce_0 w (sN (sI (sJ (sI (sI (sN σ (0) 0 (nI (0))) (22) (upd (nqT σ N t).1 (N + t) ((nqT σ N t).1 x9 ||| (nqT σ N t).1 y9))) (23) ((nqT σ N t).2.1)) (24) (nqF x9 y9 (N + t) (nqT σ N t).2.2.1 (N + t))) (13) ((nqT σ N t).2.2.2.2)) (0) 21 (nI ((nqT σ N t).2.2.2.1)))) hin_11 hl_88 rfl (by decide) rfl rfl ?_
      refine g_bipush (pc9 := 360) C rfl (nI (24)) dX11_nearest_358 rfl ?_
      refine g_iload_n (pc9 := 361) C rfl 3 dX11_nearest_360 rfl rfl ?_
      refine g_imulN (pc9 := 362) C rfl dX11_nearest_361 ?_
      refine g_iload_n (pc9 := 363) C rfl 3 dX11_nearest_362 rfl rfl ?_
      refine g_iaddN (pc9 := 364) C rfl dX11_nearest_363 ?_
      refine g_lconst (pc9 := 365) C rfl (0) dX11_nearest_364 rfl ?_
      refine g_last (pc9 := 366) C rfl (24) ((24 * (N + t)) + (N + t)) (nqF x9 y9 (N + t) (nqT σ N t).2.2.1 (N + t)) dX11_nearest_365 (by decide) (fun _ => rfl) (ce_24 w (sN (sI (sJ (sI (sI (sN σ (0) 0 (nI (0))) (22) (upd (nqT σ N t).1 (N + t) ((nqT σ N t).1 x9 ||| (nqT σ N t).1 y9))) (23) ((nqT σ N t).2.1)) (24) (nqF x9 y9 (N + t) (nqT σ N t).2.2.1 (N + t))) (13) ((nqT σ N t).2.2.2.2)) (0) 21 (nI ((nqT σ N t).2.2.2.1)))) rfl (by omega) (by decide) (((jA_N).trans (jA_I)).trans (jA_s)) ?_
      rw [sJ_sN (a := 0) (k := 21) (b := 24), sJ_sI (a := 13) (b := 24), sJ_sJ (a := 24)]
      refine g_aload_n (pc9 := 367) C rfl 4 dX11_nearest_366 rfl rfl ?_
      refine g_get (v := .ref (w.1 (23))) (pc9 := 370) C rfl (0) 32 dX11_nearest_367 (by decide) (ce_0 w (sN (sI (sJ (sI (sI (sN σ (0) 0 (nI (0))) (22) (upd (nqT σ N t).1 (N + t) ((nqT σ N t).1 x9 ||| (nqT σ N t).1 y9))) (23) ((nqT σ N t).2.1)) (24) (vp_updL (nqF x9 y9 (N + t) (nqT σ N t).2.2.1 (N + t)) ((24 * (N + t)) + (N + t)) ((0)))) (13) ((nqT σ N t).2.2.2.2)) (0) 21 (nI ((nqT σ N t).2.2.2.1)))) hin_11 hl_85 rfl (by decide) rfl rfl ?_
      refine g_iload (pc9 := 372) C rfl 0 dX11_nearest_370 rfl ?_
      refine g_iconst (pc9 := 373) C rfl (nI (0)) dX11_nearest_372 rfl ?_
      refine g_zast (pc9 := 374) C rfl (23) (x9) ((nqT σ N t).2.1) dX11_nearest_373 (by decide) (fun _ => rfl) (ce_23 w (sN (sI (sJ (sI (sI (sN σ (0) 0 (nI (0))) (22) (upd (nqT σ N t).1 (N + t) ((nqT σ N t).1 x9 ||| (nqT σ N t).1 y9))) (23) ((nqT σ N t).2.1)) (24) (vp_updL (nqF x9 y9 (N + t) (nqT σ N t).2.2.1 (N + t)) ((24 * (N + t)) + (N + t)) ((0)))) (13) ((nqT σ N t).2.2.2.2)) (0) 21 (nI ((nqT σ N t).2.2.2.1)))) rfl (by omega) (by decide) ((((iA_N).trans (iA_n (by decide))).trans (iA_J)).trans (iA_s)) ?_
      rw [sI_sN (a := 0) (k := 21) (b := 23), sI_cm (a := 13) (b := 23) (by decide), sI_sJ (a := 23) (b := 24), sI_sI (a := 23)]
      refine g_aload_n (pc9 := 375) C rfl 4 dX11_nearest_374 rfl rfl ?_
      refine g_get (v := .ref (w.1 (23))) (pc9 := 378) C rfl (0) 32 dX11_nearest_375 (by decide) (ce_0 w (sN (sI (sJ (sI (sI (sN σ (0) 0 (nI (0))) (22) (upd (nqT σ N t).1 (N + t) ((nqT σ N t).1 x9 ||| (nqT σ N t).1 y9))) (23) (upd ((nqT σ N t).2.1) (x9) (vp_nar .boolean (nI (0))))) (24) (vp_updL (nqF x9 y9 (N + t) (nqT σ N t).2.2.1 (N + t)) ((24 * (N + t)) + (N + t)) ((0)))) (13) ((nqT σ N t).2.2.2.2)) (0) 21 (nI ((nqT σ N t).2.2.2.1)))) hin_11 hl_85 rfl (by decide) rfl rfl ?_
      refine g_iload (pc9 := 380) C rfl 1 dX11_nearest_378 rfl ?_
      refine g_iconst (pc9 := 381) C rfl (nI (0)) dX11_nearest_380 rfl ?_
      refine g_zast (pc9 := 382) C rfl (23) (y9) (upd ((nqT σ N t).2.1) (x9) (vp_nar .boolean (nI (0)))) dX11_nearest_381 (by decide) (fun _ => rfl) (ce_23 w (sN (sI (sJ (sI (sI (sN σ (0) 0 (nI (0))) (22) (upd (nqT σ N t).1 (N + t) ((nqT σ N t).1 x9 ||| (nqT σ N t).1 y9))) (23) (upd ((nqT σ N t).2.1) (x9) (vp_nar .boolean (nI (0))))) (24) (vp_updL (nqF x9 y9 (N + t) (nqT σ N t).2.2.1 (N + t)) ((24 * (N + t)) + (N + t)) ((0)))) (13) ((nqT σ N t).2.2.2.2)) (0) 21 (nI ((nqT σ N t).2.2.2.1)))) rfl (by omega) (by decide) ((((iA_N).trans (iA_n (by decide))).trans (iA_J)).trans (iA_s)) ?_
      rw [sI_sN (a := 0) (k := 21) (b := 23), sI_cm (a := 13) (b := 23) (by decide), sI_sJ (a := 23) (b := 24), sI_sI (a := 23)]
      refine g_aload_n (pc9 := 383) C rfl 4 dX11_nearest_382 rfl rfl ?_
      refine g_get (v := .ref (w.1 (23))) (pc9 := 386) C rfl (0) 32 dX11_nearest_383 (by decide) (ce_0 w (sN (sI (sJ (sI (sI (sN σ (0) 0 (nI (0))) (22) (upd (nqT σ N t).1 (N + t) ((nqT σ N t).1 x9 ||| (nqT σ N t).1 y9))) (23) (upd (upd ((nqT σ N t).2.1) (x9) (vp_nar .boolean (nI (0)))) (y9) (vp_nar .boolean (nI (0))))) (24) (vp_updL (nqF x9 y9 (N + t) (nqT σ N t).2.2.1 (N + t)) ((24 * (N + t)) + (N + t)) ((0)))) (13) ((nqT σ N t).2.2.2.2)) (0) 21 (nI ((nqT σ N t).2.2.2.1)))) hin_11 hl_85 rfl (by decide) rfl rfl ?_
      refine g_iload_n (pc9 := 387) C rfl 3 dX11_nearest_386 rfl rfl ?_
      refine g_iconst (pc9 := 388) C rfl (nI (1)) dX11_nearest_387 rfl ?_
      refine g_zast (pc9 := 389) C rfl (23) (N + t) (upd (upd ((nqT σ N t).2.1) (x9) (vp_nar .boolean (nI (0)))) (y9) (vp_nar .boolean (nI (0)))) dX11_nearest_388 (by decide) (fun _ => rfl) (ce_23 w (sN (sI (sJ (sI (sI (sN σ (0) 0 (nI (0))) (22) (upd (nqT σ N t).1 (N + t) ((nqT σ N t).1 x9 ||| (nqT σ N t).1 y9))) (23) (upd (upd ((nqT σ N t).2.1) (x9) (vp_nar .boolean (nI (0)))) (y9) (vp_nar .boolean (nI (0))))) (24) (vp_updL (nqF x9 y9 (N + t) (nqT σ N t).2.2.1 (N + t)) ((24 * (N + t)) + (N + t)) ((0)))) (13) ((nqT σ N t).2.2.2.2)) (0) 21 (nI ((nqT σ N t).2.2.2.1)))) rfl (by omega) (by decide) ((((iA_N).trans (iA_n (by decide))).trans (iA_J)).trans (iA_s)) ?_
      rw [sI_sN (a := 0) (k := 21) (b := 23), sI_cm (a := 13) (b := 23) (by decide), sI_sJ (a := 23) (b := 24), sI_sI (a := 23)]
      refine g_aload_n (pc9 := 390) C rfl 4 dX11_nearest_389 rfl rfl ?_
      refine g_aload_n (pc9 := 391) C rfl 4 dX11_nearest_390 rfl rfl ?_
      refine g_get (v := .ref (w.1 (22))) (pc9 := 394) C rfl (0) 31 dX11_nearest_391 (by decide) (ce_0 w (sN (sI (sJ (sI (sI (sN σ (0) 0 (nI (0))) (22) (upd (nqT σ N t).1 (N + t) ((nqT σ N t).1 x9 ||| (nqT σ N t).1 y9))) (23) (upd (upd (upd ((nqT σ N t).2.1) (x9) (vp_nar .boolean (nI (0)))) (y9) (vp_nar .boolean (nI (0)))) (N + t) (vp_nar .boolean (nI (1))))) (24) (vp_updL (nqF x9 y9 (N + t) (nqT σ N t).2.2.1 (N + t)) ((24 * (N + t)) + (N + t)) ((0)))) (13) ((nqT σ N t).2.2.2.2)) (0) 21 (nI ((nqT σ N t).2.2.2.1)))) hin_11 hl_82 rfl (by decide) rfl rfl ?_
      refine g_iload_n (pc9 := 395) C rfl 3 dX11_nearest_394 rfl rfl ?_
      refine g_iald (x := (nqT σ N t).1 x9 ||| (nqT σ N t).1 y9) (pc9 := 396) C rfl (22) (N + t) dX11_nearest_395 (by decide) (ce_22 w (sN (sI (sJ (sI (sI (sN σ (0) 0 (nI (0))) (22) (upd (nqT σ N t).1 (N + t) ((nqT σ N t).1 x9 ||| (nqT σ N t).1 y9))) (23) (upd (upd (upd ((nqT σ N t).2.1) (x9) (vp_nar .boolean (nI (0)))) (y9) (vp_nar .boolean (nI (0)))) (N + t) (vp_nar .boolean (nI (1))))) (24) (vp_updL (nqF x9 y9 (N + t) (nqT σ N t).2.2.1 (N + t)) ((24 * (N + t)) + (N + t)) ((0)))) (13) ((nqT σ N t).2.2.2.2)) (0) 21 (nI ((nqT σ N t).2.2.2.1)))) rfl (by omega) (by decide) ((congrFun (((((iA_N).trans (iA_n (by decide))).trans (iA_J)).trans (iA_n (by decide))).trans (iA_s)) _).trans pk_us) ?_
      refine g_callVv (nn := 1) (rest := []) (pc9 := 399) C rfl (0) [.int ((nqT σ N t).1 x9 ||| (nqT σ N t).1 y9)] rfl dX11_nearest_396 (m_X11_adds l w (sJ (sI (sI (sN σ (0) 0 (nI (0))) (22) (upd (nqT σ N t).1 (N + t) ((nqT σ N t).1 x9 ||| (nqT σ N t).1 y9))) (23) (upd (upd (upd ((nqT σ N t).2.1) (x9) (vp_nar .boolean (nI (0)))) (y9) (vp_nar .boolean (nI (0)))) (N + t) (vp_nar .boolean (nI (1))))) (24) (vp_updL (nqF x9 y9 (N + t) (nqT σ N t).2.2.1 (N + t)) ((24 * (N + t)) + (N + t)) ((0)))) (nqT σ N t).2.2.2 (by omega) ((nqT σ N t).1 x9 ||| (nqT σ N t).1 y9)) gX11_nearest_X11_adds (by decide) (ce_0 w (sN (sI (sJ (sI (sI (sN σ (0) 0 (nI (0))) (22) (upd (nqT σ N t).1 (N + t) ((nqT σ N t).1 x9 ||| (nqT σ N t).1 y9))) (23) (upd (upd (upd ((nqT σ N t).2.1) (x9) (vp_nar .boolean (nI (0)))) (y9) (vp_nar .boolean (nI (0)))) (N + t) (vp_nar .boolean (nI (1))))) (24) (vp_updL (nqF x9 y9 (N + t) (nqT σ N t).2.2.1 (N + t)) ((24 * (N + t)) + (N + t)) ((0)))) (13) ((nqT σ N t).2.2.2.2)) (0) 21 (nI ((nqT σ N t).2.2.2.1)))) rfl rfl rfl rfl rfl (by decide +kernel) ⟨by decide, by decide⟩ rfl (Nat.le_of_ble_eq_true rfl) ⟨by decide, by decide⟩ (fun σ_7 q_7 => ?_)
      replace q_7 : σ_7 = sN (sI (sJ (sI (sI (sN σ (0) 0 (nI (0))) (22) ((nqN x9 y9 (N + t) (nqT σ N t)).1)) (23) ((nqN x9 y9 (N + t) (nqT σ N t)).2.1)) (24) ((nqN x9 y9 (N + t) (nqT σ N t)).2.2.1)) (13) ((nqN x9 y9 (N + t) (nqT σ N t)).2.2.2.2)) (0) 21 (nI ((nqN x9 y9 (N + t) (nqT σ N t)).2.2.2.1)) := q_7
      rw [← hT] at q_7
      rw [q_7]
      refine g_iinc (pc9 := 402) C rfl [(2, .int (nI (N + t + 1))), (4, .int (nI (x9))), (5, .int (nI (y9))), (3, .int (nI (N - t))), (0, .ref (w.1 (0))), (1, .int (nI (q9)))] 3 (nI (N + t + 1)) dX11_nearest_399 rfl (nI_1 (N + t)) (by decide) rfl ?_
      refine g_iinc (pc9 := 405) C rfl [(3, .int (nI (N - t - 1))), (2, .int (nI (N + t + 1))), (4, .int (nI (x9))), (5, .int (nI (y9))), (0, .ref (w.1 (0))), (1, .int (nI (q9)))] 3 (nI (N - t - 1)) dX11_nearest_402 rfl (sb_m1 (by omega)) (by decide) rfl ?_
      refine g_goto C 114 dX11_nearest_405 rfl ?_
      refine g_sub [0, 1, 4, 5] [(3, .int (nI (N - t - 1))), (2, .int (nI (N + t + 1))), (0, .ref (w.1 (0))), (1, .int (nI (q9)))] rfl ?_
      refine g_lv (lv9 := [(3, .int (nI (N - (t + 1)))), (2, .int (nI (N + (t + 1)))), (0, .ref (w.1 (0))), (1, .int (nI (q9)))]) (by rw [show N - t - 1 = N - (t + 1) by omega, show N + t + 1 = N + (t + 1) by omega]) ?_
      exact ih0 (t + 1) (by omega) (by omega)
  · have hns : ¬ okI 8 u := pI_ye c_3
    refine g_st (σ9 := sN σ (0) 0 (nI (1))) ((qt_2 hns).trans (by show sN (sN σ (0) 0 (nI (0))) (0) 0 (nI (1)) = sN σ (0) 0 (nI (1)); rw [sN_sN])) ?_
    exact g_return C hr hlk dX11_nearest_17 (Or.inl ⟨hns, rfl⟩)

/-! Triples: those shown; joining -/
abbrev shP (σ : St) (j n : Nat) (x y : Int32) : Prop := (if tN σ j = 0 then 0 else tC σ j 0) &&& (x ||| y) = x ||| y ∧ ∃ v, v < n ∧ tC σ j v &&& (x ||| y) = x
noncomputable def cntU (q : Nat → Prop) : Nat → Nat
  | 0 => 0
  | t + 1 => cI (q t) (cntU q t + 1) (cntU q t)
theorem cntU_y {q : Nat → Prop} {t : Nat} (h : q t) : cntU q (t + 1) = cntU q t + 1 := cI_t h
theorem cntU_n {q : Nat → Prop} {t : Nat} (h : ¬ q t) : cntU q (t + 1) = cntU q t := cI_f h
theorem cntU_le {q : Nat → Prop} : ∀ t, cntU q t ≤ t
  | 0 => Nat.le_refl _
  | t + 1 => by
    by_cases h : q t
    · rw [cntU_y h]; have := cntU_le (q := q) t; omega
    · rw [cntU_n h]; have := cntU_le (q := q) t; omega
set_option maxRecDepth 100000 in
set_option maxHeartbeats 4000000 in
theorem m_X8_shownBy (l : Launch) (w : Wd) (σ : St) (z : Nat) (hz : nF σ 43 2 = nI z) (h : z ≤ 80) (j : Nat) (hj : j < 9) (n : Nat) (hn : tN σ j = nI n) (h47 : n ≤ 47) : MI l yX8_shownBy wsX8_shownBy (rmL 3) w [.ref (w.1 (43)), .ref (w.1 (64 + 5 * j))] (σ) (fun r σ9 => σ9 = σ ∧ r = nI (cntU (fun t => shP σ j n (iA σ 44 t) (iA σ 45 t)) z)) := by
  refine MI_of (cc := cX8_shownBy) (maxL := 4) (ret := .int) (by decide) rfl (Nat.le_of_ble_eq_true rfl) ?_
  intro p e s m args below meth c A C hr hlk
  have C : Cx p s m args c w A cX8_shownBy RX8 4 wsX8_shownBy := C
  have hin_8 : ∀ u ∈ wsX80, u ∈ wsX8_shownBy := by decide +kernel
  have hl_9 : Cond.fieldLink RX8 9 "LineageBench$Triples" "pairs" "[I" ∈ wsX8_shownBy := by decide +kernel
  have hl_15 : Cond.fieldLink RX8 15 "LineageBench$Triples" "thirds" "[I" ∈ wsX8_shownBy := by decide +kernel
  have hl_18 : Cond.fieldLink RX8 18 "LineageBench$Triples" "size" "I" ∈ wsX8_shownBy := by decide +kernel
  refine g_iconst (pc9 := 1) C rfl (nI (0)) dX8_shownBy_0 rfl ?_
  refine g_istore_n (pc9 := 2) C rfl [(2, .int (nI (0))), (0, .ref (w.1 (43))), (1, .ref (w.1 (64 + 5 * j)))] dX8_shownBy_1 rfl (by decide) rfl ?_
  refine g_iconst (pc9 := 3) C rfl (nI (0)) dX8_shownBy_2 rfl ?_
  refine g_istore_n (pc9 := 4) C rfl [(3, .int (nI (0))), (2, .int (nI (0))), (0, .ref (w.1 (43))), (1, .ref (w.1 (64 + 5 * j)))] dX8_shownBy_3 rfl (by decide) rfl ?_
  refine g_sub [0, 1, 2, 3] [(3, .int (nI (0))), (2, .int (nI (0))), (0, .ref (w.1 (43))), (1, .ref (w.1 (64 + 5 * j)))] rfl ?_
  refine g_lp1 (α := Nat) (fun t => t ≤ z) (fun t => z - t) (fun t => G p l e _ s m args below meth c _ w A _ (σ) 0 0 4 [(3, .int (nI (t))), (2, .int (nI (cntU (fun t => shP σ j n (iA σ 44 t) (iA σ 45 t)) t))), (0, .ref (w.1 (43))), (1, .ref (w.1 (64 + 5 * j)))] []) (fun t hI ih => ?_) (0) (Nat.zero_le _)
  obtain ht := hI
  refine g_iload_n (pc9 := 5) C rfl 0 dX8_shownBy_4 rfl rfl ?_
  refine g_aload_n (pc9 := 6) C rfl 2 dX8_shownBy_5 rfl rfl ?_
  refine g_get (v := .int (nI (z))) (pc9 := 9) C rfl (43) 2 dX8_shownBy_6 (by decide) (ce_43 w (σ)) hin_8 hl_18 rfl (by decide) rfl (congrArg (fun z => some (Value.int z)) hz) ?_
  refine g_icmp_ge (pc9 := 12) C rfl 40 dX8_shownBy_9 rfl (fun c_1 => ?_) (fun c_1 => ?_)
  · replace c_1 := (nI_leI (by omega) (by omega)).mp c_1
    refine g_iload_n (pc9 := 41) C rfl 1 dX8_shownBy_40 rfl rfl ?_
    exact g_ireturn C hr hlk dX8_shownBy_41 ⟨rfl, by rw [show t = z by omega]⟩
  · replace c_1 := (not_congr (nI_leI (by omega) (by omega))).mp c_1
    refine g_aload_n (pc9 := 13) C rfl 3 dX8_shownBy_12 rfl rfl ?_
    refine g_aload_n (pc9 := 14) C rfl 2 dX8_shownBy_13 rfl rfl ?_
    refine g_get (v := .ref (w.1 (44))) (pc9 := 17) C rfl (43) 0 dX8_shownBy_14 (by decide) (ce_43 w (σ)) hin_8 hl_9 rfl (by decide) rfl rfl ?_
    refine g_iload_n (pc9 := 18) C rfl 0 dX8_shownBy_17 rfl rfl ?_
    refine g_iald (x := (iA σ (44)) (t)) (pc9 := 19) C rfl (44) (t) dX8_shownBy_18 (by decide) (ce_44 w (σ)) rfl (by omega) (by decide) rfl ?_
    refine g_aload_n (pc9 := 20) C rfl 2 dX8_shownBy_19 rfl rfl ?_
    refine g_get (v := .ref (w.1 (45))) (pc9 := 23) C rfl (43) 1 dX8_shownBy_20 (by decide) (ce_43 w (σ)) hin_8 hl_15 rfl (by decide) rfl rfl ?_
    refine g_iload_n (pc9 := 24) C rfl 0 dX8_shownBy_23 rfl rfl ?_
    refine g_iald (x := (iA σ (45)) (t)) (pc9 := 25) C rfl (45) (t) dX8_shownBy_24 (by decide) (ce_45 w (σ)) rfl (by omega) (by decide) rfl ?_
    refine g_callVi (nn := 2) (rest := []) (pc9 := 28) C rfl (64 + 5 * j) [.int ((iA σ (44)) (t)), .int ((iA σ (45)) (t))] rfl dX8_shownBy_25 (m_X7_shows l w σ j hj n hn h47 ((iA σ (44)) (t)) ((iA σ (45)) (t))) gX8_shownBy_X7_shows (by omega) (ce_tree w (σ) (j)) rfl rfl rfl rfl rfl (by decide +kernel) ⟨by decide, by decide⟩ rfl (Nat.le_of_ble_eq_true rfl) ⟨by decide, by decide⟩ (fun r_2 σ_2 q_2 => ?_)
    obtain ⟨qs_2, qr_2⟩ := q_2
    rw [qs_2, qr_2]
    clear qs_2 qr_2
    refine g_if_eq (pc9 := 31) C rfl 34 dX8_shownBy_28 rfl (fun c_3 => ?_) (fun c_3 => ?_)
    · have hst : cntU (fun t => shP σ j n (iA σ 44 t) (iA σ 45 t)) (t + 1) = cntU (fun t => shP σ j n (iA σ 44 t) (iA σ 45 t)) t := cntU_n (pI_no c_3)
      refine g_iinc (pc9 := 37) C rfl [(3, .int (nI (t + 1))), (2, .int (nI (cntU (fun t => shP σ j n (iA σ 44 t) (iA σ 45 t)) t))), (0, .ref (w.1 (43))), (1, .ref (w.1 (64 + 5 * j)))] 0 (nI (t + 1)) dX8_shownBy_34 rfl (nI_1 (t)) (by decide) rfl ?_
      refine g_goto C 4 dX8_shownBy_37 rfl ?_
      refine g_sub [0, 1, 2, 3] [(3, .int (nI (t + 1))), (2, .int (nI (cntU (fun t => shP σ j n (iA σ 44 t) (iA σ 45 t)) t))), (0, .ref (w.1 (43))), (1, .ref (w.1 (64 + 5 * j)))] rfl ?_
      rw [← hst]
      exact ih (t + 1) (by omega) (by omega)
    · have hst : cntU (fun t => shP σ j n (iA σ 44 t) (iA σ 45 t)) (t + 1) = cntU (fun t => shP σ j n (iA σ 44 t) (iA σ 45 t)) t + 1 := cntU_y (pI_ye c_3)
      refine g_iinc (pc9 := 34) C rfl [(2, .int (nI (cntU (fun t => shP σ j n (iA σ 44 t) (iA σ 45 t)) t + 1))), (3, .int (nI (t))), (0, .ref (w.1 (43))), (1, .ref (w.1 (64 + 5 * j)))] 1 (nI (cntU (fun t => shP σ j n (iA σ 44 t) (iA σ 45 t)) t + 1)) dX8_shownBy_31 rfl (nI_1 (cntU (fun t => shP σ j n (iA σ 44 t) (iA σ 45 t)) t)) (by decide) rfl ?_
      refine g_iinc (pc9 := 37) C rfl [(3, .int (nI (t + 1))), (2, .int (nI (cntU (fun t => shP σ j n (iA σ 44 t) (iA σ 45 t)) t + 1))), (0, .ref (w.1 (43))), (1, .ref (w.1 (64 + 5 * j)))] 1 (nI (t + 1)) dX8_shownBy_34 rfl (nI_1 (t)) (by decide) rfl ?_
      refine g_goto C 4 dX8_shownBy_37 rfl ?_
      refine g_sub [0, 1, 2, 3] [(3, .int (nI (t + 1))), (2, .int (nI (cntU (fun t => shP σ j n (iA σ 44 t) (iA σ 45 t)) t + 1))), (0, .ref (w.1 (43))), (1, .ref (w.1 (64 + 5 * j)))] rfl ?_
      rw [← hst]
      exact ih (t + 1) (by omega) (by omega)
abbrev Fam : Type := Nat × (Nat → Int32)
noncomputable def addF (F : Fam) (x : Int32) : Fam := (famZ F.1 F.2 x, famF F.1 F.2 x)
noncomputable def jnL (rec : Int32 → Fam → Int32 × Fam) (pw : Int32 → Int32) (x : Int32) : Nat → Int32 → Fam → Int32 × Fam
  | 0, _, F => (nI 0, F)
  | k + 1, y, F => if y = 0 then (nI 0, F) else if pw y = x then (x, F) else if (rec (pw y) F).1 = 0 then jnL rec pw x k (y &&& (pw y ^^^ (-1))) (rec (pw y) F).2 else rec (pw y) F
noncomputable def jn (pw : Int32 → Int32 → Int32) : Nat → Int32 → Fam → Int32 × Fam
  | 0, x, F => (nI 0, addF F x)
  | d + 1, x, F => if bC x < nI 2 then (nI 0, addF F x) else jnL (jn pw d) (fun y => pw y x) x 12 x (addF F x)
theorem jnL_s {rec : Int32 → Fam → Int32 × Fam} {pw : Int32 → Int32} {x y : Int32} {v : Nat} {F : Fam} (h : v < 12) : jnL rec pw x (12 - v) y F = if y = 0 then (nI 0, F) else if pw y = x then (x, F) else if (rec (pw y) F).1 = 0 then jnL rec pw x (12 - (v + 1)) (y &&& (pw y ^^^ (-1))) (rec (pw y) F).2 else rec (pw y) F := by
  rw [show 12 - v = (12 - (v + 1)) + 1 by omega]
  rfl
theorem jnL_le {rec : Int32 → Fam → Int32 × Fam} {pw : Int32 → Int32} {x : Int32} (hr : ∀ x F, F.1 ≤ 47 → (rec x F).2.1 ≤ 47) : ∀ (k : Nat) (y : Int32) (F : Fam), F.1 ≤ 47 → (jnL rec pw x k y F).2.1 ≤ 47 := by
  intro k
  induction k with
  | zero => intro y F h; exact h
  | succ k ih =>
    intro y F h
    show (if y = 0 then (nI 0, F) else if pw y = x then (x, F) else if (rec (pw y) F).1 = 0 then jnL rec pw x k (y &&& (pw y ^^^ (-1))) (rec (pw y) F).2 else rec (pw y) F).2.1 ≤ 47
    split
    · exact h
    · split
      · exact h
      · split
        · exact ih _ _ (hr _ _ h)
        · exact hr _ _ h
theorem jn_le {pw : Int32 → Int32 → Int32} : ∀ (d : Nat) (x : Int32) (F : Fam), F.1 ≤ 47 → (jn pw d x F).2.1 ≤ 47 := by
  intro d
  induction d with
  | zero => intro x F h; exact famZ_le h
  | succ d ih =>
    intro x F h
    show (if bC x < nI 2 then (nI 0, addF F x) else jnL (jn pw d) (fun y => pw y x) x 12 x (addF F x)).2.1 ≤ 47
    split
    · exact famZ_le h
    · exact jnL_le ih _ _ _ (famZ_le h)
abbrev faS (σ : St) (F : Fam) : St := famSt σ F.1 F.2
set_option maxRecDepth 100000 in
set_option maxHeartbeats 4000000 in
theorem m_X8_joinSet (l : Launch) (w : Wd) (z : Nat) (h : z ≤ 80) : ∀ (d : Nat) (σ : St) (hz : nF σ 43 2 = nI z) (F : Fam) (hF : F.1 ≤ 47) (x : Int32) (e9 : Nat) (he : e9 + d = 13), MI l yX8_joinSet wsX8_joinSet (rmL (d + 3)) w [.ref (w.1 43), .int x, .ref (w.1 41), .int (nI e9)] (faS σ F) (fun r σ9 => σ9 = faS σ (jn (pwT (iA σ 44) (iA σ 45) z) d x F).2 ∧ r = (jn (pwT (iA σ 44) (iA σ 45) z) d x F).1) := by
  intro d
  induction d with
  | zero =>
    intro σ hz F hF x e9 he
    refine MI_of (cc := cX8_joinSet) (maxL := 8) (ret := .int) (by decide) rfl (Nat.le_of_ble_eq_true rfl) ?_
    intro p e s m args below meth c A C hr hlk
    have C : Cx p s m args c w A cX8_joinSet RX8 8 wsX8_joinSet := C
    refine g_aload_n (pc9 := 1) C rfl 2 dX8_joinSet_0 rfl rfl ?_
    refine g_iload_n (pc9 := 2) C rfl 1 dX8_joinSet_1 rfl rfl ?_
    refine g_callVv (nn := 1) (rest := []) (pc9 := 5) C rfl (41) [.int (x)] rfl dX8_joinSet_2 (m_X1_addCluster l w σ _ _ hF x) gX8_joinSet_X1_addCluster (by decide) (ce_41 w (sN (sI σ (42) ((F).2)) (41) 1 (nI ((F).1)))) rfl rfl rfl rfl rfl (by decide +kernel) ⟨by simp only [rmL]; omega, by simp only [rmL]; omega⟩ rfl (Nat.le_of_ble_eq_true rfl) ⟨Nat.le_refl _, Nat.le_refl _⟩ (fun σ_1 q_1 => ?_)
    replace q_1 : σ_1 = sN (sI σ (42) ((addF F x).2)) (41) 1 (nI ((addF F x).1)) := q_1
    rw [q_1]
    clear q_1
    refine g_iload_n (pc9 := 6) C rfl 1 dX8_joinSet_5 rfl rfl ?_
    refine g_callSi (nn := 1) (rest := []) (pc9 := 9) C rfl [.int (x)] rfl dX8_joinSet_6 (m_bitCount l w _ (x)) gX8_joinSet_J6_bitCount_0f7a4 rfl rfl rfl (by decide +kernel) ⟨by simp only [rmL]; omega, by simp only [rmL]; omega⟩ rfl (Nat.le_of_ble_eq_true rfl) ⟨Nat.le_refl _, Nat.le_refl _⟩ (fun r_2 σ_2 q_2 => ?_)
    obtain ⟨qs_2, qr_2⟩ := q_2
    rw [qs_2, qr_2]
    clear qs_2 qr_2
    refine g_iconst (pc9 := 10) C rfl (nI (2)) dX8_joinSet_9 rfl ?_
    refine g_icmp_lt (pc9 := 13) C rfl 19 dX8_joinSet_10 rfl (fun c_3 => ?_) (fun c_3 => ?_)
    · have hb := c_3
      refine g_iconst (pc9 := 20) C rfl (nI (0)) dX8_joinSet_19 rfl ?_
      exact g_ireturn C hr hlk dX8_joinSet_20 ⟨rfl, rfl⟩
    · have hb := c_3
      refine g_iload_n (pc9 := 14) C rfl 3 dX8_joinSet_13 rfl rfl ?_
      refine g_bipush (pc9 := 16) C rfl (nI (12)) dX8_joinSet_14 rfl ?_
      refine g_icmp_le (pc9 := 19) C rfl 21 dX8_joinSet_16 rfl (fun c_4 => ?_) (fun c_4 => ?_)
      · replace c_4 := (nI_leI (by omega) (by omega)).mp c_4
        exact absurd he (by omega)
      · replace c_4 := (not_congr (nI_leI (by omega) (by omega))).mp c_4
        refine g_iconst (pc9 := 20) C rfl (nI (0)) dX8_joinSet_19 rfl ?_
        exact g_ireturn C hr hlk dX8_joinSet_20 ⟨rfl, rfl⟩
  | succ d ih =>
    intro σ hz F hF x e9 he
    refine MI_of (cc := cX8_joinSet) (maxL := 8) (ret := .int) (by decide) rfl (Nat.le_of_ble_eq_true rfl) ?_
    intro p e s m args below meth c A C hr hlk
    have C : Cx p s m args c w A cX8_joinSet RX8 8 wsX8_joinSet := C
    refine g_aload_n (pc9 := 1) C rfl 2 dX8_joinSet_0 rfl rfl ?_
    refine g_iload_n (pc9 := 2) C rfl 1 dX8_joinSet_1 rfl rfl ?_
    refine g_callVv (nn := 1) (rest := []) (pc9 := 5) C rfl (41) [.int (x)] rfl dX8_joinSet_2 (m_X1_addCluster l w σ _ _ hF x) gX8_joinSet_X1_addCluster (by decide) (ce_41 w (sN (sI σ (42) ((F).2)) (41) 1 (nI ((F).1)))) rfl rfl rfl rfl rfl (by decide +kernel) ⟨by simp only [rmL]; omega, by simp only [rmL]; omega⟩ rfl (Nat.le_of_ble_eq_true rfl) ⟨Nat.le_refl _, Nat.le_refl _⟩ (fun σ_5 q_5 => ?_)
    replace q_5 : σ_5 = sN (sI σ (42) ((addF F x).2)) (41) 1 (nI ((addF F x).1)) := q_5
    rw [q_5]
    clear q_5
    refine g_iload_n (pc9 := 6) C rfl 1 dX8_joinSet_5 rfl rfl ?_
    refine g_callSi (nn := 1) (rest := []) (pc9 := 9) C rfl [.int (x)] rfl dX8_joinSet_6 (m_bitCount l w _ (x)) gX8_joinSet_J6_bitCount_0f7a4 rfl rfl rfl (by decide +kernel) ⟨by simp only [rmL]; omega, by simp only [rmL]; omega⟩ rfl (Nat.le_of_ble_eq_true rfl) ⟨Nat.le_refl _, Nat.le_refl _⟩ (fun r_6 σ_6 q_6 => ?_)
    obtain ⟨qs_6, qr_6⟩ := q_6
    rw [qs_6, qr_6]
    clear qs_6 qr_6
    refine g_iconst (pc9 := 10) C rfl (nI (2)) dX8_joinSet_9 rfl ?_
    refine g_icmp_lt (pc9 := 13) C rfl 19 dX8_joinSet_10 rfl (fun c_7 => ?_) (fun c_7 => ?_)
    · have hb := c_7
      refine g_iconst (pc9 := 20) C rfl (nI (0)) dX8_joinSet_19 rfl ?_
      exact g_ireturn C hr hlk dX8_joinSet_20 ⟨by unfold jn; rw [if_pos hb], by unfold jn; rw [if_pos hb]⟩
    · have hb := c_7
      refine g_iload_n (pc9 := 14) C rfl 3 dX8_joinSet_13 rfl rfl ?_
      refine g_bipush (pc9 := 16) C rfl (nI (12)) dX8_joinSet_14 rfl ?_
      refine g_icmp_le (pc9 := 19) C rfl 21 dX8_joinSet_16 rfl (fun c_8 => ?_) (fun c_8 => ?_)
      · replace c_8 := (nI_leI (by omega) (by omega)).mp c_8
        refine g_iload_n (pc9 := 22) C rfl 1 dX8_joinSet_21 rfl rfl ?_
        refine g_istore (pc9 := 24) C rfl [(4, .int (x)), (0, .ref (w.1 (43))), (1, .int (x)), (2, .ref (w.1 (41))), (3, .int (nI (e9)))] dX8_joinSet_22 (by decide) rfl ?_
        refine g_iconst (pc9 := 25) C rfl (nI (0)) dX8_joinSet_24 rfl ?_
        refine g_istore (pc9 := 27) C rfl [(5, .int (nI (0))), (4, .int (x)), (0, .ref (w.1 (43))), (1, .int (x)), (2, .ref (w.1 (41))), (3, .int (nI (e9)))] dX8_joinSet_25 (by decide) rfl ?_
        refine g_sub [0, 1, 2, 3, 4, 5] [(5, .int (nI (0))), (4, .int (x)), (0, .ref (w.1 (43))), (1, .int (x)), (2, .ref (w.1 (41))), (3, .int (nI (e9)))] rfl ?_
        refine g_lp3 (α := Nat) (β := Int32) (γ := Fam) (fun v y E => v ≤ 12 ∧ E.1 ≤ 47 ∧ jnL (jn (pwT (iA σ 44) (iA σ 45) z) d) (fun y => (pwT (iA σ 44) (iA σ 45) z) y x) x (12 - v) y E = jn (pwT (iA σ 44) (iA σ 45) z) (d + 1) x F) (fun v y E => 12 - v) (fun v y E => G p l e _ s m args below meth c _ w A _ (sN (sI σ (42) ((E).2)) (41) 1 (nI ((E).1))) 0 0 27 [(5, .int (nI (v))), (4, .int (y)), (0, .ref (w.1 (43))), (1, .int (x)), (2, .ref (w.1 (41))), (3, .int (nI (e9)))] []) (fun v y E hI ih2 => ?_) (0) (x) (addF F x) ⟨Nat.zero_le _, famZ_le hF, (if_neg hb).symm⟩
        obtain ⟨hv, hE, hj⟩ := hI
        refine g_iload (pc9 := 29) C rfl 0 dX8_joinSet_27 rfl ?_
        refine g_bipush (pc9 := 31) C rfl (nI (12)) dX8_joinSet_29 rfl ?_
        refine g_icmp_ge (pc9 := 34) C rfl 91 dX8_joinSet_31 rfl (fun c_9 => ?_) (fun c_9 => ?_)
        · replace c_9 := (nI_leI (by omega) (by omega)).mp c_9
          rw [show 12 - v = 0 by omega] at hj
          refine g_iconst (pc9 := 92) C rfl (nI (0)) dX8_joinSet_91 rfl ?_
          exact g_ireturn C hr hlk dX8_joinSet_92 ⟨by first | (rw [← hj]; done) | (rw [← hj]; rfl), by first | (rw [← hj]; done) | (rw [← hj]; rfl)⟩
        · replace c_9 := (not_congr (nI_leI (by omega) (by omega))).mp c_9
          refine g_iload (pc9 := 36) C rfl 1 dX8_joinSet_34 rfl ?_
          refine g_if_eq (pc9 := 39) C rfl 91 dX8_joinSet_36 rfl (fun c_10 => ?_) (fun c_10 => ?_)
          · rw [jnL_s (by omega), if_pos c_10] at hj
            refine g_iconst (pc9 := 92) C rfl (nI (0)) dX8_joinSet_91 rfl ?_
            exact g_ireturn C hr hlk dX8_joinSet_92 ⟨by first | (rw [← hj]; done) | (rw [← hj]; rfl), by first | (rw [← hj]; done) | (rw [← hj]; rfl)⟩
          · rw [jnL_s (by omega), if_neg c_10] at hj
            refine g_aload_n (pc9 := 40) C rfl 2 dX8_joinSet_39 rfl rfl ?_
            refine g_iload (pc9 := 42) C rfl 1 dX8_joinSet_40 rfl ?_
            refine g_iload_n (pc9 := 43) C rfl 3 dX8_joinSet_42 rfl rfl ?_
            refine g_callVi (nn := 2) (rest := []) (pc9 := 46) C rfl (43) [.int (y), .int (x)] rfl dX8_joinSet_43 (m_X8_partWithLeastKind l w (sN (sI σ (42) ((E).2)) (41) 1 (nI ((E).1))) z ((nF_n (by decide)).trans (nF_I.trans hz)) h (y) (x)) gX8_joinSet_X8_partWithLeastKind (by decide) (ce_43 w (sN (sI σ (42) ((E).2)) (41) 1 (nI ((E).1)))) rfl rfl rfl rfl rfl (by decide +kernel) ⟨by simp only [rmL]; omega, by simp only [rmL]; omega⟩ rfl (Nat.le_of_ble_eq_true rfl) ⟨Nat.le_refl _, Nat.le_refl _⟩ (fun r_11 σ_11 q_11 => ?_)
            obtain ⟨qs_11, qr_11⟩ := q_11
            replace qr_11 : r_11 = (pwT (iA σ 44) (iA σ 45) z) y x := qr_11
            rw [qs_11, qr_11]
            clear qs_11 qr_11
            refine g_istore (pc9 := 48) C rfl [(6, .int ((pwT (iA σ 44) (iA σ 45) z) y x)), (5, .int (nI (v))), (4, .int (y)), (0, .ref (w.1 (43))), (1, .int (x)), (2, .ref (w.1 (41))), (3, .int (nI (e9)))] dX8_joinSet_46 (by decide) rfl ?_
            refine g_iload (pc9 := 50) C rfl 0 dX8_joinSet_48 rfl ?_
            refine g_iload_n (pc9 := 51) C rfl 4 dX8_joinSet_50 rfl rfl ?_
            refine g_icmp_ne (pc9 := 54) C rfl 56 dX8_joinSet_51 rfl (fun c_12 => ?_) (fun c_12 => ?_)
            · rw [if_neg c_12] at hj
              refine g_aload_n (pc9 := 57) C rfl 3 dX8_joinSet_56 rfl rfl ?_
              refine g_iload (pc9 := 59) C rfl 0 dX8_joinSet_57 rfl ?_
              refine g_aload_n (pc9 := 60) C rfl 5 dX8_joinSet_59 rfl rfl ?_
              refine g_iload_n (pc9 := 61) C rfl 6 dX8_joinSet_60 rfl rfl ?_
              refine g_iconst (pc9 := 62) C rfl (nI (1)) dX8_joinSet_61 rfl ?_
              refine g_iaddN (pc9 := 63) C rfl dX8_joinSet_62 ?_
              refine g_callVi (nn := 3) (rest := []) (pc9 := 66) C rfl (43) [.int ((pwT (iA σ 44) (iA σ 45) z) y x), .ref (w.1 (41)), .int (nI (e9 + 1))] rfl dX8_joinSet_63 (ih σ hz E hE ((pwT (iA σ 44) (iA σ 45) z) y x) _ (by omega)) gX8_joinSet_X8_joinSet (by decide) (ce_43 w (sN (sI σ (42) ((E).2)) (41) 1 (nI ((E).1)))) rfl rfl rfl rfl rfl (by decide +kernel) ⟨by simp only [rmL]; omega, by simp only [rmL]; omega⟩ rfl (Nat.le_of_ble_eq_true rfl) ⟨Nat.le_refl _, Nat.le_refl _⟩ (fun r_13 σ_13 q_13 => ?_)
              obtain ⟨qs_13, qr_13⟩ := q_13
              rw [qs_13, qr_13]
              clear qs_13 qr_13
              refine g_istore (pc9 := 68) C rfl [(7, .int ((jn (pwT (iA σ 44) (iA σ 45) z) d ((pwT (iA σ 44) (iA σ 45) z) y x) E).1)), (6, .int ((pwT (iA σ 44) (iA σ 45) z) y x)), (5, .int (nI (v))), (4, .int (y)), (0, .ref (w.1 (43))), (1, .int (x)), (2, .ref (w.1 (41))), (3, .int (nI (e9)))] dX8_joinSet_66 (by decide) rfl ?_
              refine g_iload (pc9 := 70) C rfl 0 dX8_joinSet_68 rfl ?_
              refine g_if_eq (pc9 := 73) C rfl 76 dX8_joinSet_70 rfl (fun c_14 => ?_) (fun c_14 => ?_)
              · rw [if_pos c_14] at hj
                refine g_iload (pc9 := 78) C rfl 3 dX8_joinSet_76 rfl ?_
                refine g_iload (pc9 := 80) C rfl 1 dX8_joinSet_78 rfl ?_
                refine g_iconst (pc9 := 81) C rfl ((-1)) dX8_joinSet_80 rfl ?_
                refine g_ixor (pc9 := 82) C rfl dX8_joinSet_81 ?_
                refine g_iand (pc9 := 83) C rfl dX8_joinSet_82 ?_
                refine g_istore (pc9 := 85) C rfl [(4, .int ((y) &&& (((pwT (iA σ 44) (iA σ 45) z) y x) ^^^ ((-1))))), (7, .int ((jn (pwT (iA σ 44) (iA σ 45) z) d ((pwT (iA σ 44) (iA σ 45) z) y x) E).1)), (6, .int ((pwT (iA σ 44) (iA σ 45) z) y x)), (5, .int (nI (v))), (0, .ref (w.1 (43))), (1, .int (x)), (2, .ref (w.1 (41))), (3, .int (nI (e9)))] dX8_joinSet_83 (by decide) rfl ?_
                refine g_iinc (pc9 := 88) C rfl [(5, .int (nI (v + 1))), (4, .int ((y) &&& (((pwT (iA σ 44) (iA σ 45) z) y x) ^^^ ((-1))))), (7, .int ((jn (pwT (iA σ 44) (iA σ 45) z) d ((pwT (iA σ 44) (iA σ 45) z) y x) E).1)), (6, .int ((pwT (iA σ 44) (iA σ 45) z) y x)), (0, .ref (w.1 (43))), (1, .int (x)), (2, .ref (w.1 (41))), (3, .int (nI (e9)))] 3 (nI (v + 1)) dX8_joinSet_85 rfl (nI_1 (v)) (by decide) rfl ?_
                refine g_goto C 27 dX8_joinSet_88 rfl ?_
                refine g_sub [0, 1, 4, 5, 6, 7] [(5, .int (nI (v + 1))), (4, .int ((y) &&& (((pwT (iA σ 44) (iA σ 45) z) y x) ^^^ ((-1))))), (0, .ref (w.1 (43))), (1, .int (x)), (2, .ref (w.1 (41))), (3, .int (nI (e9)))] rfl ?_
                exact ih2 (v + 1) _ _ ⟨by omega, jn_le d _ _ hE, hj⟩ (by omega)
              · rw [if_neg c_14] at hj
                refine g_iload (pc9 := 75) C rfl 0 dX8_joinSet_73 rfl ?_
                exact g_ireturn C hr hlk dX8_joinSet_75 ⟨by first | (rw [← hj]; done) | (rw [← hj]; rfl), by first | (rw [← hj]; done) | (rw [← hj]; rfl)⟩
            · rw [if_pos c_12] at hj
              refine g_iload_n (pc9 := 55) C rfl 4 dX8_joinSet_54 rfl rfl ?_
              exact g_ireturn C hr hlk dX8_joinSet_55 ⟨by first | (rw [← hj]; done) | (rw [← hj]; rfl), by first | (rw [← hj]; done) | (rw [← hj]; rfl)⟩
      · replace c_8 := (not_congr (nI_leI (by omega) (by omega))).mp c_8
        exact absurd he (by omega)
set_option maxRecDepth 100000 in
set_option maxHeartbeats 4000000 in
theorem m_X8_joinAll (l : Launch) (w : Wd) (σ : St) (z : Nat) (hz : nF σ 43 2 = nI z) (h : z ≤ 80) (F : Fam) (hF : F.1 ≤ 47) (x : Int32) : MI l yX8_joinAll wsX8_joinAll (rmL 17) w [.ref (w.1 (43)), .int (x), .ref (w.1 (41))] (sN (sI σ (42) ((F).2)) (41) 1 (nI ((F).1))) (fun r σ9 => σ9 = faS σ (jn (pwT (iA σ 44) (iA σ 45) z) 13 x F).2 ∧ r = (jn (pwT (iA σ 44) (iA σ 45) z) 13 x F).1) := by
  refine MI_of (cc := cX8_joinAll) (maxL := 3) (ret := .int) (by decide) rfl (Nat.le_of_ble_eq_true rfl) ?_
  intro p e s m args below meth c A C hr hlk
  have C : Cx p s m args c w A cX8_joinAll RX8 3 wsX8_joinAll := C
  refine g_aload_n (pc9 := 1) C rfl 0 dX8_joinAll_0 rfl rfl ?_
  refine g_iload_n (pc9 := 2) C rfl 1 dX8_joinAll_1 rfl rfl ?_
  refine g_aload_n (pc9 := 3) C rfl 2 dX8_joinAll_2 rfl rfl ?_
  refine g_iconst (pc9 := 4) C rfl (nI (0)) dX8_joinAll_3 rfl ?_
  refine g_callVi (nn := 3) (rest := []) (pc9 := 7) C rfl (43) [.int (x), .ref (w.1 (41)), .int (nI (0))] rfl dX8_joinAll_4 (m_X8_joinSet l w z h 13 σ hz F hF x 0 rfl) gX8_joinAll_X8_joinSet (by decide) (ce_43 w (sN (sI σ (42) ((F).2)) (41) 1 (nI ((F).1)))) rfl rfl rfl rfl rfl (by decide +kernel) ⟨by decide, by decide⟩ rfl (Nat.le_of_ble_eq_true rfl) ⟨by decide, by decide⟩ (fun r_1 σ_1 q_1 => ?_)
  obtain ⟨qs_1, qr_1⟩ := q_1
  rw [qs_1, qr_1]
  clear qs_1 qr_1
  exact g_ireturn C hr hlk dX8_joinAll_7 ⟨rfl, rfl⟩

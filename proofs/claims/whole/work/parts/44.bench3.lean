/-! LineageBench: calls that may throw -/
theorem trOk.n {σ : St} {j : Nat} (h : trOk σ j) : tN σ j = nI (nn σ j) := h.1
/-- the tree on the shelf x is missing -/
abbrev noT (σ : St) (x : Int32) : Prop := ∃ i, i < 8 ∧ x = nI i ∧ tN σ (tS σ i) = 0
abbrev noP (σ : St) (x : Int32) : Prop := ∃ i, i < 8 ∧ x = nI i ∧ ¬ okP σ i
def t1X (σ : St) (x : Int32) (E : String) : Prop := (E = xIOB ∧ ¬ okI 8 x) ∨ (E = xISE ∧ noT σ x)
def p1X (σ : St) (x : Int32) (E : String) : Prop := (E = xIOB ∧ ¬ okI 8 x) ∨ (E = xISE ∧ noP σ x)
abbrev wrB (σ : St) (j : Nat) : WB := pb (pnT (tK σ j) (soR (tK σ j) (pp σ j) (nn σ j) (iA σ 38) (iA σ 39)).1 (soR (tK σ j) (pp σ j) (nn σ j) (iA σ 38) (iA σ 39)).2 24 0 (0, iA σ 37)) (nI 59)
def wrS (σ : St) (j : Nat) : St := wbS (sI (sI σ 38 (soR (tK σ j) (pp σ j) (nn σ j) (iA σ 38) (iA σ 39)).1) 39 (soR (tK σ j) (pp σ j) (nn σ j) (iA σ 38) (iA σ 39)).2) (wrB σ j)
theorem wrS_L {σ : St} {j : Nat} : nF (wrS σ j) 36 1 = nI (wrB σ j).1 := nF_s
def wOk (σ : St) : Prop := (∀ u, u < 47 → ix 47 (iA σ 38 u)) ∧ ∀ u, u < 47 → ix 47 (iA σ 39 u)
set_option maxRecDepth 100000 in
set_option maxHeartbeats 4000000 in
theorem m_X10_write (l : Launch) (hst : l.stackTraces = false) (w : Wd) (sA : Nat → Nat) (σ : St) (hT : tOk σ) (hw : wOk σ) (x : Int32) : MXI l yX10_write wsX10_write 29 2 w sA [.ref (w.1 (31)), .int (x)] (σ) (fun r σ9 => ∃ i, i < 8 ∧ x = nI i ∧ ¬ tN σ (tS σ i) = 0 ∧ σ9 = wrS σ (tS σ i) ∧ r = nI (wrB σ (tS σ i)).1) (fun E σ9 => σ9 = σ ∧ t1X σ x E) := by
  refine MXI_of hst (cc := cX10_write) (maxL := 2) (ret := .int) (by decide) rfl (Nat.le_of_ble_eq_true rfl) ?_
  intro p e s m args below meth c A X hr hlk
  have X : CX p l s m args c w sA A cX10_write RX10 2 wsX10_write := X
  have C := X.1
  have hin_9 : ∀ u ∈ wsX90, u ∈ wsX10_write := by decide +kernel
  have hin_10 : ∀ u ∈ wsX100, u ∈ wsX10_write := by decide +kernel
  have hl_26 : Cond.fieldLink RX10 26 "LineageBench" "writer" "LLineageBench$Writer;" ∈ wsX10_write := by decide +kernel
  have hl_137 : Cond.fieldLink RX10 137 "LineageBench$Writer" "length" "I" ∈ wsX10_write := by decide +kernel
  refine g_iload_n (pc9 := 1) C rfl 1 dX10_write_0 rfl rfl ?_
  refine x_callSv (rest := []) X hlk (pc9 := 4) rfl [.int (x)] (nn := 1) rfl dX10_write_1 (m_X10_needShelf l hst w sA σ x) gX10_write_X10_needShelf rfl (by decide +kernel) ⟨by decide, by decide⟩ rfl (Nat.le_of_ble_eq_true rfl) ⟨by decide, by decide⟩ ⟨by decide, by decide⟩ (fun E σ9 h => ⟨h.1, Or.inl ⟨h.2.1, h.2.2⟩⟩) (fun σ_1 q_1 => ?_)
  obtain ⟨qs_1, i, hb_i, hx_1⟩ := q_1
  rw [qs_1]
  clear qs_1
  subst hx_1
  refine g_aload_n (pc9 := 5) C rfl 0 dX10_write_4 rfl rfl ?_
  refine g_get (v := .ref (w.1 (36))) (pc9 := 8) C rfl (31) 2 dX10_write_5 (by decide) (ce_31 w (σ)) hin_10 hl_26 rfl (by decide) rfl rfl ?_
  refine g_aload_n (pc9 := 9) C rfl 0 dX10_write_8 rfl rfl ?_
  refine g_iload_n (pc9 := 10) C rfl 1 dX10_write_9 rfl rfl ?_
  refine x_callVr (rest := [.ref (w.1 (36))]) X hlk (pc9 := 13) rfl (31) [.int (nI (i))] (nn := 1) rfl dX10_write_10 (m_X10_treeOn l hst w sA σ i hb_i (hT.s hb_i)) gX10_write_X10_treeOn (by decide) (ce_31 w (σ)) rfl rfl rfl (by decide +kernel) ⟨by decide, by decide⟩ rfl (Nat.le_of_ble_eq_true rfl) ⟨by decide, by decide⟩ ⟨by decide, by decide⟩ (fun E σ9 h => ⟨h.1, Or.inr ⟨h.2.1, i, hb_i, rfl, h.2.2⟩⟩) (fun r_2 σ_2 q_2 => ?_)
  obtain ⟨qs_2, qr_2, hnz_i⟩ := q_2
  replace qs_2 : σ_2 = σ := qs_2
  replace qr_2 : r_2 = 64 + 5 * tS σ i := qr_2
  rw [qs_2, qr_2]
  clear qs_2 qr_2
  have ht_i := hT.s hb_i
  refine g_callVv (nn := 1) (rest := []) (pc9 := 16) C rfl (36) [.ref (w.1 (64 + 5 * (tS σ i)))] rfl dX10_write_13 (m_X9_compose l w σ (tS σ i) ht_i (nn σ (tS σ i)) (hT.2 (tS σ i) ht_i).1 (hT.2 (tS σ i) ht_i).2.1 (nn_pos (hT.2 (tS σ i) ht_i) hnz_i) (pp σ (tS σ i)) (hT.2 (tS σ i) ht_i).2.2.1 hw.1 hw.2) gX10_write_X9_compose (by decide) (ce_36 w (σ)) rfl rfl rfl rfl rfl (by decide +kernel) ⟨by decide, by decide⟩ rfl (Nat.le_of_ble_eq_true rfl) ⟨by decide, by decide⟩ (fun σ_3 q_3 => ?_)
  replace q_3 : σ_3 = (wrS σ (tS σ i)) := q_3
  rw [q_3]
  clear q_3
  refine g_aload_n (pc9 := 17) C rfl 0 dX10_write_16 rfl rfl ?_
  refine g_get (v := .ref (w.1 (36))) (pc9 := 20) C rfl (31) 2 dX10_write_17 (by decide) (ce_31 w ((wrS σ (tS σ i)))) hin_10 hl_26 rfl (by decide) rfl rfl ?_
  refine g_get (v := .int (nI ((wrB σ (tS σ i)).1))) (pc9 := 23) C rfl (36) 1 dX10_write_20 (by decide) (ce_36 w ((wrS σ (tS σ i)))) hin_9 hl_137 rfl (by decide) rfl (congrArg (fun z => some (Value.int z)) wrS_L) ?_
  exact g_xi (by decide) (by decide) (g_ireturn C hr hlk dX10_write_23 ⟨i, hb_i, rfl, hnz_i, rfl, rfl⟩)
set_option maxRecDepth 100000 in
set_option maxHeartbeats 4000000 in
theorem m_X10_clear (l : Launch) (hst : l.stackTraces = false) (w : Wd) (sA : Nat → Nat) (σ : St) (hT : tOk σ) (x : Int32) : MXI l yX10_clear wsX10_clear 7 1 w sA [.ref (w.1 (31)), .int (x)] (σ) (fun r σ9 => ∃ i, i < 8 ∧ x = nI i ∧ σ9 = sN (sN σ (64 + 5 * tS σ i) 4 (nI 0)) (64 + 5 * tS σ i) 5 (nI 0) ∧ r = if tN σ (tS σ i) = 0 then 0 else 1) (fun E σ9 => σ9 = σ ∧ E = xIOB ∧ ¬ okI 8 x) := by
  refine MXI_of hst (cc := cX10_clear) (maxL := 3) (ret := .boolean) (by decide) rfl (Nat.le_of_ble_eq_true rfl) ?_
  intro p e s m args below meth c A X hr hlk
  have X : CX p l s m args c w sA A cX10_clear RX10 3 wsX10_clear := X
  have C := X.1
  have hin_10 : ∀ u ∈ wsX100, u ∈ wsX10_clear := by decide +kernel
  have hl_32 : Cond.fieldLink RX10 32 "LineageBench" "trees" "[LLineageBench$Tree;" ∈ wsX10_clear := by decide +kernel
  refine g_iload_n (pc9 := 1) C rfl 1 dX10_clear_0 rfl rfl ?_
  refine x_callSv (rest := []) X hlk (pc9 := 4) rfl [.int (x)] (nn := 1) rfl dX10_clear_1 (m_X10_needShelf l hst w sA σ x) gX10_clear_X10_needShelf rfl (by decide +kernel) ⟨by decide, by decide⟩ rfl (Nat.le_of_ble_eq_true rfl) ⟨by decide, by decide⟩ ⟨by decide, by decide⟩ (fun E σ9 h => h) (fun σ_1 q_1 => ?_)
  obtain ⟨qs_1, i, hb_i, hx_1⟩ := q_1
  rw [qs_1]
  clear qs_1
  subst hx_1
  have ht_i := hT.s hb_i
  refine g_aload_n (pc9 := 5) C rfl 0 dX10_clear_4 rfl rfl ?_
  refine g_get (v := .ref (w.1 (40))) (pc9 := 8) C rfl (31) 3 dX10_clear_5 (by decide) (ce_31 w (σ)) hin_10 hl_32 rfl (by decide) rfl rfl ?_
  refine g_iload_n (pc9 := 9) C rfl 1 dX10_clear_8 rfl rfl ?_
  refine g_aald (pc9 := 10) C rfl (i) dX10_clear_9 rfl (by omega) ?_
  refine g_callVi (nn := 0) (rest := []) (pc9 := 13) C rfl (64 + 5 * (tS σ (i))) [] rfl dX10_clear_10 (m_X7_isNone l w σ (tS σ i) ht_i) gX10_clear_X7_isNone (by omega) (ce_tree w (σ) ((tS σ (i)))) rfl rfl rfl rfl rfl (by decide +kernel) ⟨by decide, by decide⟩ rfl (Nat.le_of_ble_eq_true rfl) ⟨by decide, by decide⟩ (fun r_2 σ_2 q_2 => ?_)
  obtain ⟨qs_2, qr_2⟩ := q_2
  rw [qs_2, qr_2]
  clear qs_2 qr_2
  refine g_if_ne (pc9 := 16) C rfl 20 dX10_clear_13 rfl (fun c_3 => ?_) (fun c_3 => ?_)
  · have hz : tN σ (tS σ i) = 0 := Classical.byContradiction (fun h => c_3 (if_neg h))
    refine g_iconst (pc9 := 21) C rfl (nI (0)) dX10_clear_20 rfl ?_
    refine g_istore_n (pc9 := 22) C rfl [(2, .int (nI (0))), (0, .ref (w.1 (31))), (1, .int (nI (i)))] dX10_clear_21 rfl (by decide) rfl ?_
    refine g_aload_n (pc9 := 23) C rfl 1 dX10_clear_22 rfl rfl ?_
    refine g_get (v := .ref (w.1 (40))) (pc9 := 26) C rfl (31) 3 dX10_clear_23 (by decide) (ce_31 w (σ)) hin_10 hl_32 rfl (by decide) rfl rfl ?_
    refine g_iload_n (pc9 := 27) C rfl 2 dX10_clear_26 rfl rfl ?_
    refine g_aald (pc9 := 28) C rfl (i) dX10_clear_27 rfl (by omega) ?_
    refine g_callVv (nn := 0) (rest := []) (pc9 := 31) C rfl (64 + 5 * (tS σ (i))) [] rfl dX10_clear_28 (m_X7_makeNone l w σ (tS σ i) ht_i) gX10_clear_X7_makeNone (by omega) (ce_tree w (σ) ((tS σ (i)))) rfl rfl rfl rfl rfl (by decide +kernel) ⟨by decide, by decide⟩ rfl (Nat.le_of_ble_eq_true rfl) ⟨by decide, by decide⟩ (fun σ_4 q_4 => ?_)
    replace q_4 : σ_4 = sN (sN σ (64 + 5 * tS σ i) 4 (nI 0)) (64 + 5 * tS σ i) 5 (nI 0) := q_4
    rw [q_4]
    clear q_4
    refine g_iload_n (pc9 := 32) C rfl 0 dX10_clear_31 rfl rfl ?_
    exact g_xi (by decide) (by decide) (g_zreturn C hr hlk dX10_clear_32 (by decide) ⟨i, hb_i, rfl, rfl, by first | rw [if_pos hz]; rfl | rw [if_neg hz]; rfl⟩)
  · have hz : ¬ tN σ (tS σ i) = 0 := fun h => absurd (c_3) (by rw [if_pos h]; decide)
    refine g_iconst (pc9 := 17) C rfl (nI (1)) dX10_clear_16 rfl ?_
    refine g_goto C 21 dX10_clear_17 rfl ?_
    refine g_istore_n (pc9 := 22) C rfl [(2, .int (nI (1))), (0, .ref (w.1 (31))), (1, .int (nI (i)))] dX10_clear_21 rfl (by decide) rfl ?_
    refine g_aload_n (pc9 := 23) C rfl 1 dX10_clear_22 rfl rfl ?_
    refine g_get (v := .ref (w.1 (40))) (pc9 := 26) C rfl (31) 3 dX10_clear_23 (by decide) (ce_31 w (σ)) hin_10 hl_32 rfl (by decide) rfl rfl ?_
    refine g_iload_n (pc9 := 27) C rfl 2 dX10_clear_26 rfl rfl ?_
    refine g_aald (pc9 := 28) C rfl (i) dX10_clear_27 rfl (by omega) ?_
    refine g_callVv (nn := 0) (rest := []) (pc9 := 31) C rfl (64 + 5 * (tS σ (i))) [] rfl dX10_clear_28 (m_X7_makeNone l w σ (tS σ i) ht_i) gX10_clear_X7_makeNone (by omega) (ce_tree w (σ) ((tS σ (i)))) rfl rfl rfl rfl rfl (by decide +kernel) ⟨by decide, by decide⟩ rfl (Nat.le_of_ble_eq_true rfl) ⟨by decide, by decide⟩ (fun σ_5 q_5 => ?_)
    replace q_5 : σ_5 = sN (sN σ (64 + 5 * tS σ i) 4 (nI 0)) (64 + 5 * tS σ i) 5 (nI 0) := q_5
    rw [q_5]
    clear q_5
    refine g_iload_n (pc9 := 32) C rfl 0 dX10_clear_31 rfl rfl ?_
    exact g_xi (by decide) (by decide) (g_zreturn C hr hlk dX10_clear_32 (by decide) ⟨i, hb_i, rfl, rfl, by first | rw [if_pos hz]; rfl | rw [if_neg hz]; rfl⟩)
set_option maxRecDepth 100000 in
set_option maxHeartbeats 4000000 in
theorem m_X10_has (l : Launch) (hst : l.stackTraces = false) (w : Wd) (sA : Nat → Nat) (σ : St) (hT : tOk σ) (x y : Int32) : MXI l yX10_has wsX10_has 8 3 w sA [.ref (w.1 (31)), .int (x), .int (y)] (σ) (fun r σ9 => ∃ i, i < 8 ∧ x = nI i ∧ okP σ i ∧ σ9 = σ ∧ r = pI (∃ v, v < nn σ (tS σ i) ∧ tC σ (tS σ i) v = y)) (fun E σ9 => σ9 = σ ∧ p1X σ x E) := by
  refine MXI_of hst (cc := cX10_has) (maxL := 3) (ret := .boolean) (by decide) rfl (Nat.le_of_ble_eq_true rfl) ?_
  intro p e s m args below meth c A X hr hlk
  have X : CX p l s m args c w sA A cX10_has RX10 3 wsX10_has := X
  have C := X.1
  refine g_iload_n (pc9 := 1) C rfl 1 dX10_has_0 rfl rfl ?_
  refine x_callSv (rest := []) X hlk (pc9 := 4) rfl [.int (x)] (nn := 1) rfl dX10_has_1 (m_X10_needShelf l hst w sA σ x) gX10_has_X10_needShelf rfl (by decide +kernel) ⟨by decide, by decide⟩ rfl (Nat.le_of_ble_eq_true rfl) ⟨by decide, by decide⟩ ⟨by decide, by decide⟩ (fun E σ9 h => ⟨h.1, Or.inl ⟨h.2.1, h.2.2⟩⟩) (fun σ_1 q_1 => ?_)
  obtain ⟨qs_1, i, hb_i, hx_1⟩ := q_1
  rw [qs_1]
  clear qs_1
  subst hx_1
  refine g_aload_n (pc9 := 5) C rfl 0 dX10_has_4 rfl rfl ?_
  refine g_iload_n (pc9 := 6) C rfl 1 dX10_has_5 rfl rfl ?_
  refine x_callVr (rest := []) X hlk (pc9 := 9) rfl (31) [.int (nI (i))] (nn := 1) rfl dX10_has_6 (m_X10_plainTreeOn l hst w sA σ i hb_i (hT.s hb_i)) gX10_has_X10_plainTreeOn (by decide) (ce_31 w (σ)) rfl rfl rfl (by decide +kernel) ⟨by decide, by decide⟩ rfl (Nat.le_of_ble_eq_true rfl) ⟨by decide, by decide⟩ ⟨by decide, by decide⟩ (fun E σ9 h => ⟨h.1, Or.inr ⟨h.2.1, i, hb_i, rfl, h.2.2⟩⟩) (fun r_2 σ_2 q_2 => ?_)
  obtain ⟨qs_2, qr_2, hnz_i⟩ := q_2
  replace qs_2 : σ_2 = σ := qs_2
  replace qr_2 : r_2 = 64 + 5 * tS σ i := qr_2
  rw [qs_2, qr_2]
  clear qs_2 qr_2
  have ht_i := hT.s hb_i
  refine g_iload_n (pc9 := 10) C rfl 2 dX10_has_9 rfl rfl ?_
  refine g_callVi (nn := 1) (rest := []) (pc9 := 13) C rfl (64 + 5 * (tS σ i)) [.int (y)] rfl dX10_has_10 (m_X7_hasCluster l w σ (tS σ i) ht_i (nn σ (tS σ i)) (hT.2 (tS σ i) ht_i).1 (hT.2 (tS σ i) ht_i).2.1 y) gX10_has_X7_hasCluster (by omega) (ce_tree w (σ) ((tS σ i))) rfl rfl rfl rfl rfl (by decide +kernel) ⟨by decide, by decide⟩ rfl (Nat.le_of_ble_eq_true rfl) ⟨by decide, by decide⟩ (fun r_3 σ_3 q_3 => ?_)
  obtain ⟨qs_3, qr_3⟩ := q_3
  rw [qs_3, qr_3]
  clear qs_3 qr_3
  exact g_xi (by decide) (by decide) (g_zreturn C hr hlk dX10_has_13 (pI_01 _) ⟨i, hb_i, rfl, hnz_i, rfl, rfl⟩)
set_option maxRecDepth 100000 in
set_option maxHeartbeats 4000000 in
theorem m_X10_least (l : Launch) (hst : l.stackTraces = false) (w : Wd) (sA : Nat → Nat) (σ : St) (hT : tOk σ) (x y : Int32) : MXI l yX10_least wsX10_least 8 3 w sA [.ref (w.1 (31)), .int (x), .int (y)] (σ) (fun r σ9 => ∃ i, i < 8 ∧ x = nI i ∧ okP σ i ∧ σ9 = σ ∧ r = if y = 0 then -1 else lcaU (tC σ (tS σ i)) y (nn σ (tS σ i))) (fun E σ9 => σ9 = σ ∧ p1X σ x E) := by
  refine MXI_of hst (cc := cX10_least) (maxL := 3) (ret := .int) (by decide) rfl (Nat.le_of_ble_eq_true rfl) ?_
  intro p e s m args below meth c A X hr hlk
  have X : CX p l s m args c w sA A cX10_least RX10 3 wsX10_least := X
  have C := X.1
  refine g_iload_n (pc9 := 1) C rfl 1 dX10_least_0 rfl rfl ?_
  refine x_callSv (rest := []) X hlk (pc9 := 4) rfl [.int (x)] (nn := 1) rfl dX10_least_1 (m_X10_needShelf l hst w sA σ x) gX10_least_X10_needShelf rfl (by decide +kernel) ⟨by decide, by decide⟩ rfl (Nat.le_of_ble_eq_true rfl) ⟨by decide, by decide⟩ ⟨by decide, by decide⟩ (fun E σ9 h => ⟨h.1, Or.inl ⟨h.2.1, h.2.2⟩⟩) (fun σ_1 q_1 => ?_)
  obtain ⟨qs_1, i, hb_i, hx_1⟩ := q_1
  rw [qs_1]
  clear qs_1
  subst hx_1
  refine g_aload_n (pc9 := 5) C rfl 0 dX10_least_4 rfl rfl ?_
  refine g_iload_n (pc9 := 6) C rfl 1 dX10_least_5 rfl rfl ?_
  refine x_callVr (rest := []) X hlk (pc9 := 9) rfl (31) [.int (nI (i))] (nn := 1) rfl dX10_least_6 (m_X10_plainTreeOn l hst w sA σ i hb_i (hT.s hb_i)) gX10_least_X10_plainTreeOn (by decide) (ce_31 w (σ)) rfl rfl rfl (by decide +kernel) ⟨by decide, by decide⟩ rfl (Nat.le_of_ble_eq_true rfl) ⟨by decide, by decide⟩ ⟨by decide, by decide⟩ (fun E σ9 h => ⟨h.1, Or.inr ⟨h.2.1, i, hb_i, rfl, h.2.2⟩⟩) (fun r_2 σ_2 q_2 => ?_)
  obtain ⟨qs_2, qr_2, hnz_i⟩ := q_2
  replace qs_2 : σ_2 = σ := qs_2
  replace qr_2 : r_2 = 64 + 5 * tS σ i := qr_2
  rw [qs_2, qr_2]
  clear qs_2 qr_2
  have ht_i := hT.s hb_i
  refine g_iload_n (pc9 := 10) C rfl 2 dX10_least_9 rfl rfl ?_
  refine g_callVi (nn := 1) (rest := []) (pc9 := 13) C rfl (64 + 5 * (tS σ i)) [.int (y)] rfl dX10_least_10 (m_X7_leastClusterAround l w σ (tS σ i) ht_i (nn σ (tS σ i)) (hT.2 (tS σ i) ht_i).1 (hT.2 (tS σ i) ht_i).2.1 y) gX10_least_X7_leastClusterAround (by omega) (ce_tree w (σ) ((tS σ i))) rfl rfl rfl rfl rfl (by decide +kernel) ⟨by decide, by decide⟩ rfl (Nat.le_of_ble_eq_true rfl) ⟨by decide, by decide⟩ (fun r_3 σ_3 q_3 => ?_)
  obtain ⟨qs_3, qr_3⟩ := q_3
  rw [qs_3, qr_3]
  clear qs_3 qr_3
  exact g_xi (by decide) (by decide) (g_ireturn C hr hlk dX10_least_13 ⟨i, hb_i, rfl, hnz_i, rfl, rfl⟩)
set_option maxRecDepth 100000 in
set_option maxHeartbeats 4000000 in
theorem m_X10_shown (l : Launch) (hst : l.stackTraces = false) (w : Wd) (sA : Nat → Nat) (σ : St) (hT : tOk σ) (z : Nat) (hz : nF σ 43 2 = nI z) (h : z ≤ 80) (x : Int32) : MXI l yX10_shown wsX10_shown 8 3 w sA [.ref (w.1 (31)), .int (x)] (σ) (fun r σ9 => ∃ i, i < 8 ∧ x = nI i ∧ okP σ i ∧ σ9 = σ ∧ r = nI (cntU (fun t => shP σ (tS σ i) (nn σ (tS σ i)) (iA σ 44 t) (iA σ 45 t)) z)) (fun E σ9 => σ9 = σ ∧ p1X σ x E) := by
  refine MXI_of hst (cc := cX10_shown) (maxL := 2) (ret := .int) (by decide) rfl (Nat.le_of_ble_eq_true rfl) ?_
  intro p e s m args below meth c A X hr hlk
  have X : CX p l s m args c w sA A cX10_shown RX10 2 wsX10_shown := X
  have C := X.1
  have hin_10 : ∀ u ∈ wsX100, u ∈ wsX10_shown := by decide +kernel
  have hl_46 : Cond.fieldLink RX10 46 "LineageBench" "triples" "LLineageBench$Triples;" ∈ wsX10_shown := by decide +kernel
  refine g_iload_n (pc9 := 1) C rfl 1 dX10_shown_0 rfl rfl ?_
  refine x_callSv (rest := []) X hlk (pc9 := 4) rfl [.int (x)] (nn := 1) rfl dX10_shown_1 (m_X10_needShelf l hst w sA σ x) gX10_shown_X10_needShelf rfl (by decide +kernel) ⟨by decide, by decide⟩ rfl (Nat.le_of_ble_eq_true rfl) ⟨by decide, by decide⟩ ⟨by decide, by decide⟩ (fun E σ9 h => ⟨h.1, Or.inl ⟨h.2.1, h.2.2⟩⟩) (fun σ_1 q_1 => ?_)
  obtain ⟨qs_1, i, hb_i, hx_1⟩ := q_1
  rw [qs_1]
  clear qs_1
  subst hx_1
  refine g_aload_n (pc9 := 5) C rfl 0 dX10_shown_4 rfl rfl ?_
  refine g_get (v := .ref (w.1 (43))) (pc9 := 8) C rfl (31) 5 dX10_shown_5 (by decide) (ce_31 w (σ)) hin_10 hl_46 rfl (by decide) rfl rfl ?_
  refine g_aload_n (pc9 := 9) C rfl 0 dX10_shown_8 rfl rfl ?_
  refine g_iload_n (pc9 := 10) C rfl 1 dX10_shown_9 rfl rfl ?_
  refine x_callVr (rest := [.ref (w.1 (43))]) X hlk (pc9 := 13) rfl (31) [.int (nI (i))] (nn := 1) rfl dX10_shown_10 (m_X10_plainTreeOn l hst w sA σ i hb_i (hT.s hb_i)) gX10_shown_X10_plainTreeOn (by decide) (ce_31 w (σ)) rfl rfl rfl (by decide +kernel) ⟨by decide, by decide⟩ rfl (Nat.le_of_ble_eq_true rfl) ⟨by decide, by decide⟩ ⟨by decide, by decide⟩ (fun E σ9 h => ⟨h.1, Or.inr ⟨h.2.1, i, hb_i, rfl, h.2.2⟩⟩) (fun r_2 σ_2 q_2 => ?_)
  obtain ⟨qs_2, qr_2, hnz_i⟩ := q_2
  replace qs_2 : σ_2 = σ := qs_2
  replace qr_2 : r_2 = 64 + 5 * tS σ i := qr_2
  rw [qs_2, qr_2]
  clear qs_2 qr_2
  have ht_i := hT.s hb_i
  refine g_callVi (nn := 1) (rest := []) (pc9 := 16) C rfl (43) [.ref (w.1 (64 + 5 * (tS σ i)))] rfl dX10_shown_13 (m_X8_shownBy l w σ z hz h (tS σ i) ht_i (nn σ (tS σ i)) (hT.2 (tS σ i) ht_i).1 (hT.2 (tS σ i) ht_i).2.1) gX10_shown_X8_shownBy (by decide) (ce_43 w (σ)) rfl rfl rfl rfl rfl (by decide +kernel) ⟨by decide, by decide⟩ rfl (Nat.le_of_ble_eq_true rfl) ⟨by decide, by decide⟩ (fun r_3 σ_3 q_3 => ?_)
  obtain ⟨qs_3, qr_3⟩ := q_3
  rw [qs_3, qr_3]
  clear qs_3 qr_3
  exact g_xi (by decide) (by decide) (g_ireturn C hr hlk dX10_shown_16 ⟨i, hb_i, rfl, hnz_i, rfl, rfl⟩)
set_option maxRecDepth 100000 in
set_option maxHeartbeats 4000000 in
theorem m_X10_orders (l : Launch) (hst : l.stackTraces = false) (w : Wd) (sA : Nat → Nat) (σ : St) (hT : tOk σ) (x : Int32) : MXL l yX10_orders wsX10_orders 8 2 w sA [.ref (w.1 (31)), .int (x)] (σ) (fun r σ9 => ∃ i, i < 8 ∧ x = nI i ∧ ¬ tN σ (tS σ i) = 0 ∧ ∃ y g, σ9 = sI (sJ σ 51 y) 52 g ∧ r = orD (pp σ (tS σ i)) (tK σ (tS σ i)) (nn σ (tS σ i) - 1) (fillJ (fun _ => 1) (jA σ 51) (nn σ (tS σ i))) (fun _ => 0) 0) (fun E σ9 => σ9 = σ ∧ t1X σ x E) := by
  refine MXL_of hst (cc := cX10_orders) (maxL := 2) (ret := .long) (by decide) rfl (Nat.le_of_ble_eq_true rfl) ?_
  intro p e s m args below meth c A X hr hlk
  have X : CX p l s m args c w sA A cX10_orders RX10 2 wsX10_orders := X
  have C := X.1
  have hin_10 : ∀ u ∈ wsX100, u ∈ wsX10_orders := by decide +kernel
  have hl_64 : Cond.fieldLink RX10 64 "LineageBench" "tallies" "LLineageBench$Tallies;" ∈ wsX10_orders := by decide +kernel
  refine g_iload_n (pc9 := 1) C rfl 1 dX10_orders_0 rfl rfl ?_
  refine x_callSv (rest := []) X hlk (pc9 := 4) rfl [.int (x)] (nn := 1) rfl dX10_orders_1 (m_X10_needShelf l hst w sA σ x) gX10_orders_X10_needShelf rfl (by decide +kernel) ⟨by decide, by decide⟩ rfl (Nat.le_of_ble_eq_true rfl) ⟨by decide, by decide⟩ ⟨by decide, by decide⟩ (fun E σ9 h => ⟨h.1, Or.inl ⟨h.2.1, h.2.2⟩⟩) (fun σ_1 q_1 => ?_)
  obtain ⟨qs_1, i, hb_i, hx_1⟩ := q_1
  rw [qs_1]
  clear qs_1
  subst hx_1
  refine g_aload_n (pc9 := 5) C rfl 0 dX10_orders_4 rfl rfl ?_
  refine g_get (v := .ref (w.1 (49))) (pc9 := 8) C rfl (31) 8 dX10_orders_5 (by decide) (ce_31 w (σ)) hin_10 hl_64 rfl (by decide) rfl rfl ?_
  refine g_aload_n (pc9 := 9) C rfl 0 dX10_orders_8 rfl rfl ?_
  refine g_iload_n (pc9 := 10) C rfl 1 dX10_orders_9 rfl rfl ?_
  refine x_callVr (rest := [.ref (w.1 (49))]) X hlk (pc9 := 13) rfl (31) [.int (nI (i))] (nn := 1) rfl dX10_orders_10 (m_X10_treeOn l hst w sA σ i hb_i (hT.s hb_i)) gX10_orders_X10_treeOn (by decide) (ce_31 w (σ)) rfl rfl rfl (by decide +kernel) ⟨by decide, by decide⟩ rfl (Nat.le_of_ble_eq_true rfl) ⟨by decide, by decide⟩ ⟨by decide, by decide⟩ (fun E σ9 h => ⟨h.1, Or.inr ⟨h.2.1, i, hb_i, rfl, h.2.2⟩⟩) (fun r_2 σ_2 q_2 => ?_)
  obtain ⟨qs_2, qr_2, hnz_i⟩ := q_2
  replace qs_2 : σ_2 = σ := qs_2
  replace qr_2 : r_2 = 64 + 5 * tS σ i := qr_2
  rw [qs_2, qr_2]
  clear qs_2 qr_2
  have ht_i := hT.s hb_i
  refine g_callVl (nn := 1) (rest := []) (pc9 := 16) C rfl (49) [.ref (w.1 (64 + 5 * (tS σ i)))] rfl dX10_orders_13 (m_X5_ordersOf l w σ (tS σ i) ht_i (nn σ (tS σ i)) (hT.2 (tS σ i) ht_i).1 (hT.2 (tS σ i) ht_i).2.1 (nn_pos (hT.2 (tS σ i) ht_i) hnz_i) (pp σ (tS σ i)) (hT.2 (tS σ i) ht_i).2.2.1) gX10_orders_X5_ordersOf (by decide) (ce_49 w (σ)) rfl rfl rfl rfl rfl (by decide +kernel) ⟨by decide, by decide⟩ rfl (Nat.le_of_ble_eq_true rfl) ⟨by decide, by decide⟩ (fun r_3 σ_3 q_3 => ?_)
  obtain ⟨y9, g9, qs_3, qr_3⟩ := q_3
  rw [qs_3, qr_3]
  exact g_xi (by decide) (by decide) (g_lreturn C hr hlk dX10_orders_16 ⟨i, hb_i, rfl, hnz_i, y9, g9, rfl, rfl⟩)
set_option maxRecDepth 100000 in
set_option maxHeartbeats 4000000 in
theorem m_X10_changes (l : Launch) (hst : l.stackTraces = false) (w : Wd) (sA : Nat → Nat) (σ : St) (hT : tOk σ) (x y : Int32) : MXI l yX10_changes wsX10_changes 8 3 w sA [.ref (w.1 (31)), .int (x), .int (y)] (σ) (fun r σ9 => ∃ i, i < 8 ∧ x = nI i ∧ ¬ tN σ (tS σ i) = 0 ∧ ∃ q, q < 8 ∧ y = nI q ∧ σ9 = sI σ 50 (fcR (tK σ (tS σ i)) (iA σ 48) (q * 12) (pp σ (tS σ i)) (nn σ (tS σ i)) (iA σ 50)) ∧ r = lcC (fcR (tK σ (tS σ i)) (iA σ 48) (q * 12) (pp σ (tS σ i)) (nn σ (tS σ i)) (iA σ 50)) 0) (fun E σ9 => σ9 = σ ∧ (t1X σ x E ∨ (E = xIAE ∧ (∃ i, i < 8 ∧ x = nI i ∧ ¬ tN σ (tS σ i) = 0) ∧ ¬ okI 8 y))) := by
  refine MXI_of hst (cc := cX10_changes) (maxL := 4) (ret := .int) (by decide) rfl (Nat.le_of_ble_eq_true rfl) ?_
  intro p e s m args below meth c A X hr hlk
  have X : CX p l s m args c w sA A cX10_changes RX10 4 wsX10_changes := X
  have C := X.1
  have hin_10 : ∀ u ∈ wsX100, u ∈ wsX10_changes := by decide +kernel
  have hl_57 : Cond.fieldLink RX10 57 "LineageBench" "states" "[I" ∈ wsX10_changes := by decide +kernel
  have hl_64 : Cond.fieldLink RX10 64 "LineageBench" "tallies" "LLineageBench$Tallies;" ∈ wsX10_changes := by decide +kernel
  refine g_iload_n (pc9 := 1) C rfl 1 dX10_changes_0 rfl rfl ?_
  refine x_callSv (rest := []) X hlk (pc9 := 4) rfl [.int (x)] (nn := 1) rfl dX10_changes_1 (m_X10_needShelf l hst w sA σ x) gX10_changes_X10_needShelf rfl (by decide +kernel) ⟨by decide, by decide⟩ rfl (Nat.le_of_ble_eq_true rfl) ⟨by decide, by decide⟩ ⟨by decide, by decide⟩ (fun E σ9 h => ⟨h.1, Or.inl (Or.inl ⟨h.2.1, h.2.2⟩)⟩) (fun σ_1 q_1 => ?_)
  obtain ⟨qs_1, i, hb_i, hx_1⟩ := q_1
  rw [qs_1]
  clear qs_1
  subst hx_1
  refine g_aload_n (pc9 := 5) C rfl 0 dX10_changes_4 rfl rfl ?_
  refine g_iload_n (pc9 := 6) C rfl 1 dX10_changes_5 rfl rfl ?_
  refine x_callVr (rest := []) X hlk (pc9 := 9) rfl (31) [.int (nI (i))] (nn := 1) rfl dX10_changes_6 (m_X10_treeOn l hst w sA σ i hb_i (hT.s hb_i)) gX10_changes_X10_treeOn (by decide) (ce_31 w (σ)) rfl rfl rfl (by decide +kernel) ⟨by decide, by decide⟩ rfl (Nat.le_of_ble_eq_true rfl) ⟨by decide, by decide⟩ ⟨by decide, by decide⟩ (fun E σ9 h => ⟨h.1, Or.inl (Or.inr ⟨h.2.1, i, hb_i, rfl, h.2.2⟩)⟩) (fun r_2 σ_2 q_2 => ?_)
  obtain ⟨qs_2, qr_2, hnz_i⟩ := q_2
  replace qs_2 : σ_2 = σ := qs_2
  replace qr_2 : r_2 = 64 + 5 * tS σ i := qr_2
  rw [qs_2, qr_2]
  clear qs_2 qr_2
  have ht_i := hT.s hb_i
  refine g_astore_n (pc9 := 10) C rfl [(3, .ref (w.1 (64 + 5 * (tS σ i)))), (0, .ref (w.1 (31))), (1, .int (nI (i))), (2, .int (y))] dX10_changes_9 rfl (by decide) rfl ?_
  refine g_iload_n (pc9 := 11) C rfl 3 dX10_changes_10 rfl rfl ?_
  refine x_callSv (rest := []) X hlk (pc9 := 14) rfl [.int (y)] (nn := 1) rfl dX10_changes_11 (m_X10_needRow l hst w sA σ y) gX10_changes_X10_needRow rfl (by decide +kernel) ⟨by decide, by decide⟩ rfl (Nat.le_of_ble_eq_true rfl) ⟨by decide, by decide⟩ ⟨by decide, by decide⟩ (fun E σ9 h => ⟨h.1, Or.inr ⟨h.2.1, ⟨i, hb_i, rfl, hnz_i⟩, h.2.2⟩⟩) (fun σ_3 q_3 => ?_)
  obtain ⟨qs_3, q, hb_q, hx_3⟩ := q_3
  rw [qs_3]
  clear qs_3
  subst hx_3
  refine g_aload_n (pc9 := 15) C rfl 1 dX10_changes_14 rfl rfl ?_
  refine g_get (v := .ref (w.1 (49))) (pc9 := 18) C rfl (31) 8 dX10_changes_15 (by decide) (ce_31 w (σ)) hin_10 hl_64 rfl (by decide) rfl rfl ?_
  refine g_aload_n (pc9 := 19) C rfl 0 dX10_changes_18 rfl rfl ?_
  refine g_aload_n (pc9 := 20) C rfl 1 dX10_changes_19 rfl rfl ?_
  refine g_get (v := .ref (w.1 (48))) (pc9 := 23) C rfl (31) 7 dX10_changes_20 (by decide) (ce_31 w (σ)) hin_10 hl_57 rfl (by decide) rfl rfl ?_
  refine g_iload_n (pc9 := 24) C rfl 3 dX10_changes_23 rfl rfl ?_
  refine g_bipush (pc9 := 26) C rfl (nI (12)) dX10_changes_24 rfl ?_
  refine g_imulN (pc9 := 27) C rfl dX10_changes_26 ?_
  refine g_callVi (nn := 3) (rest := []) (pc9 := 30) C rfl (49) [.ref (w.1 (64 + 5 * (tS σ i))), .ref (w.1 (48)), .int (nI (q * 12))] rfl dX10_changes_27 (m_X5_fewestChanges l w σ (tS σ i) ht_i (nn σ (tS σ i)) (hT.2 (tS σ i) ht_i).1 (hT.2 (tS σ i) ht_i).2.1 (nn_pos (hT.2 (tS σ i) ht_i) hnz_i) (pp σ (tS σ i)) (hT.2 (tS σ i) ht_i).2.2.1 (hT.2 (tS σ i) ht_i).2.2.2.2 (q * 12) (by omega)) gX10_changes_X5_fewestChanges (by decide) (ce_49 w (σ)) rfl rfl rfl rfl rfl (by decide +kernel) ⟨by decide, by decide⟩ rfl (Nat.le_of_ble_eq_true rfl) ⟨by decide, by decide⟩ (fun r_4 σ_4 q_4 => ?_)
  obtain ⟨qs_4, qr_4⟩ := q_4
  rw [qs_4, qr_4]
  exact g_xi (by decide) (by decide) (g_ireturn C hr hlk dX10_changes_30 ⟨i, hb_i, rfl, hnz_i, q, hb_q, rfl, rfl, rfl⟩)
abbrev alC (σ : St) (j t : Nat) : Nat → Prop := fun v => ¬ ∃ u, u < nn σ t ∧ tC σ t u = tC σ j v
set_option maxRecDepth 100000 in
set_option maxHeartbeats 4000000 in
theorem m_X10_clustersOfFirstAlone (l : Launch) (w : Wd) (σ : St) (j t : Nat) (hj9 : j < 9) (ht9 : t < 9) (hj : trOk σ j) (ht : trOk σ t) : MI l yX10_clustersOfFirstAlone wsX10_clustersOfFirstAlone (rmL 2) w [.ref (w.1 (64 + 5 * (j))), .ref (w.1 (64 + 5 * (t)))] (σ) (fun r σ9 => σ9 = σ ∧ r = nI (cntU (alC σ j t) (nn σ j))) := by
  refine MI_of (cc := cX10_clustersOfFirstAlone) (maxL := 4) (ret := .int) (by decide) rfl (Nat.le_of_ble_eq_true rfl) ?_
  intro p e s m args below meth c A C hr hlk
  have C : Cx p s m args c w A cX10_clustersOfFirstAlone RX10 4 wsX10_clustersOfFirstAlone := C
  have hin_7 : ∀ u ∈ wsX70, u ∈ wsX10_clustersOfFirstAlone := by decide +kernel
  have hl_151 : Cond.fieldLink RX10 151 "LineageBench$Tree" "nodes" "I" ∈ wsX10_clustersOfFirstAlone := by decide +kernel
  have hl_207 : Cond.fieldLink RX10 207 "LineageBench$Tree" "cluster" "[I" ∈ wsX10_clustersOfFirstAlone := by decide +kernel
  refine g_iconst (pc9 := 1) C rfl (nI (0)) dX10_clustersOfFirstAlone_0 rfl ?_
  refine g_istore_n (pc9 := 2) C rfl [(2, .int (nI (0))), (0, .ref (w.1 (64 + 5 * (j)))), (1, .ref (w.1 (64 + 5 * (t))))] dX10_clustersOfFirstAlone_1 rfl (by decide) rfl ?_
  refine g_iconst (pc9 := 3) C rfl (nI (0)) dX10_clustersOfFirstAlone_2 rfl ?_
  refine g_istore_n (pc9 := 4) C rfl [(3, .int (nI (0))), (2, .int (nI (0))), (0, .ref (w.1 (64 + 5 * (j)))), (1, .ref (w.1 (64 + 5 * (t))))] dX10_clustersOfFirstAlone_3 rfl (by decide) rfl ?_
  refine g_sub [0, 1, 2, 3] [(3, .int (nI (0))), (2, .int (nI (0))), (0, .ref (w.1 (64 + 5 * (j)))), (1, .ref (w.1 (64 + 5 * (t))))] rfl ?_
  refine g_lp1 (α := Nat) (fun v => v ≤ nn σ j) (fun v => nn σ j - v) (fun v => G p l e _ s m args below meth c _ w A _ (σ) 0 0 4 [(3, .int (nI (v))), (2, .int (nI (cntU (alC σ j t) v))), (0, .ref (w.1 (64 + 5 * (j)))), (1, .ref (w.1 (64 + 5 * (t))))] []) (fun v hI ih => ?_) (0) (Nat.zero_le _)
  obtain hv := hI
  have hcn := cntU_le (q := alC σ j t) v
  have h47 := hj.2.1
  refine g_iload_n (pc9 := 5) C rfl 0 dX10_clustersOfFirstAlone_4 rfl rfl ?_
  refine g_aload_n (pc9 := 6) C rfl 2 dX10_clustersOfFirstAlone_5 rfl rfl ?_
  refine g_get (v := .int (nI (nn σ j))) (pc9 := 9) C rfl (64 + 5 * (j)) 4 dX10_clustersOfFirstAlone_6 (by omega) (ce_tree w (σ) ((j))) hin_7 hl_151 rfl (by decide) rfl (congrArg (fun z => some (Value.int z)) hj.1) ?_
  refine g_icmp_ge (pc9 := 12) C rfl 34 dX10_clustersOfFirstAlone_9 rfl (fun c_1 => ?_) (fun c_1 => ?_)
  · replace c_1 := (nI_leI (by omega) (by omega)).mp c_1
    refine g_iload_n (pc9 := 35) C rfl 1 dX10_clustersOfFirstAlone_34 rfl rfl ?_
    exact g_ireturn C hr hlk dX10_clustersOfFirstAlone_35 ⟨rfl, by rw [show v = nn σ j by omega]⟩
  · replace c_1 := (not_congr (nI_leI (by omega) (by omega))).mp c_1
    refine g_aload_n (pc9 := 13) C rfl 3 dX10_clustersOfFirstAlone_12 rfl rfl ?_
    refine g_aload_n (pc9 := 14) C rfl 2 dX10_clustersOfFirstAlone_13 rfl rfl ?_
    refine g_get (v := .ref (w.1 (67 + 5 * (j)))) (pc9 := 17) C rfl (64 + 5 * (j)) 2 dX10_clustersOfFirstAlone_14 (by omega) (ce_tree w (σ) ((j))) hin_7 hl_207 rfl (by decide) rfl rfl ?_
    refine g_iload_n (pc9 := 18) C rfl 0 dX10_clustersOfFirstAlone_17 rfl rfl ?_
    refine g_iald (x := (iA σ (67 + 5 * (j))) (v)) (pc9 := 19) C rfl (67 + 5 * (j)) (v) dX10_clustersOfFirstAlone_18 (by omega) (ce_cluster w (σ) ((j))) rfl (by omega) (by decide) rfl ?_
    refine g_callVi (nn := 1) (rest := []) (pc9 := 22) C rfl (64 + 5 * (t)) [.int ((iA σ (67 + 5 * (j))) (v))] rfl dX10_clustersOfFirstAlone_19 (m_X7_hasCluster l w σ t ht9 (nn σ t) ht.1 ht.2.1 ((iA σ (67 + 5 * (j))) (v))) gX10_clustersOfFirstAlone_X7_hasCluster (by omega) (ce_tree w (σ) ((t))) rfl rfl rfl rfl rfl (by decide +kernel) ⟨by decide, by decide⟩ rfl (Nat.le_of_ble_eq_true rfl) ⟨by decide, by decide⟩ (fun r_2 σ_2 q_2 => ?_)
    obtain ⟨qs_2, qr_2⟩ := q_2
    rw [qs_2, qr_2]
    clear qs_2 qr_2
    refine g_if_ne (pc9 := 25) C rfl 28 dX10_clustersOfFirstAlone_22 rfl (fun c_3 => ?_) (fun c_3 => ?_)
    · have hs : cntU (alC σ j t) (v + 1) = cntU (alC σ j t) v := cntU_n (q := alC σ j t) (fun h => h (pI_ye c_3))
      refine g_iinc (pc9 := 31) C rfl [(3, .int (nI (v + 1))), (2, .int (nI (cntU (alC σ j t) v))), (0, .ref (w.1 (64 + 5 * (j)))), (1, .ref (w.1 (64 + 5 * (t))))] 0 (nI (v + 1)) dX10_clustersOfFirstAlone_28 rfl (nI_1 (v)) (by decide) rfl ?_
      refine g_goto C 4 dX10_clustersOfFirstAlone_31 rfl ?_
      refine g_sub [0, 1, 2, 3] [(3, .int (nI (v + 1))), (2, .int (nI (cntU (alC σ j t) v))), (0, .ref (w.1 (64 + 5 * (j)))), (1, .ref (w.1 (64 + 5 * (t))))] rfl ?_
      rw [← hs]
      exact ih (v + 1) (by omega) (by omega)
    · have hs : cntU (alC σ j t) (v + 1) = cntU (alC σ j t) v + 1 := cntU_y (q := alC σ j t) (pI_no c_3)
      refine g_iinc (pc9 := 28) C rfl [(2, .int (nI (cntU (alC σ j t) v + 1))), (3, .int (nI (v))), (0, .ref (w.1 (64 + 5 * (j)))), (1, .ref (w.1 (64 + 5 * (t))))] 1 (nI (cntU (alC σ j t) v + 1)) dX10_clustersOfFirstAlone_25 rfl (nI_1 (cntU (alC σ j t) v)) (by decide) rfl ?_
      refine g_iinc (pc9 := 31) C rfl [(3, .int (nI (v + 1))), (2, .int (nI (cntU (alC σ j t) v + 1))), (0, .ref (w.1 (64 + 5 * (j)))), (1, .ref (w.1 (64 + 5 * (t))))] 1 (nI (v + 1)) dX10_clustersOfFirstAlone_28 rfl (nI_1 (v)) (by decide) rfl ?_
      refine g_goto C 4 dX10_clustersOfFirstAlone_31 rfl ?_
      refine g_sub [0, 1, 2, 3] [(3, .int (nI (v + 1))), (2, .int (nI (cntU (alC σ j t) v + 1))), (0, .ref (w.1 (64 + 5 * (j)))), (1, .ref (w.1 (64 + 5 * (t))))] rfl ?_
      rw [← hs]
      exact ih (v + 1) (by omega) (by omega)
def t2X (σ : St) (x y : Int32) (E : String) : Prop := (E = xIOB ∧ (¬ okI 8 x ∨ ¬ okI 8 y)) ∨ (E = xISE ∧ okI 8 x ∧ okI 8 y ∧ (noP σ x ∨ noP σ y))
set_option maxRecDepth 100000 in
set_option maxHeartbeats 4000000 in
theorem m_X10_unlike (l : Launch) (hst : l.stackTraces = false) (w : Wd) (sA : Nat → Nat) (σ : St) (hT : tOk σ) (x y : Int32) : MXI l yX10_unlike wsX10_unlike 8 6 w sA [.ref (w.1 (31)), .int (x), .int (y)] (σ) (fun r σ9 => ∃ i, i < 8 ∧ x = nI i ∧ okP σ i ∧ ∃ k, k < 8 ∧ y = nI k ∧ okP σ k ∧ σ9 = σ ∧ r = nI (cntU (alC σ (tS σ i) (tS σ k)) (nn σ (tS σ i)) + cntU (alC σ (tS σ k) (tS σ i)) (nn σ (tS σ k)))) (fun E σ9 => σ9 = σ ∧ t2X σ x y E) := by
  refine MXI_of hst (cc := cX10_unlike) (maxL := 5) (ret := .int) (by decide) rfl (Nat.le_of_ble_eq_true rfl) ?_
  intro p e s m args below meth c A X hr hlk
  have X : CX p l s m args c w sA A cX10_unlike RX10 5 wsX10_unlike := X
  have C := X.1
  refine g_iload_n (pc9 := 1) C rfl 1 dX10_unlike_0 rfl rfl ?_
  refine x_callSv (rest := []) X hlk (pc9 := 4) rfl [.int (x)] (nn := 1) rfl dX10_unlike_1 (m_X10_needShelf l hst w sA σ x) gX10_unlike_X10_needShelf rfl (by decide +kernel) ⟨by decide, by decide⟩ rfl (Nat.le_of_ble_eq_true rfl) ⟨by decide, by decide⟩ ⟨by decide, by decide⟩ (fun E σ9 h => ⟨h.1, Or.inl ⟨h.2.1, Or.inl h.2.2⟩⟩) (fun σ_1 q_1 => ?_)
  obtain ⟨qs_1, i, hb_i, hx_1⟩ := q_1
  rw [qs_1]
  clear qs_1
  subst hx_1
  refine g_iload_n (pc9 := 5) C rfl 2 dX10_unlike_4 rfl rfl ?_
  refine x_callSv (rest := []) X hlk (pc9 := 8) rfl [.int (y)] (nn := 1) rfl dX10_unlike_5 (m_X10_needShelf l hst w sA σ y) gX10_unlike_X10_needShelf rfl (by decide +kernel) ⟨by decide, by decide⟩ rfl (Nat.le_of_ble_eq_true rfl) ⟨by decide, by decide⟩ ⟨by decide, by decide⟩ (fun E σ9 h => ⟨h.1, Or.inl ⟨h.2.1, Or.inr h.2.2⟩⟩) (fun σ_2 q_2 => ?_)
  obtain ⟨qs_2, k, hb_k, hx_2⟩ := q_2
  rw [qs_2]
  clear qs_2
  subst hx_2
  refine g_aload_n (pc9 := 9) C rfl 0 dX10_unlike_8 rfl rfl ?_
  refine g_iload_n (pc9 := 10) C rfl 1 dX10_unlike_9 rfl rfl ?_
  refine x_callVr (rest := []) X hlk (pc9 := 13) rfl (31) [.int (nI (i))] (nn := 1) rfl dX10_unlike_10 (m_X10_plainTreeOn l hst w sA σ i hb_i (hT.s hb_i)) gX10_unlike_X10_plainTreeOn (by decide) (ce_31 w (σ)) rfl rfl rfl (by decide +kernel) ⟨by decide, by decide⟩ rfl (Nat.le_of_ble_eq_true rfl) ⟨by decide, by decide⟩ ⟨by decide, by decide⟩ (fun E σ9 h => ⟨h.1, Or.inr ⟨h.2.1, ⟨i, hb_i, rfl⟩, ⟨k, hb_k, rfl⟩, Or.inl ⟨i, hb_i, rfl, h.2.2⟩⟩⟩) (fun r_3 σ_3 q_3 => ?_)
  obtain ⟨qs_3, qr_3, hnz_i⟩ := q_3
  replace qs_3 : σ_3 = σ := qs_3
  replace qr_3 : r_3 = 64 + 5 * tS σ i := qr_3
  rw [qs_3, qr_3]
  clear qs_3 qr_3
  have ht_i := hT.s hb_i
  refine g_astore_n (pc9 := 14) C rfl [(3, .ref (w.1 (64 + 5 * (tS σ i)))), (0, .ref (w.1 (31))), (1, .int (nI (i))), (2, .int (nI (k)))] dX10_unlike_13 rfl (by decide) rfl ?_
  refine g_aload_n (pc9 := 15) C rfl 1 dX10_unlike_14 rfl rfl ?_
  refine g_iload_n (pc9 := 16) C rfl 3 dX10_unlike_15 rfl rfl ?_
  refine x_callVr (rest := []) X hlk (pc9 := 19) rfl (31) [.int (nI (k))] (nn := 1) rfl dX10_unlike_16 (m_X10_plainTreeOn l hst w sA σ k hb_k (hT.s hb_k)) gX10_unlike_X10_plainTreeOn (by decide) (ce_31 w (σ)) rfl rfl rfl (by decide +kernel) ⟨by decide, by decide⟩ rfl (Nat.le_of_ble_eq_true rfl) ⟨by decide, by decide⟩ ⟨by decide, by decide⟩ (fun E σ9 h => ⟨h.1, Or.inr ⟨h.2.1, ⟨i, hb_i, rfl⟩, ⟨k, hb_k, rfl⟩, Or.inr ⟨k, hb_k, rfl, h.2.2⟩⟩⟩) (fun r_4 σ_4 q_4 => ?_)
  obtain ⟨qs_4, qr_4, hnz_k⟩ := q_4
  replace qs_4 : σ_4 = σ := qs_4
  replace qr_4 : r_4 = 64 + 5 * tS σ k := qr_4
  rw [qs_4, qr_4]
  clear qs_4 qr_4
  have ht_k := hT.s hb_k
  refine g_astore (pc9 := 21) C rfl [(4, .ref (w.1 (64 + 5 * (tS σ k)))), (3, .ref (w.1 (64 + 5 * (tS σ i)))), (0, .ref (w.1 (31))), (1, .int (nI (i))), (2, .int (nI (k)))] dX10_unlike_19 (by decide) rfl ?_
  refine g_aload_n (pc9 := 22) C rfl 1 dX10_unlike_21 rfl rfl ?_
  refine g_aload (pc9 := 24) C rfl 0 dX10_unlike_22 rfl ?_
  refine g_callSi (nn := 2) (rest := []) (pc9 := 27) C rfl [.ref (w.1 (64 + 5 * (tS σ i))), .ref (w.1 (64 + 5 * (tS σ k)))] rfl dX10_unlike_24 (m_X10_clustersOfFirstAlone l w σ (tS σ i) (tS σ k) ht_i ht_k (hT.2 _ ht_i) (hT.2 _ ht_k)) gX10_unlike_X10_clustersOfFirstAlone rfl rfl rfl (by decide +kernel) ⟨by decide, by decide⟩ rfl (Nat.le_of_ble_eq_true rfl) ⟨by decide, by decide⟩ (fun r_5 σ_5 q_5 => ?_)
  obtain ⟨qs_5, qr_5⟩ := q_5
  rw [qs_5, qr_5]
  clear qs_5 qr_5
  refine g_aload (pc9 := 29) C rfl 0 dX10_unlike_27 rfl ?_
  refine g_aload_n (pc9 := 30) C rfl 1 dX10_unlike_29 rfl rfl ?_
  refine g_callSi (nn := 2) (rest := [.int (nI (cntU (alC σ (tS σ i) (tS σ k)) (nn σ (tS σ i))))]) (pc9 := 33) C rfl [.ref (w.1 (64 + 5 * (tS σ k))), .ref (w.1 (64 + 5 * (tS σ i)))] rfl dX10_unlike_30 (m_X10_clustersOfFirstAlone l w σ (tS σ k) (tS σ i) ht_k ht_i (hT.2 _ ht_k) (hT.2 _ ht_i)) gX10_unlike_X10_clustersOfFirstAlone rfl rfl rfl (by decide +kernel) ⟨by decide, by decide⟩ rfl (Nat.le_of_ble_eq_true rfl) ⟨by decide, by decide⟩ (fun r_6 σ_6 q_6 => ?_)
  obtain ⟨qs_6, qr_6⟩ := q_6
  rw [qs_6, qr_6]
  clear qs_6 qr_6
  refine g_iaddN (pc9 := 34) C rfl dX10_unlike_33 ?_
  exact g_xi (by decide) (by decide) (g_ireturn C hr hlk dX10_unlike_34 ⟨i, hb_i, rfl, hnz_i, k, hb_k, rfl, hnz_k, rfl, rfl⟩)

/-! Signs: the sets at 47, how many at 46.1 -/
set_option maxRecDepth 100000 in
set_option maxHeartbeats 4000000 in
theorem m_X4_addSign (l : Launch) (w : Wd) (σ : St) (z : Nat) (hz : nF σ 46 1 = nI z) (h : z < 16) (x : Int32) : MV l yX4_addSign wsX4_addSign (rmL 1) w [.ref (w.1 (46)), .int (x)] (σ) (fun σ9 => σ9 = sN (sI σ 47 (upd (iA σ 47) z x)) 46 1 (nI (z + 1))) := by
  refine MV_of (cc := cX4_addSign) (maxL := 2) (by decide) rfl (Nat.le_of_ble_eq_true rfl) ?_
  intro p e s m args below meth c A C hr hlk
  have C : Cx p s m args c w A cX4_addSign RX4 2 wsX4_addSign := C
  have hin_4 : ∀ u ∈ wsX40, u ∈ wsX4_addSign := by decide +kernel
  have hl_9 : Cond.fieldLink RX4 9 "LineageBench$Signs" "sets" "[I" ∈ wsX4_addSign := by decide +kernel
  have hl_15 : Cond.fieldLink RX4 15 "LineageBench$Signs" "size" "I" ∈ wsX4_addSign := by decide +kernel
  refine g_aload_n (pc9 := 1) C rfl 0 dX4_addSign_0 rfl rfl ?_
  refine g_get (v := .int (nI (z))) (pc9 := 4) C rfl (46) 1 dX4_addSign_1 (by decide) (ce_46 w (σ)) hin_4 hl_15 rfl (by decide) rfl (congrArg (fun z => some (Value.int z)) hz) ?_
  refine g_bipush (pc9 := 6) C rfl (nI (16)) dX4_addSign_4 rfl ?_
  refine g_icmp_ge (pc9 := 9) C rfl 29 dX4_addSign_6 rfl (fun c_1 => ?_) (fun c_1 => ?_)
  · replace c_1 := (nI_leI (by omega) (by omega)).mp c_1
    exact absurd h (by omega)
  · replace c_1 := (not_congr (nI_leI (by omega) (by omega))).mp c_1
    refine g_aload_n (pc9 := 10) C rfl 0 dX4_addSign_9 rfl rfl ?_
    refine g_get (v := .ref (w.1 (47))) (pc9 := 13) C rfl (46) 0 dX4_addSign_10 (by decide) (ce_46 w (σ)) hin_4 hl_9 rfl (by decide) rfl rfl ?_
    refine g_aload_n (pc9 := 14) C rfl 0 dX4_addSign_13 rfl rfl ?_
    refine g_get (v := .int (nI (z))) (pc9 := 17) C rfl (46) 1 dX4_addSign_14 (by decide) (ce_46 w (σ)) hin_4 hl_15 rfl (by decide) rfl (congrArg (fun z => some (Value.int z)) hz) ?_
    refine g_iload_n (pc9 := 18) C rfl 1 dX4_addSign_17 rfl rfl ?_
    refine g_iast (pc9 := 19) C rfl (47) (z) (iA σ (47)) dX4_addSign_18 (by decide) (fun _ => rfl) (ce_47 w (σ)) rfl (by omega) (by decide) rfl ?_
    refine g_aload_n (pc9 := 20) C rfl 0 dX4_addSign_19 rfl rfl ?_
    refine g_dup (pc9 := 21) C rfl dX4_addSign_20 rfl ?_
    refine g_get (v := .int (nI (z))) (pc9 := 24) C rfl (46) 1 dX4_addSign_21 (by decide) (ce_46 w (sI σ (47) (upd (iA σ (47)) (z) (x)))) hin_4 hl_15 rfl (by decide) rfl (congrArg (fun z => some (Value.int z)) ((nF_I).trans hz)) ?_
    refine g_iconst (pc9 := 25) C rfl (nI (1)) dX4_addSign_24 rfl ?_
    refine g_iaddN (pc9 := 26) C rfl dX4_addSign_25 ?_
    refine g_put (pc9 := 29) C rfl (46) 1 dX4_addSign_26 (by decide) (ce_46 w (sI σ (47) (upd (iA σ (47)) (z) (x)))) (rfl) hin_4 hl_15 tyX4 tyX4_ok nmX4 rfl (by decide) rfl rfl rfl (Nat.le_of_ble_eq_true rfl) ?_
    exact g_return C hr hlk dX4_addSign_29 rfl
def agI (a b : Int32) : Prop := ¬ a &&& (b ^^^ (-1)) = 0 ∧ ¬ b &&& (a ^^^ (-1)) = 0 ∧ ¬ a &&& b = 0
set_option maxRecDepth 100000 in
set_option maxHeartbeats 4000000 in
theorem m_X4_areAgainst (l : Launch) (w : Wd) (σ : St) (a b : Int32) : MI l yX4_areAgainst wsX4_areAgainst (rmL 1) w [.int (a), .int (b)] (σ) (fun r σ9 => σ9 = σ ∧ r = pI (agI a b)) := by
  refine MI_of (cc := cX4_areAgainst) (maxL := 2) (ret := .boolean) (by decide) rfl (Nat.le_of_ble_eq_true rfl) ?_
  intro p e s m args below meth c A C hr hlk
  have C : Cx p s m args c w A cX4_areAgainst RX4 2 wsX4_areAgainst := C
  refine g_iload_n (pc9 := 1) C rfl 0 dX4_areAgainst_0 rfl rfl ?_
  refine g_iload_n (pc9 := 2) C rfl 1 dX4_areAgainst_1 rfl rfl ?_
  refine g_iconst (pc9 := 3) C rfl ((-1)) dX4_areAgainst_2 rfl ?_
  refine g_ixor (pc9 := 4) C rfl dX4_areAgainst_3 ?_
  refine g_iand (pc9 := 5) C rfl dX4_areAgainst_4 ?_
  refine g_if_eq (pc9 := 8) C rfl 26 dX4_areAgainst_5 rfl (fun c_1 => ?_) (fun c_1 => ?_)
  · have hq : ¬ agI a b := fun h => h.1 c_1
    refine g_iconst (pc9 := 27) C rfl (nI (0)) dX4_areAgainst_26 rfl ?_
    exact g_zreturn C hr hlk dX4_areAgainst_27 (by decide) ⟨rfl, by first | exact (pI_t hq).symm | exact (pI_f hq).symm⟩
  · refine g_iload_n (pc9 := 9) C rfl 1 dX4_areAgainst_8 rfl rfl ?_
    refine g_iload_n (pc9 := 10) C rfl 0 dX4_areAgainst_9 rfl rfl ?_
    refine g_iconst (pc9 := 11) C rfl ((-1)) dX4_areAgainst_10 rfl ?_
    refine g_ixor (pc9 := 12) C rfl dX4_areAgainst_11 ?_
    refine g_iand (pc9 := 13) C rfl dX4_areAgainst_12 ?_
    refine g_if_eq (pc9 := 16) C rfl 26 dX4_areAgainst_13 rfl (fun c_2 => ?_) (fun c_2 => ?_)
    · have hq : ¬ agI a b := fun h => h.2.1 c_2
      refine g_iconst (pc9 := 27) C rfl (nI (0)) dX4_areAgainst_26 rfl ?_
      exact g_zreturn C hr hlk dX4_areAgainst_27 (by decide) ⟨rfl, by first | exact (pI_t hq).symm | exact (pI_f hq).symm⟩
    · refine g_iload_n (pc9 := 17) C rfl 0 dX4_areAgainst_16 rfl rfl ?_
      refine g_iload_n (pc9 := 18) C rfl 1 dX4_areAgainst_17 rfl rfl ?_
      refine g_iand (pc9 := 19) C rfl dX4_areAgainst_18 ?_
      refine g_if_eq (pc9 := 22) C rfl 26 dX4_areAgainst_19 rfl (fun c_3 => ?_) (fun c_3 => ?_)
      · have hq : ¬ agI a b := fun h => h.2.2 c_3
        refine g_iconst (pc9 := 27) C rfl (nI (0)) dX4_areAgainst_26 rfl ?_
        exact g_zreturn C hr hlk dX4_areAgainst_27 (by decide) ⟨rfl, by first | exact (pI_t hq).symm | exact (pI_f hq).symm⟩
      · have hq : agI a b := ⟨by assumption, by assumption, by assumption⟩
        refine g_iconst (pc9 := 23) C rfl (nI (1)) dX4_areAgainst_22 rfl ?_
        refine g_goto C 27 dX4_areAgainst_23 rfl ?_
        exact g_zreturn C hr hlk dX4_areAgainst_27 (by decide) ⟨rfl, by first | exact (pI_t hq).symm | exact (pI_f hq).symm⟩
set_option maxRecDepth 100000 in
set_option maxHeartbeats 4000000 in
theorem m_X4_addClusters (l : Launch) (w : Wd) (σ : St) (z : Nat) (hz : nF σ 46 1 = nI z) (h : z ≤ 16) (y : Nat) (f : Nat → Int32) (hy : y ≤ 47) (x : Int32) : MV l yX4_addClusters wsX4_addClusters (rmL 3) w [.ref (w.1 (46)), .int (x), .ref (w.1 (41))] (sN (sI σ (42) (f)) (41) 1 (nI (y))) (fun σ9 => σ9 = famSt σ (famUp (fun k => iA σ 47 k &&& x) y f z).1 (famUp (fun k => iA σ 47 k &&& x) y f z).2) := by
  refine MV_of (cc := cX4_addClusters) (maxL := 4) (by decide) rfl (Nat.le_of_ble_eq_true rfl) ?_
  intro p e s m args below meth c A C hr hlk
  have C : Cx p s m args c w A cX4_addClusters RX4 4 wsX4_addClusters := C
  have hin_4 : ∀ u ∈ wsX40, u ∈ wsX4_addClusters := by decide +kernel
  have hl_9 : Cond.fieldLink RX4 9 "LineageBench$Signs" "sets" "[I" ∈ wsX4_addClusters := by decide +kernel
  have hl_15 : Cond.fieldLink RX4 15 "LineageBench$Signs" "size" "I" ∈ wsX4_addClusters := by decide +kernel
  refine g_iconst (pc9 := 1) C rfl (nI (0)) dX4_addClusters_0 rfl ?_
  refine g_istore_n (pc9 := 2) C rfl [(3, .int (nI (0))), (0, .ref (w.1 (46))), (1, .int (x)), (2, .ref (w.1 (41)))] dX4_addClusters_1 rfl (by decide) rfl ?_
  refine g_lp1 (α := Nat) (fun v => v ≤ z) (fun v => z - v) (fun v => G p l e _ s m args below meth c _ w A _ (sN (sI σ (42) ((famUp (fun k => iA σ 47 k &&& x) y f v).2)) (41) 1 (nI ((famUp (fun k => iA σ 47 k &&& x) y f v).1))) 0 0 2 [(3, .int (nI (v))), (0, .ref (w.1 (46))), (1, .int (x)), (2, .ref (w.1 (41)))] []) (fun v hI ih => ?_) (0) (Nat.zero_le _)
  obtain hv := hI
  refine g_iload_n (pc9 := 3) C rfl 0 dX4_addClusters_2 rfl rfl ?_
  refine g_aload_n (pc9 := 4) C rfl 1 dX4_addClusters_3 rfl rfl ?_
  refine g_get (v := .int (nI (z))) (pc9 := 7) C rfl (46) 1 dX4_addClusters_4 (by decide) (ce_46 w (sN (sI σ (42) ((famUp (fun k => iA σ 47 k &&& x) y f v).2)) (41) 1 (nI ((famUp (fun k => iA σ 47 k &&& x) y f v).1)))) hin_4 hl_15 rfl (by decide) rfl (congrArg (fun z => some (Value.int z)) (((nF_n (by decide)).trans (nF_I)).trans hz)) ?_
  refine g_icmp_ge (pc9 := 10) C rfl 28 dX4_addClusters_7 rfl (fun c_1 => ?_) (fun c_1 => ?_)
  · replace c_1 := (nI_leI (by omega) (by omega)).mp c_1
    exact g_return C hr hlk dX4_addClusters_28 (by rw [show v = z by omega])
  · replace c_1 := (not_congr (nI_leI (by omega) (by omega))).mp c_1
    refine g_aload_n (pc9 := 11) C rfl 3 dX4_addClusters_10 rfl rfl ?_
    refine g_aload_n (pc9 := 12) C rfl 1 dX4_addClusters_11 rfl rfl ?_
    refine g_get (v := .ref (w.1 (47))) (pc9 := 15) C rfl (46) 0 dX4_addClusters_12 (by decide) (ce_46 w (sN (sI σ (42) ((famUp (fun k => iA σ 47 k &&& x) y f v).2)) (41) 1 (nI ((famUp (fun k => iA σ 47 k &&& x) y f v).1)))) hin_4 hl_9 rfl (by decide) rfl rfl ?_
    refine g_iload_n (pc9 := 16) C rfl 0 dX4_addClusters_15 rfl rfl ?_
    refine g_iald (x := (iA σ (47)) (v)) (pc9 := 17) C rfl (47) (v) dX4_addClusters_16 (by decide) (ce_47 w (sN (sI σ (42) ((famUp (fun k => iA σ 47 k &&& x) y f v).2)) (41) 1 (nI ((famUp (fun k => iA σ 47 k &&& x) y f v).1)))) rfl (by omega) (by decide) (congrFun ((iA_N).trans (iA_n (by decide))) _) ?_
    refine g_iload_n (pc9 := 18) C rfl 2 dX4_addClusters_17 rfl rfl ?_
    refine g_iand (pc9 := 19) C rfl dX4_addClusters_18 ?_
    refine g_callVv (nn := 1) (rest := []) (pc9 := 22) C rfl (41) [.int (((iA σ (47)) (v)) &&& (x))] rfl dX4_addClusters_19 (m_X1_addCluster l w σ _ _ (famUp_le hy v) (((iA σ (47)) (v)) &&& (x))) gX4_addClusters_X1_addCluster (by decide) (ce_41 w (sN (sI σ (42) ((famUp (fun k => iA σ 47 k &&& x) y f v).2)) (41) 1 (nI ((famUp (fun k => iA σ 47 k &&& x) y f v).1)))) rfl rfl rfl rfl rfl (by decide +kernel) ⟨by decide, by decide⟩ rfl (Nat.le_of_ble_eq_true rfl) ⟨by decide, by decide⟩ (fun σ_2 q_2 => ?_)
    replace q_2 : σ_2 = sN (sI σ (42) ((famUp (fun k => iA σ 47 k &&& x) y f (v + 1)).2)) (41) 1 (nI ((famUp (fun k => iA σ 47 k &&& x) y f (v + 1)).1)) := q_2
    rw [q_2]
    clear q_2
    refine g_iinc (pc9 := 25) C rfl [(3, .int (nI (v + 1))), (0, .ref (w.1 (46))), (1, .int (x)), (2, .ref (w.1 (41)))] 0 (nI (v + 1)) dX4_addClusters_22 rfl (nI_1 (v)) (by decide) rfl ?_
    refine g_goto C 2 dX4_addClusters_25 rfl ?_
    exact ih (v + 1) (by omega) (by omega)
def qrl (f : Nat → Int32) (x : Int32) (i k : Nat) : Prop := agI (f i &&& x) (f k &&& x)
/-- the first pair i < k in the order of i, then k -/
def qrlR (f : Nat → Int32) (x : Int32) (z : Nat) (r : Int32) : Prop := (r = nI 0 ∧ ∀ i k, i < k → k < z → ¬ qrl f x i k) ∨ ∃ i k, i < k ∧ k < z ∧ qrl f x i k ∧ r = nI (1000 + 16 * i + k) ∧ (∀ i9 k9, i9 < k9 → k9 < z → i9 < i → ¬ qrl f x i9 k9) ∧ ∀ k9, i < k9 → k9 < k → ¬ qrl f x i k9
set_option maxRecDepth 100000 in
set_option maxHeartbeats 4000000 in
theorem m_X4_firstQuarrel (l : Launch) (w : Wd) (σ : St) (z : Nat) (hz : nF σ 46 1 = nI z) (h : z ≤ 16) (x : Int32) : MI l yX4_firstQuarrel wsX4_firstQuarrel (rmL 2) w [.ref (w.1 (46)), .int (x)] (σ) (fun r σ9 => σ9 = σ ∧ qrlR (iA σ 47) x z r) := by
  refine MI_of (cc := cX4_firstQuarrel) (maxL := 4) (ret := .int) (by decide) rfl (Nat.le_of_ble_eq_true rfl) ?_
  intro p e s m args below meth c A C hr hlk
  have C : Cx p s m args c w A cX4_firstQuarrel RX4 4 wsX4_firstQuarrel := C
  have hin_4 : ∀ u ∈ wsX40, u ∈ wsX4_firstQuarrel := by decide +kernel
  have hl_9 : Cond.fieldLink RX4 9 "LineageBench$Signs" "sets" "[I" ∈ wsX4_firstQuarrel := by decide +kernel
  have hl_15 : Cond.fieldLink RX4 15 "LineageBench$Signs" "size" "I" ∈ wsX4_firstQuarrel := by decide +kernel
  refine g_iconst (pc9 := 1) C rfl (nI (0)) dX4_firstQuarrel_0 rfl ?_
  refine g_istore_n (pc9 := 2) C rfl [(2, .int (nI (0))), (0, .ref (w.1 (46))), (1, .int (x))] dX4_firstQuarrel_1 rfl (by decide) rfl ?_
  refine g_lp1 (α := Nat) (fun i => i ≤ z ∧ ∀ i9 k9, i9 < k9 → k9 < z → i9 < i → ¬ qrl (iA σ 47) x i9 k9) (fun i => z - i) (fun i => G p l e _ s m args below meth c _ w A _ (σ) 0 0 2 [(2, .int (nI (i))), (0, .ref (w.1 (46))), (1, .int (x))] []) (fun i hI ih => ?_) (0) ⟨Nat.zero_le _, fun _ _ _ _ h => absurd h (by omega)⟩
  obtain ⟨hi, hu⟩ := hI
  refine g_iload_n (pc9 := 3) C rfl 0 dX4_firstQuarrel_2 rfl rfl ?_
  refine g_aload_n (pc9 := 4) C rfl 1 dX4_firstQuarrel_3 rfl rfl ?_
  refine g_get (v := .int (nI (z))) (pc9 := 7) C rfl (46) 1 dX4_firstQuarrel_4 (by decide) (ce_46 w (σ)) hin_4 hl_15 rfl (by decide) rfl (congrArg (fun z => some (Value.int z)) hz) ?_
  refine g_icmp_ge (pc9 := 10) C rfl 67 dX4_firstQuarrel_7 rfl (fun c_1 => ?_) (fun c_1 => ?_)
  · replace c_1 := (nI_leI (by omega) (by omega)).mp c_1
    refine g_iconst (pc9 := 68) C rfl (nI (0)) dX4_firstQuarrel_67 rfl ?_
    exact g_ireturn C hr hlk dX4_firstQuarrel_68 ⟨rfl, Or.inl ⟨rfl, fun i9 k9 h1 h2 => hu i9 k9 h1 h2 (by omega)⟩⟩
  · replace c_1 := (not_congr (nI_leI (by omega) (by omega))).mp c_1
    refine g_iload_n (pc9 := 11) C rfl 0 dX4_firstQuarrel_10 rfl rfl ?_
    refine g_iconst (pc9 := 12) C rfl (nI (1)) dX4_firstQuarrel_11 rfl ?_
    refine g_iaddN (pc9 := 13) C rfl dX4_firstQuarrel_12 ?_
    refine g_istore_n (pc9 := 14) C rfl [(3, .int (nI (i + 1))), (2, .int (nI (i))), (0, .ref (w.1 (46))), (1, .int (x))] dX4_firstQuarrel_13 rfl (by decide) rfl ?_
    refine g_sub [0, 1, 2, 3] [(3, .int (nI (i + 1))), (2, .int (nI (i))), (0, .ref (w.1 (46))), (1, .int (x))] rfl ?_
    refine g_lp1 (α := Nat) (fun k => i < k ∧ k ≤ z ∧ ∀ k9, i < k9 → k9 < k → ¬ qrl (iA σ 47) x i k9) (fun k => z - k) (fun k => G p l e _ s m args below meth c _ w A _ (σ) 0 0 14 [(3, .int (nI (k))), (2, .int (nI (i))), (0, .ref (w.1 (46))), (1, .int (x))] []) (fun k hI ih2 => ?_) (i + 1) ⟨by omega, by omega, fun _ _ _ => absurd ‹_› (by omega)⟩
    obtain ⟨hk1, hk, hw⟩ := hI
    refine g_iload_n (pc9 := 15) C rfl 0 dX4_firstQuarrel_14 rfl rfl ?_
    refine g_aload_n (pc9 := 16) C rfl 2 dX4_firstQuarrel_15 rfl rfl ?_
    refine g_get (v := .int (nI (z))) (pc9 := 19) C rfl (46) 1 dX4_firstQuarrel_16 (by decide) (ce_46 w (σ)) hin_4 hl_15 rfl (by decide) rfl (congrArg (fun z => some (Value.int z)) hz) ?_
    refine g_icmp_ge (pc9 := 22) C rfl 61 dX4_firstQuarrel_19 rfl (fun c_2 => ?_) (fun c_2 => ?_)
    · replace c_2 := (nI_leI (by omega) (by omega)).mp c_2
      have hu2 : ∀ i9 k9, i9 < k9 → k9 < z → i9 < i + 1 → ¬ qrl (iA σ 47) x i9 k9 := fun i9 k9 h1 h2 h3 => by
        by_cases h4 : i9 = i
        · subst h4; exact hw k9 h1 (by omega)
        · exact hu i9 k9 h1 h2 (by omega)
      refine g_iinc (pc9 := 64) C rfl [(2, .int (nI (i + 1))), (3, .int (nI (k))), (0, .ref (w.1 (46))), (1, .int (x))] 1 (nI (i + 1)) dX4_firstQuarrel_61 rfl (nI_1 (i)) (by decide) rfl ?_
      refine g_goto C 2 dX4_firstQuarrel_64 rfl ?_
      refine g_sub [0, 2, 3] [(2, .int (nI (i + 1))), (0, .ref (w.1 (46))), (1, .int (x))] rfl ?_
      exact ih (i + 1) ⟨by omega, hu2⟩ (by omega)
    · replace c_2 := (not_congr (nI_leI (by omega) (by omega))).mp c_2
      refine g_aload_n (pc9 := 23) C rfl 2 dX4_firstQuarrel_22 rfl rfl ?_
      refine g_get (v := .ref (w.1 (47))) (pc9 := 26) C rfl (46) 0 dX4_firstQuarrel_23 (by decide) (ce_46 w (σ)) hin_4 hl_9 rfl (by decide) rfl rfl ?_
      refine g_iload_n (pc9 := 27) C rfl 1 dX4_firstQuarrel_26 rfl rfl ?_
      refine g_iald (x := (iA σ (47)) (i)) (pc9 := 28) C rfl (47) (i) dX4_firstQuarrel_27 (by decide) (ce_47 w (σ)) rfl (by omega) (by decide) rfl ?_
      refine g_iload_n (pc9 := 29) C rfl 3 dX4_firstQuarrel_28 rfl rfl ?_
      refine g_iand (pc9 := 30) C rfl dX4_firstQuarrel_29 ?_
      refine g_aload_n (pc9 := 31) C rfl 2 dX4_firstQuarrel_30 rfl rfl ?_
      refine g_get (v := .ref (w.1 (47))) (pc9 := 34) C rfl (46) 0 dX4_firstQuarrel_31 (by decide) (ce_46 w (σ)) hin_4 hl_9 rfl (by decide) rfl rfl ?_
      refine g_iload_n (pc9 := 35) C rfl 0 dX4_firstQuarrel_34 rfl rfl ?_
      refine g_iald (x := (iA σ (47)) (k)) (pc9 := 36) C rfl (47) (k) dX4_firstQuarrel_35 (by decide) (ce_47 w (σ)) rfl (by omega) (by decide) rfl ?_
      refine g_iload_n (pc9 := 37) C rfl 3 dX4_firstQuarrel_36 rfl rfl ?_
      refine g_iand (pc9 := 38) C rfl dX4_firstQuarrel_37 ?_
      refine g_callSi (nn := 2) (rest := []) (pc9 := 41) C rfl [.int (((iA σ (47)) (i)) &&& (x)), .int (((iA σ (47)) (k)) &&& (x))] rfl dX4_firstQuarrel_38 (m_X4_areAgainst l w σ (((iA σ (47)) (i)) &&& (x)) (((iA σ (47)) (k)) &&& (x))) gX4_firstQuarrel_X4_areAgainst rfl rfl rfl (by decide +kernel) ⟨by decide, by decide⟩ rfl (Nat.le_of_ble_eq_true rfl) ⟨by decide, by decide⟩ (fun r_3 σ_3 q_3 => ?_)
      obtain ⟨qs_3, qr_3⟩ := q_3
      rw [qs_3, qr_3]
      clear qs_3 qr_3
      refine g_if_eq (pc9 := 44) C rfl 55 dX4_firstQuarrel_41 rfl (fun c_4 => ?_) (fun c_4 => ?_)
      · have hno : ¬ qrl (iA σ 47) x i k := pI_no c_4
        have hw2 : ∀ k9, i < k9 → k9 < k + 1 → ¬ qrl (iA σ 47) x i k9 := fun k9 h1 h2 => by
          by_cases h3 : k9 = k
          · rw [h3]; exact hno
          · exact hw k9 h1 (by omega)
        refine g_iinc (pc9 := 58) C rfl [(3, .int (nI (k + 1))), (2, .int (nI (i))), (0, .ref (w.1 (46))), (1, .int (x))] 0 (nI (k + 1)) dX4_firstQuarrel_55 rfl (nI_1 (k)) (by decide) rfl ?_
        refine g_goto C 14 dX4_firstQuarrel_58 rfl ?_
        exact ih2 (k + 1) ⟨by omega, by omega, hw2⟩ (by omega)
      · have hye : qrl (iA σ 47) x i k := pI_ye c_4
        refine g_sipush (pc9 := 47) C rfl (nI (1000)) dX4_firstQuarrel_44 rfl ?_
        refine g_bipush (pc9 := 49) C rfl (nI (16)) dX4_firstQuarrel_47 rfl ?_
        refine g_iload_n (pc9 := 50) C rfl 1 dX4_firstQuarrel_49 rfl rfl ?_
        refine g_imulN (pc9 := 51) C rfl dX4_firstQuarrel_50 ?_
        refine g_iaddN (pc9 := 52) C rfl dX4_firstQuarrel_51 ?_
        refine g_iload_n (pc9 := 53) C rfl 0 dX4_firstQuarrel_52 rfl rfl ?_
        refine g_iaddN (pc9 := 54) C rfl dX4_firstQuarrel_53 ?_
        exact g_ireturn C hr hlk dX4_firstQuarrel_54 ⟨rfl, Or.inr ⟨i, k, hk1, by omega, hye, rfl, hu, hw⟩⟩

/-! LineageBench: holders, gathering, strict, most, alike; laying -/
abbrev bt (x : Int32) (s : Nat) : Prop := ¬ (x >>> (nI s &&& 31)) &&& nI 1 = 0
abbrev hcP (σ : St) (t : Nat) (y : Int32) : Prop := ∃ v, v < nn σ t ∧ tC σ t v = y
abbrev hoP (σ : St) (x y : Int32) : Nat → Prop := fun s => bt x s ∧ hcP σ (tS σ s) y
noncomputable abbrev hoN (σ : St) (x y : Int32) : Nat := cntU (hoP σ x y) 8
set_option maxRecDepth 100000 in
set_option maxHeartbeats 4000000 in
theorem m_X10_holders (l : Launch) (w : Wd) (σ : St) (hT : tOk σ) (x y : Int32) : MI l yX10_holders wsX10_holders (rmL 2) w [.ref (w.1 (31)), .int (x), .int (y)] (σ) (fun r σ9 => σ9 = σ ∧ r = nI (hoN σ x y)) := by
  refine MI_of (cc := cX10_holders) (maxL := 5) (ret := .int) (by decide) rfl (Nat.le_of_ble_eq_true rfl) ?_
  intro p e s m args below meth c A C hr hlk
  have C : Cx p s m args c w A cX10_holders RX10 5 wsX10_holders := C
  have hin_10 : ∀ u ∈ wsX100, u ∈ wsX10_holders := by decide +kernel
  have hl_32 : Cond.fieldLink RX10 32 "LineageBench" "trees" "[LLineageBench$Tree;" ∈ wsX10_holders := by decide +kernel
  refine g_iconst (pc9 := 1) C rfl (nI (0)) dX10_holders_0 rfl ?_
  refine g_istore_n (pc9 := 2) C rfl [(3, .int (nI (0))), (0, .ref (w.1 (31))), (1, .int (x)), (2, .int (y))] dX10_holders_1 rfl (by decide) rfl ?_
  refine g_iconst (pc9 := 3) C rfl (nI (0)) dX10_holders_2 rfl ?_
  refine g_istore (pc9 := 5) C rfl [(4, .int (nI (0))), (3, .int (nI (0))), (0, .ref (w.1 (31))), (1, .int (x)), (2, .int (y))] dX10_holders_3 (by decide) rfl ?_
  refine g_sub [0, 1, 2, 3, 4] [(4, .int (nI (0))), (3, .int (nI (0))), (0, .ref (w.1 (31))), (1, .int (x)), (2, .int (y))] rfl ?_
  refine g_lp1 (α := Nat) (fun v => v ≤ 8) (fun v => 8 - v) (fun v => G p l e _ s m args below meth c _ w A _ (σ) 0 0 5 [(4, .int (nI (v))), (3, .int (nI (cntU (hoP σ x y) v))), (0, .ref (w.1 (31))), (1, .int (x)), (2, .int (y))] []) (fun v hI ih => ?_) (0) (Nat.zero_le _)
  obtain hv := hI
  have hcn := cntU_le (q := hoP σ x y) v
  refine g_iload (pc9 := 7) C rfl 0 dX10_holders_5 rfl ?_
  refine g_bipush (pc9 := 9) C rfl (nI (8)) dX10_holders_7 rfl ?_
  refine g_icmp_ge (pc9 := 12) C rfl 44 dX10_holders_9 rfl (fun c_1 => ?_) (fun c_1 => ?_)
  · replace c_1 := (nI_leI (by omega) (by omega)).mp c_1
    refine g_iload_n (pc9 := 45) C rfl 1 dX10_holders_44 rfl rfl ?_
    exact g_ireturn C hr hlk dX10_holders_45 ⟨rfl, by rw [show v = 8 by omega]⟩
  · replace c_1 := (not_congr (nI_leI (by omega) (by omega))).mp c_1
    refine g_iload_n (pc9 := 13) C rfl 3 dX10_holders_12 rfl rfl ?_
    refine g_iload (pc9 := 15) C rfl 0 dX10_holders_13 rfl ?_
    refine g_ishr (pc9 := 16) C rfl dX10_holders_15 ?_
    refine g_iconst (pc9 := 17) C rfl (nI (1)) dX10_holders_16 rfl ?_
    refine g_iand (pc9 := 18) C rfl dX10_holders_17 ?_
    refine g_if_eq (pc9 := 21) C rfl 38 dX10_holders_18 rfl (fun c_2 => ?_) (fun c_2 => ?_)
    · have hs : cntU (hoP σ x y) (v + 1) = cntU (hoP σ x y) v := cntU_n (q := hoP σ x y) (fun h => h.1 c_2)
      refine g_iinc (pc9 := 41) C rfl [(4, .int (nI (v + 1))), (3, .int (nI (cntU (hoP σ x y) v))), (0, .ref (w.1 (31))), (1, .int (x)), (2, .int (y))] 0 (nI (v + 1)) dX10_holders_38 rfl (nI_1 (v)) (by decide) rfl ?_
      refine g_goto C 5 dX10_holders_41 rfl ?_
      refine g_sub [0, 1, 2, 3, 4] [(4, .int (nI (v + 1))), (3, .int (nI (cntU (hoP σ x y) v))), (0, .ref (w.1 (31))), (1, .int (x)), (2, .int (y))] rfl ?_
      rw [← hs]
      exact ih (v + 1) (by omega) (by omega)
    · have hbt : bt x v := c_2
      refine g_aload_n (pc9 := 22) C rfl 2 dX10_holders_21 rfl rfl ?_
      refine g_get (v := .ref (w.1 (40))) (pc9 := 25) C rfl (31) 3 dX10_holders_22 (by decide) (ce_31 w (σ)) hin_10 hl_32 rfl (by decide) rfl rfl ?_
      have htv := hT.s (i := v) (by omega)
      refine g_iload (pc9 := 27) C rfl 0 dX10_holders_25 rfl ?_
      refine g_aald (pc9 := 28) C rfl (v) dX10_holders_27 rfl (by omega) ?_
      refine g_iload_n (pc9 := 29) C rfl 4 dX10_holders_28 rfl rfl ?_
      refine g_callVi (nn := 1) (rest := []) (pc9 := 32) C rfl (64 + 5 * (tS σ (v))) [.int (y)] rfl dX10_holders_29 (m_X7_hasCluster l w σ (tS σ v) htv (nn σ (tS σ v)) (hT.2 _ htv).1 (hT.2 _ htv).2.1 y) gX10_holders_X7_hasCluster (by omega) (ce_tree w (σ) ((tS σ (v)))) rfl rfl rfl rfl rfl (by decide +kernel) ⟨by decide, by decide⟩ rfl (Nat.le_of_ble_eq_true rfl) ⟨by decide, by decide⟩ (fun r_3 σ_3 q_3 => ?_)
      obtain ⟨qs_3, qr_3⟩ := q_3
      rw [qs_3, qr_3]
      clear qs_3 qr_3
      refine g_if_eq (pc9 := 35) C rfl 38 dX10_holders_32 rfl (fun c_4 => ?_) (fun c_4 => ?_)
      · have hs : cntU (hoP σ x y) (v + 1) = cntU (hoP σ x y) v := cntU_n (q := hoP σ x y) (fun h => pI_no c_4 h.2)
        refine g_iinc (pc9 := 41) C rfl [(4, .int (nI (v + 1))), (3, .int (nI (cntU (hoP σ x y) v))), (0, .ref (w.1 (31))), (1, .int (x)), (2, .int (y))] 0 (nI (v + 1)) dX10_holders_38 rfl (nI_1 (v)) (by decide) rfl ?_
        refine g_goto C 5 dX10_holders_41 rfl ?_
        refine g_sub [0, 1, 2, 3, 4] [(4, .int (nI (v + 1))), (3, .int (nI (cntU (hoP σ x y) v))), (0, .ref (w.1 (31))), (1, .int (x)), (2, .int (y))] rfl ?_
        rw [← hs]
        exact ih (v + 1) (by omega) (by omega)
      · have hs : cntU (hoP σ x y) (v + 1) = cntU (hoP σ x y) v + 1 := cntU_y (q := hoP σ x y) ⟨hbt, pI_ye c_4⟩
        refine g_iinc (pc9 := 38) C rfl [(3, .int (nI (cntU (hoP σ x y) v + 1))), (4, .int (nI (v))), (0, .ref (w.1 (31))), (1, .int (x)), (2, .int (y))] 1 (nI (cntU (hoP σ x y) v + 1)) dX10_holders_35 rfl (nI_1 (cntU (hoP σ x y) v)) (by decide) rfl ?_
        refine g_iinc (pc9 := 41) C rfl [(4, .int (nI (v + 1))), (3, .int (nI (cntU (hoP σ x y) v + 1))), (0, .ref (w.1 (31))), (1, .int (x)), (2, .int (y))] 1 (nI (v + 1)) dX10_holders_38 rfl (nI_1 (v)) (by decide) rfl ?_
        refine g_goto C 5 dX10_holders_41 rfl ?_
        refine g_sub [0, 1, 2, 3, 4] [(4, .int (nI (v + 1))), (3, .int (nI (cntU (hoP σ x y) v + 1))), (0, .ref (w.1 (31))), (1, .int (x)), (2, .int (y))] rfl ?_
        rw [← hs]
        exact ih (v + 1) (by omega) (by omega)
theorem tOk_fa {σ : St} {F : Fam} (h : tOk σ) : tOk (faS σ F) := by
  refine ⟨h.1, fun j hj => ?_⟩
  have e1 : ∀ k, nF (faS σ F) (64 + 5 * j) k = nF σ (64 + 5 * j) k := fun k => (nF_n (by omega)).trans nF_I
  have e2 : tP (faS σ F) j = tP σ j := iA_N.trans (iA_n (by omega))
  have e3 : tK (faS σ F) j = tK σ j := iA_N.trans (iA_n (by omega))
  have q := h.2 j hj
  unfold trOk nn pp at q ⊢
  rw [show tN (faS σ F) j = tN σ j from e1 4, e2, e3]
  exact q
/-- one shelf's clusters that are held by so many -/
noncomputable def gsI (σ : St) (x q : Int32) (s : Nat) (F : Fam) : Nat → Fam
  | 0 => F
  | v + 1 => cI (q ≤ nI (hoN σ x (tC σ (tS σ s) v))) (famZ (gsI σ x q s F v).1 (gsI σ x q s F v).2 (tC σ (tS σ s) v), famF (gsI σ x q s F v).1 (gsI σ x q s F v).2 (tC σ (tS σ s) v)) (gsI σ x q s F v)
noncomputable def gsO (σ : St) (x q : Int32) (F : Fam) : Nat → Fam
  | 0 => F
  | s + 1 => cI (bt x s) (gsI σ x q s (gsO σ x q F s) (nn σ (tS σ s))) (gsO σ x q F s)
theorem gsI_le {σ : St} {x q : Int32} {s : Nat} {F : Fam} (h : F.1 ≤ 47) : ∀ v, (gsI σ x q s F v).1 ≤ 47
  | 0 => h
  | v + 1 => by
    show (cI _ _ _ : Fam).1 ≤ 47
    by_cases c : q ≤ nI (hoN σ x (tC σ (tS σ s) v))
    · rw [cI_t c]; exact famZ_le (gsI_le h v)
    · rw [cI_f c]; exact gsI_le h v
theorem gsO_le {σ : St} {x q : Int32} {F : Fam} (h : F.1 ≤ 47) : ∀ s, (gsO σ x q F s).1 ≤ 47
  | 0 => h
  | s + 1 => by
    show (cI _ _ _ : Fam).1 ≤ 47
    by_cases c : bt x s
    · rw [cI_t c]; exact gsI_le (gsO_le h s) _
    · rw [cI_f c]; exact gsO_le h s
theorem m_hold (l : Launch) (w : Wd) (σ : St) (F : Fam) (hT : tOk σ) (x y : Int32) : MI l yX10_holders wsX10_holders (rmL 2) w [.ref (w.1 31), .int x, .int y] (faS σ F) (fun r σ9 => σ9 = faS σ F ∧ r = nI (hoN σ x y)) := by
  have key := m_X10_holders l w (faS σ F) (tOk_fa hT) x y
  have e : hoN (faS σ F) x y = hoN σ x y := by
    unfold hoN
    have : hoP (faS σ F) x y = hoP σ x y := by
      funext s
      refine congrArg (bt x s ∧ ·) ?_
      by_cases hs : tS σ s < 9
      · unfold hcP
        rw [show tC (faS σ F) (tS (faS σ F) s) = tC σ (tS σ s) from iA_N.trans (iA_n (by show 67 + 5 * tS σ s ≠ 42; omega)), show nn (faS σ F) (tS (faS σ F) s) = nn σ (tS σ s) from congrArg Int32.toNatClampNeg ((nF_n (by show 64 + 5 * tS σ s ≠ 41; omega)).trans nF_I)]
      · unfold hcP
        rw [show tC (faS σ F) (tS (faS σ F) s) = tC σ (tS σ s) from iA_N.trans (iA_n (by show 67 + 5 * tS σ s ≠ 42; omega)), show nn (faS σ F) (tS (faS σ F) s) = nn σ (tS σ s) from congrArg Int32.toNatClampNeg ((nF_n (by show 64 + 5 * tS σ s ≠ 41; omega)).trans nF_I)]
    rw [this]
  rw [e] at key
  exact key
set_option maxRecDepth 100000 in
set_option maxHeartbeats 4000000 in
theorem m_X10_gatherShared (l : Launch) (w : Wd) (σ : St) (hT : tOk σ) (x q : Int32) : MV l yX10_gatherShared wsX10_gatherShared (rmL 4) w [.ref (w.1 (31)), .int (x), .int (q)] (σ) (fun σ9 => σ9 = faS σ (gsO σ x q (0, iA σ 42) 8)) := by
  refine MV_of (cc := cX10_gatherShared) (maxL := 6) (by decide) rfl (Nat.le_of_ble_eq_true rfl) ?_
  intro p e s m args below meth c A C hr hlk
  have C : Cx p s m args c w A cX10_gatherShared RX10 6 wsX10_gatherShared := C
  have hin_7 : ∀ u ∈ wsX70, u ∈ wsX10_gatherShared := by decide +kernel
  have hin_10 : ∀ u ∈ wsX100, u ∈ wsX10_gatherShared := by decide +kernel
  have hl_32 : Cond.fieldLink RX10 32 "LineageBench" "trees" "[LLineageBench$Tree;" ∈ wsX10_gatherShared := by decide +kernel
  have hl_39 : Cond.fieldLink RX10 39 "LineageBench" "family" "LLineageBench$Family;" ∈ wsX10_gatherShared := by decide +kernel
  have hl_151 : Cond.fieldLink RX10 151 "LineageBench$Tree" "nodes" "I" ∈ wsX10_gatherShared := by decide +kernel
  have hl_207 : Cond.fieldLink RX10 207 "LineageBench$Tree" "cluster" "[I" ∈ wsX10_gatherShared := by decide +kernel
  refine g_aload_n (pc9 := 1) C rfl 0 dX10_gatherShared_0 rfl rfl ?_
  refine g_get (v := .ref (w.1 (41))) (pc9 := 4) C rfl (31) 4 dX10_gatherShared_1 (by decide) (ce_31 w (σ)) hin_10 hl_39 rfl (by decide) rfl rfl ?_
  refine g_callVv (nn := 0) (rest := []) (pc9 := 7) C rfl (41) [] rfl dX10_gatherShared_4 (m_makeEmpty l w σ) gX10_gatherShared_X1_makeEmpty (by decide) (ce_41 w (σ)) rfl rfl rfl rfl rfl (by decide +kernel) ⟨by decide, by decide⟩ rfl (Nat.le_of_ble_eq_true rfl) ⟨by decide, by decide⟩ (fun σ_1 q_1 => ?_)
  replace q_1 : σ_1 = sN (sI σ (42) ((gsO σ x q ((0, iA σ 42) : Fam) 0).2)) (41) 1 (nI ((gsO σ x q ((0, iA σ 42) : Fam) 0).1)) := q_1
  rw [q_1]
  clear q_1
  refine g_iconst (pc9 := 8) C rfl (nI (0)) dX10_gatherShared_7 rfl ?_
  refine g_istore_n (pc9 := 9) C rfl [(3, .int (nI (0))), (0, .ref (w.1 (31))), (1, .int (x)), (2, .int (q))] dX10_gatherShared_8 rfl (by decide) rfl ?_
  refine g_sub [0, 1, 2, 3] [(3, .int (nI (0))), (0, .ref (w.1 (31))), (1, .int (x)), (2, .int (q))] rfl ?_
  refine g_lp1 (α := Nat) (fun s9 => s9 ≤ 8) (fun s9 => 8 - s9) (fun s9 => G p l e _ s m args below meth c _ w A _ (sN (sI σ (42) ((gsO σ x q ((0, iA σ 42) : Fam) s9).2)) (41) 1 (nI ((gsO σ x q ((0, iA σ 42) : Fam) s9).1))) 0 0 9 [(3, .int (nI (s9))), (0, .ref (w.1 (31))), (1, .int (x)), (2, .int (q))] []) (fun s9 hI ih => ?_) (0) (Nat.zero_le _)
  obtain hs := hI
  refine g_iload_n (pc9 := 10) C rfl 0 dX10_gatherShared_9 rfl rfl ?_
  refine g_bipush (pc9 := 12) C rfl (nI (8)) dX10_gatherShared_10 rfl ?_
  refine g_icmp_ge (pc9 := 15) C rfl 88 dX10_gatherShared_12 rfl (fun c_2 => ?_) (fun c_2 => ?_)
  · replace c_2 := (nI_leI (by omega) (by omega)).mp c_2
    exact g_return C hr hlk dX10_gatherShared_88 (by rw [show s9 = 8 by omega])
  · replace c_2 := (not_congr (nI_leI (by omega) (by omega))).mp c_2
    refine g_iload_n (pc9 := 16) C rfl 2 dX10_gatherShared_15 rfl rfl ?_
    refine g_iload_n (pc9 := 17) C rfl 0 dX10_gatherShared_16 rfl rfl ?_
    refine g_ishr (pc9 := 18) C rfl dX10_gatherShared_17 ?_
    refine g_iconst (pc9 := 19) C rfl (nI (1)) dX10_gatherShared_18 rfl ?_
    refine g_iand (pc9 := 20) C rfl dX10_gatherShared_19 ?_
    refine g_if_eq (pc9 := 23) C rfl 82 dX10_gatherShared_20 rfl (fun c_3 => ?_) (fun c_3 => ?_)
    · have ho9 : gsO σ x q ((0, iA σ 42) : Fam) (s9 + 1) = gsO σ x q ((0, iA σ 42) : Fam) s9 := cI_f (fun h => h c_3)
      refine g_iinc (pc9 := 85) C rfl [(3, .int (nI (s9 + 1))), (0, .ref (w.1 (31))), (1, .int (x)), (2, .int (q))] 0 (nI (s9 + 1)) dX10_gatherShared_82 rfl (nI_1 (s9)) (by decide) rfl ?_
      refine g_goto C 9 dX10_gatherShared_85 rfl ?_
      refine g_sub [0, 1, 2, 3] [(3, .int (nI (s9 + 1))), (0, .ref (w.1 (31))), (1, .int (x)), (2, .int (q))] rfl ?_
      rw [← ho9]
      exact ih (s9 + 1) (by omega) (by omega)
    · have hbt : bt x s9 := c_3
      refine g_aload_n (pc9 := 24) C rfl 1 dX10_gatherShared_23 rfl rfl ?_
      refine g_get (v := .ref (w.1 (40))) (pc9 := 27) C rfl (31) 3 dX10_gatherShared_24 (by decide) (ce_31 w (sN (sI σ (42) ((gsO σ x q ((0, iA σ 42) : Fam) s9).2)) (41) 1 (nI ((gsO σ x q ((0, iA σ 42) : Fam) s9).1)))) hin_10 hl_32 rfl (by decide) rfl rfl ?_
      refine g_iload_n (pc9 := 28) C rfl 0 dX10_gatherShared_27 rfl rfl ?_
      have htv0 := hT.s (i := s9) (by omega)
      refine g_aald (pc9 := 29) C rfl (s9) dX10_gatherShared_28 rfl (by omega) ?_
      skip
      refine g_astore (pc9 := 31) C rfl [(4, .ref (w.1 (64 + 5 * (tS σ s9)))), (3, .int (nI (s9))), (0, .ref (w.1 (31))), (1, .int (x)), (2, .int (q))] dX10_gatherShared_29 (by decide) rfl ?_
      refine g_iconst (pc9 := 32) C rfl (nI (0)) dX10_gatherShared_31 rfl ?_
      refine g_istore (pc9 := 34) C rfl [(5, .int (nI (0))), (4, .ref (w.1 (64 + 5 * (tS σ s9)))), (3, .int (nI (s9))), (0, .ref (w.1 (31))), (1, .int (x)), (2, .int (q))] dX10_gatherShared_32 (by decide) rfl ?_
      have htv := hT.s (i := s9) (by omega)
      have h47 := (hT.2 _ htv).2.1
      refine g_sub [0, 1, 2, 3, 4, 5] [(5, .int (nI (0))), (4, .ref (w.1 (64 + 5 * (tS σ s9)))), (3, .int (nI (s9))), (0, .ref (w.1 (31))), (1, .int (x)), (2, .int (q))] rfl ?_
      refine g_lp1 (α := Nat) (fun v => v ≤ nn σ (tS σ s9)) (fun v => nn σ (tS σ s9) - v) (fun v => G p l e _ s m args below meth c _ w A _ (sN (sI σ (42) ((gsI σ x q s9 (gsO σ x q ((0, iA σ 42) : Fam) s9) v).2)) (41) 1 (nI ((gsI σ x q s9 (gsO σ x q ((0, iA σ 42) : Fam) s9) v).1))) 0 0 34 [(5, .int (nI (v))), (4, .ref (w.1 (64 + 5 * (tS σ s9)))), (3, .int (nI (s9))), (0, .ref (w.1 (31))), (1, .int (x)), (2, .int (q))] []) (fun v hI ih2 => ?_) (0) (Nat.zero_le _)
      obtain hv := hI
      refine g_iload (pc9 := 36) C rfl 0 dX10_gatherShared_34 rfl ?_
      refine g_aload (pc9 := 38) C rfl 1 dX10_gatherShared_36 rfl ?_
      refine g_get (v := .int (nI (nn σ (tS σ s9)))) (pc9 := 41) C rfl (64 + 5 * (tS σ s9)) 4 dX10_gatherShared_38 (by omega) (ce_tree w (sN (sI σ (42) ((gsI σ x q s9 (gsO σ x q ((0, iA σ 42) : Fam) s9) v).2)) (41) 1 (nI ((gsI σ x q s9 (gsO σ x q ((0, iA σ 42) : Fam) s9) v).1))) ((tS σ s9))) hin_7 hl_151 rfl (by decide) rfl (congrArg (fun z => some (Value.int z)) (((nF_n (by omega)).trans (nF_I)).trans (hT.2 _ htv).1)) ?_
      refine g_icmp_ge (pc9 := 44) C rfl 82 dX10_gatherShared_41 rfl (fun c_4 => ?_) (fun c_4 => ?_)
      · replace c_4 := (nI_leI (by omega) (by omega)).mp c_4
        have ho9 : gsO σ x q ((0, iA σ 42) : Fam) (s9 + 1) = gsI σ x q s9 (gsO σ x q ((0, iA σ 42) : Fam) s9) v := by rw [show v = nn σ (tS σ s9) by omega]; exact cI_t hbt
        refine g_iinc (pc9 := 85) C rfl [(3, .int (nI (s9 + 1))), (5, .int (nI (v))), (4, .ref (w.1 (64 + 5 * (tS σ s9)))), (0, .ref (w.1 (31))), (1, .int (x)), (2, .int (q))] 2 (nI (s9 + 1)) dX10_gatherShared_82 rfl (nI_1 (s9)) (by decide) rfl ?_
        refine g_goto C 9 dX10_gatherShared_85 rfl ?_
        refine g_sub [0, 3, 4, 5] [(3, .int (nI (s9 + 1))), (0, .ref (w.1 (31))), (1, .int (x)), (2, .int (q))] rfl ?_
        rw [← ho9]
        exact ih (s9 + 1) (by omega) (by omega)
      · replace c_4 := (not_congr (nI_leI (by omega) (by omega))).mp c_4
        refine g_aload_n (pc9 := 45) C rfl 3 dX10_gatherShared_44 rfl rfl ?_
        refine g_iload_n (pc9 := 46) C rfl 4 dX10_gatherShared_45 rfl rfl ?_
        refine g_aload (pc9 := 48) C rfl 1 dX10_gatherShared_46 rfl ?_
        refine g_get (v := .ref (w.1 (67 + 5 * (tS σ s9)))) (pc9 := 51) C rfl (64 + 5 * (tS σ s9)) 2 dX10_gatherShared_48 (by omega) (ce_tree w (sN (sI σ (42) ((gsI σ x q s9 (gsO σ x q ((0, iA σ 42) : Fam) s9) v).2)) (41) 1 (nI ((gsI σ x q s9 (gsO σ x q ((0, iA σ 42) : Fam) s9) v).1))) ((tS σ s9))) hin_7 hl_207 rfl (by decide) rfl rfl ?_
        refine g_iload (pc9 := 53) C rfl 0 dX10_gatherShared_51 rfl ?_
        refine g_iald (x := (iA σ (67 + 5 * (tS σ s9))) (v)) (pc9 := 54) C rfl (67 + 5 * (tS σ s9)) (v) dX10_gatherShared_53 (by omega) (ce_cluster w (sN (sI σ (42) ((gsI σ x q s9 (gsO σ x q ((0, iA σ 42) : Fam) s9) v).2)) (41) 1 (nI ((gsI σ x q s9 (gsO σ x q ((0, iA σ 42) : Fam) s9) v).1))) ((tS σ s9))) rfl (by omega) (by decide) (congrFun ((iA_N).trans (iA_n (by omega))) _) ?_
        refine g_callVi (nn := 2) (rest := []) (pc9 := 57) C rfl (31) [.int (x), .int ((iA σ (67 + 5 * (tS σ s9))) (v))] rfl dX10_gatherShared_54 (m_hold l w σ (gsI σ x q s9 (gsO σ x q ((0, iA σ 42) : Fam) s9) v) hT x (tC σ (tS σ s9) v)) gX10_gatherShared_X10_holders (by decide) (ce_31 w (sN (sI σ (42) ((gsI σ x q s9 (gsO σ x q ((0, iA σ 42) : Fam) s9) v).2)) (41) 1 (nI ((gsI σ x q s9 (gsO σ x q ((0, iA σ 42) : Fam) s9) v).1)))) rfl rfl rfl rfl rfl (by decide +kernel) ⟨by decide, by decide⟩ rfl (Nat.le_of_ble_eq_true rfl) ⟨by decide, by decide⟩ (fun r_5 σ_5 q_5 => ?_)
        obtain ⟨qs_5, qr_5⟩ := q_5
        replace qs_5 : σ_5 = sN (sI σ (42) ((gsI σ x q s9 (gsO σ x q ((0, iA σ 42) : Fam) s9) v).2)) (41) 1 (nI ((gsI σ x q s9 (gsO σ x q ((0, iA σ 42) : Fam) s9) v).1)) := qs_5
        rw [qs_5, qr_5]
        clear qs_5 qr_5
        refine g_iload_n (pc9 := 58) C rfl 5 dX10_gatherShared_57 rfl rfl ?_
        refine g_icmp_lt (pc9 := 61) C rfl 76 dX10_gatherShared_58 rfl (fun c_6 => ?_) (fun c_6 => ?_)
        · have hs9 : gsI σ x q s9 (gsO σ x q ((0, iA σ 42) : Fam) s9) (v + 1) = gsI σ x q s9 (gsO σ x q ((0, iA σ 42) : Fam) s9) v := cI_f (Int32.not_le.mpr c_6)
          refine g_iinc (pc9 := 79) C rfl [(5, .int (nI (v + 1))), (4, .ref (w.1 (64 + 5 * (tS σ s9)))), (3, .int (nI (s9))), (0, .ref (w.1 (31))), (1, .int (x)), (2, .int (q))] 0 (nI (v + 1)) dX10_gatherShared_76 rfl (nI_1 (v)) (by decide) rfl ?_
          refine g_goto C 34 dX10_gatherShared_79 rfl ?_
          refine g_sub [0, 1, 2, 3, 4, 5] [(5, .int (nI (v + 1))), (4, .ref (w.1 (64 + 5 * (tS σ s9)))), (3, .int (nI (s9))), (0, .ref (w.1 (31))), (1, .int (x)), (2, .int (q))] rfl ?_
          rw [← hs9]
          exact ih2 (v + 1) (by omega) (by omega)
        · have hs9 : gsI σ x q s9 (gsO σ x q ((0, iA σ 42) : Fam) s9) (v + 1) = (famZ (gsI σ x q s9 (gsO σ x q ((0, iA σ 42) : Fam) s9) v).1 (gsI σ x q s9 (gsO σ x q ((0, iA σ 42) : Fam) s9) v).2 (tC σ (tS σ s9) v), famF (gsI σ x q s9 (gsO σ x q ((0, iA σ 42) : Fam) s9) v).1 (gsI σ x q s9 (gsO σ x q ((0, iA σ 42) : Fam) s9) v).2 (tC σ (tS σ s9) v)) := cI_t (Int32.not_lt.mp c_6)
          refine g_aload_n (pc9 := 62) C rfl 3 dX10_gatherShared_61 rfl rfl ?_
          refine g_get (v := .ref (w.1 (41))) (pc9 := 65) C rfl (31) 4 dX10_gatherShared_62 (by decide) (ce_31 w (sN (sI σ (42) ((gsI σ x q s9 (gsO σ x q ((0, iA σ 42) : Fam) s9) v).2)) (41) 1 (nI ((gsI σ x q s9 (gsO σ x q ((0, iA σ 42) : Fam) s9) v).1)))) hin_10 hl_39 rfl (by decide) rfl rfl ?_
          refine g_aload (pc9 := 67) C rfl 1 dX10_gatherShared_65 rfl ?_
          refine g_get (v := .ref (w.1 (67 + 5 * (tS σ s9)))) (pc9 := 70) C rfl (64 + 5 * (tS σ s9)) 2 dX10_gatherShared_67 (by omega) (ce_tree w (sN (sI σ (42) ((gsI σ x q s9 (gsO σ x q ((0, iA σ 42) : Fam) s9) v).2)) (41) 1 (nI ((gsI σ x q s9 (gsO σ x q ((0, iA σ 42) : Fam) s9) v).1))) ((tS σ s9))) hin_7 hl_207 rfl (by decide) rfl rfl ?_
          refine g_iload (pc9 := 72) C rfl 0 dX10_gatherShared_70 rfl ?_
          refine g_iald (x := (iA σ (67 + 5 * (tS σ s9))) (v)) (pc9 := 73) C rfl (67 + 5 * (tS σ s9)) (v) dX10_gatherShared_72 (by omega) (ce_cluster w (sN (sI σ (42) ((gsI σ x q s9 (gsO σ x q ((0, iA σ 42) : Fam) s9) v).2)) (41) 1 (nI ((gsI σ x q s9 (gsO σ x q ((0, iA σ 42) : Fam) s9) v).1))) ((tS σ s9))) rfl (by omega) (by decide) (congrFun ((iA_N).trans (iA_n (by omega))) _) ?_
          refine g_callVv (nn := 1) (rest := []) (pc9 := 76) C rfl (41) [.int ((iA σ (67 + 5 * (tS σ s9))) (v))] rfl dX10_gatherShared_73 (m_X1_addCluster l w σ _ _ (gsI_le (gsO_le (Nat.zero_le _) s9) v) (tC σ (tS σ s9) v)) gX10_gatherShared_X1_addCluster (by decide) (ce_41 w (sN (sI σ (42) ((gsI σ x q s9 (gsO σ x q ((0, iA σ 42) : Fam) s9) v).2)) (41) 1 (nI ((gsI σ x q s9 (gsO σ x q ((0, iA σ 42) : Fam) s9) v).1)))) rfl rfl rfl rfl rfl (by decide +kernel) ⟨by decide, by decide⟩ rfl (Nat.le_of_ble_eq_true rfl) ⟨by decide, by decide⟩ (fun σ_7 q_7 => ?_)
          replace q_7 : σ_7 = faS σ (famZ (gsI σ x q s9 (gsO σ x q ((0, iA σ 42) : Fam) s9) v).1 (gsI σ x q s9 (gsO σ x q ((0, iA σ 42) : Fam) s9) v).2 (tC σ (tS σ s9) v), famF (gsI σ x q s9 (gsO σ x q ((0, iA σ 42) : Fam) s9) v).1 (gsI σ x q s9 (gsO σ x q ((0, iA σ 42) : Fam) s9) v).2 (tC σ (tS σ s9) v)) := q_7
          rw [← hs9] at q_7
          rw [q_7]
          clear q_7 hs9
          have hs9 : True := trivial
          refine g_iinc (pc9 := 79) C rfl [(5, .int (nI (v + 1))), (4, .ref (w.1 (64 + 5 * (tS σ s9)))), (3, .int (nI (s9))), (0, .ref (w.1 (31))), (1, .int (x)), (2, .int (q))] 0 (nI (v + 1)) dX10_gatherShared_76 rfl (nI_1 (v)) (by decide) rfl ?_
          refine g_goto C 34 dX10_gatherShared_79 rfl ?_
          refine g_sub [0, 1, 2, 3, 4, 5] [(5, .int (nI (v + 1))), (4, .ref (w.1 (64 + 5 * (tS σ s9)))), (3, .int (nI (s9))), (0, .ref (w.1 (31))), (1, .int (x)), (2, .int (q))] rfl ?_
          exact ih2 (v + 1) (by omega) (by omega)

/-! Tree: a tree's content: n nodes, m leaves, parents, kinds, clusters, children; a node more -/
abbrev trS (σ : St) (j n lf : Nat) (pF kF cF hF : Nat → Int32) : St := sN (sN (sI (sI (sI (sI σ (65 + 5 * j) pF) (66 + 5 * j) kF) (67 + 5 * j) cF) (68 + 5 * j) hF) (64 + 5 * j) 4 (nI n)) (64 + 5 * j) 5 (nI lf)
def kN (k : Int32) : Nat := if k = -1 then 0 else 1
def kB (k : Int32) : Int32 := if k = -1 then nI 0 else nI 1 <<< (k &&& 31)
theorem kN_y {k : Int32} (h : k = -1) : kN k = 0 := if_pos h
theorem kN_n {k : Int32} (h : ¬ k = -1) : kN k = 1 := if_neg h
theorem kB_y {k : Int32} (h : k = -1) : kB k = nI 0 := if_pos h
theorem kB_n {k : Int32} (h : ¬ k = -1) : kB k = nI 1 <<< (k &&& 31) := if_neg h
set_option maxRecDepth 100000 in
set_option maxHeartbeats 4000000 in
theorem m_X7_addRoot (l : Launch) (w : Wd) (σ : St) (j : Nat) (hj : j < 9) (lf : Nat) (pF kF cF hF : Nat → Int32) (a k : Int32) : MI l yX7_addNode wsX7_addNode (rmL 1) w [.ref (w.1 (64 + 5 * j)), .int (a), .int (k)] (sN (sN (sI (sI (sI (sI σ (65 + 5 * j) (pF)) (66 + 5 * j) (kF)) (67 + 5 * j) (cF)) (68 + 5 * j) (hF)) (64 + 5 * j) 4 (nI (0))) (64 + 5 * j) 5 (nI (lf))) (fun r σ9 => σ9 = trS σ j 1 (lf + kN k) (upd pF 0 (-1)) (upd kF 0 k) (upd cF 0 (kB k)) (upd hF 0 (nI 0)) ∧ r = nI 0) := by
  refine MI_of (cc := cX7_addNode) (maxL := 4) (ret := .int) (by decide) rfl (Nat.le_of_ble_eq_true rfl) ?_
  intro p e s m args below meth c A C hr hlk
  have C : Cx p s m args c w A cX7_addNode RX7 4 wsX7_addNode := C
  have hin_7 : ∀ u ∈ wsX70, u ∈ wsX7_addNode := by decide +kernel
  have hl_9 : Cond.fieldLink RX7 9 "LineageBench$Tree" "parent" "[I" ∈ wsX7_addNode := by decide +kernel
  have hl_15 : Cond.fieldLink RX7 15 "LineageBench$Tree" "kind" "[I" ∈ wsX7_addNode := by decide +kernel
  have hl_18 : Cond.fieldLink RX7 18 "LineageBench$Tree" "cluster" "[I" ∈ wsX7_addNode := by decide +kernel
  have hl_21 : Cond.fieldLink RX7 21 "LineageBench$Tree" "children" "[I" ∈ wsX7_addNode := by decide +kernel
  have hl_24 : Cond.fieldLink RX7 24 "LineageBench$Tree" "nodes" "I" ∈ wsX7_addNode := by decide +kernel
  have hl_28 : Cond.fieldLink RX7 28 "LineageBench$Tree" "leaves" "I" ∈ wsX7_addNode := by decide +kernel
  refine g_aload_n (pc9 := 1) C rfl 0 dX7_addNode_0 rfl rfl ?_
  refine g_get (v := .int (nI (0))) (pc9 := 4) C rfl (64 + 5 * j) 4 dX7_addNode_1 (by omega) (ce_tree w (sN (sN (sI (sI (sI (sI σ (65 + 5 * j) (pF)) (66 + 5 * j) (kF)) (67 + 5 * j) (cF)) (68 + 5 * j) (hF)) (64 + 5 * j) 4 (nI (0))) (64 + 5 * j) 5 (nI (lf))) (j)) hin_7 hl_24 rfl (by decide) rfl (congrArg (fun z => some (Value.int z)) ((nF_k (k := 5) (k9 := 4) (by decide)).trans (nF_s))) ?_
  refine g_istore_n (pc9 := 5) C rfl [(3, .int (nI (0))), (0, .ref (w.1 (64 + 5 * j))), (1, .int (a)), (2, .int (k))] dX7_addNode_4 rfl (by decide) rfl ?_
  refine g_iload_n (pc9 := 6) C rfl 0 dX7_addNode_5 rfl rfl ?_
  refine g_bipush (pc9 := 8) C rfl (nI (47)) dX7_addNode_6 rfl ?_
  refine g_icmp_ge (pc9 := 11) C rfl 24 dX7_addNode_8 rfl (fun c_1 => ?_) (fun c_1 => ?_)
  · exact absurd c_1 (by decide)
  · refine g_iload_n (pc9 := 12) C rfl 0 dX7_addNode_11 rfl rfl ?_
    refine g_if_le (pc9 := 15) C rfl 26 dX7_addNode_12 rfl (fun c_2 => ?_) (fun c_2 => ?_)
    · refine g_aload_n (pc9 := 27) C rfl 1 dX7_addNode_26 rfl rfl ?_
      refine g_get (v := .ref (w.1 (65 + 5 * j))) (pc9 := 30) C rfl (64 + 5 * j) 0 dX7_addNode_27 (by omega) (ce_tree w (sN (sN (sI (sI (sI (sI σ (65 + 5 * j) (pF)) (66 + 5 * j) (kF)) (67 + 5 * j) (cF)) (68 + 5 * j) (hF)) (64 + 5 * j) 4 (nI (0))) (64 + 5 * j) 5 (nI (lf))) (j)) hin_7 hl_9 rfl (by decide) rfl rfl ?_
      refine g_iload_n (pc9 := 31) C rfl 0 dX7_addNode_30 rfl rfl ?_
      refine g_iload_n (pc9 := 32) C rfl 0 dX7_addNode_31 rfl rfl ?_
      refine g_if_ne (pc9 := 35) C rfl 39 dX7_addNode_32 rfl (fun c_3 => ?_) (fun c_3 => ?_)
      · exact absurd c_3 (by decide)
      · refine g_iconst (pc9 := 36) C rfl ((-1)) dX7_addNode_35 rfl ?_
        refine g_goto C 40 dX7_addNode_36 rfl ?_
        refine g_iast (pc9 := 41) C rfl (65 + 5 * j) (0) (pF) dX7_addNode_40 (by omega) (fun f => ca_parent w _ (j) f) (ce_parent w (sN (sN (sI (sI (sI (sI σ (65 + 5 * j) (pF)) (66 + 5 * j) (kF)) (67 + 5 * j) (cF)) (68 + 5 * j) (hF)) (64 + 5 * j) 4 (nI (0))) (64 + 5 * j) 5 (nI (lf))) (j)) rfl (by omega) (by decide) ((((((iA_N).trans (iA_N)).trans (iA_n (by omega))).trans (iA_n (by omega))).trans (iA_n (by omega))).trans (iA_s)) ?_
        rw [sI_sN (a := 64 + 5 * j) (k := 5) (b := 65 + 5 * j), sI_sN (a := 64 + 5 * j) (k := 4) (b := 65 + 5 * j), sI_cm (a := 68 + 5 * j) (b := 65 + 5 * j) (by omega), sI_cm (a := 67 + 5 * j) (b := 65 + 5 * j) (by omega), sI_cm (a := 66 + 5 * j) (b := 65 + 5 * j) (by omega), sI_sI (a := 65 + 5 * j)]
        refine g_aload_n (pc9 := 42) C rfl 1 dX7_addNode_41 rfl rfl ?_
        refine g_get (v := .ref (w.1 (66 + 5 * j))) (pc9 := 45) C rfl (64 + 5 * j) 1 dX7_addNode_42 (by omega) (ce_tree w (sN (sN (sI (sI (sI (sI σ (65 + 5 * j) (upd (pF) (0) ((-1)))) (66 + 5 * j) (kF)) (67 + 5 * j) (cF)) (68 + 5 * j) (hF)) (64 + 5 * j) 4 (nI (0))) (64 + 5 * j) 5 (nI (lf))) (j)) hin_7 hl_15 rfl (by decide) rfl rfl ?_
        refine g_iload_n (pc9 := 46) C rfl 0 dX7_addNode_45 rfl rfl ?_
        refine g_iload_n (pc9 := 47) C rfl 3 dX7_addNode_46 rfl rfl ?_
        refine g_iast (pc9 := 48) C rfl (66 + 5 * j) (0) (kF) dX7_addNode_47 (by omega) (fun f => ca_kind w _ (j) f) (ce_kind w (sN (sN (sI (sI (sI (sI σ (65 + 5 * j) (upd (pF) (0) ((-1)))) (66 + 5 * j) (kF)) (67 + 5 * j) (cF)) (68 + 5 * j) (hF)) (64 + 5 * j) 4 (nI (0))) (64 + 5 * j) 5 (nI (lf))) (j)) rfl (by omega) (by decide) (((((iA_N).trans (iA_N)).trans (iA_n (by omega))).trans (iA_n (by omega))).trans (iA_s)) ?_
        rw [sI_sN (a := 64 + 5 * j) (k := 5) (b := 66 + 5 * j), sI_sN (a := 64 + 5 * j) (k := 4) (b := 66 + 5 * j), sI_cm (a := 68 + 5 * j) (b := 66 + 5 * j) (by omega), sI_cm (a := 67 + 5 * j) (b := 66 + 5 * j) (by omega), sI_sI (a := 66 + 5 * j)]
        refine g_aload_n (pc9 := 49) C rfl 1 dX7_addNode_48 rfl rfl ?_
        refine g_get (v := .ref (w.1 (68 + 5 * j))) (pc9 := 52) C rfl (64 + 5 * j) 3 dX7_addNode_49 (by omega) (ce_tree w (sN (sN (sI (sI (sI (sI σ (65 + 5 * j) (upd (pF) (0) ((-1)))) (66 + 5 * j) (upd (kF) (0) (k))) (67 + 5 * j) (cF)) (68 + 5 * j) (hF)) (64 + 5 * j) 4 (nI (0))) (64 + 5 * j) 5 (nI (lf))) (j)) hin_7 hl_21 rfl (by decide) rfl rfl ?_
        refine g_iload_n (pc9 := 53) C rfl 0 dX7_addNode_52 rfl rfl ?_
        refine g_iconst (pc9 := 54) C rfl (nI (0)) dX7_addNode_53 rfl ?_
        refine g_iast (pc9 := 55) C rfl (68 + 5 * j) (0) (hF) dX7_addNode_54 (by omega) (fun f => ca_children w _ (j) f) (ce_children w (sN (sN (sI (sI (sI (sI σ (65 + 5 * j) (upd (pF) (0) ((-1)))) (66 + 5 * j) (upd (kF) (0) (k))) (67 + 5 * j) (cF)) (68 + 5 * j) (hF)) (64 + 5 * j) 4 (nI (0))) (64 + 5 * j) 5 (nI (lf))) (j)) rfl (by omega) (by decide) (((iA_N).trans (iA_N)).trans (iA_s)) ?_
        rw [sI_sN (a := 64 + 5 * j) (k := 5) (b := 68 + 5 * j), sI_sN (a := 64 + 5 * j) (k := 4) (b := 68 + 5 * j), sI_sI (a := 68 + 5 * j)]
        refine g_aload_n (pc9 := 56) C rfl 1 dX7_addNode_55 rfl rfl ?_
        refine g_get (v := .ref (w.1 (67 + 5 * j))) (pc9 := 59) C rfl (64 + 5 * j) 2 dX7_addNode_56 (by omega) (ce_tree w (sN (sN (sI (sI (sI (sI σ (65 + 5 * j) (upd (pF) (0) ((-1)))) (66 + 5 * j) (upd (kF) (0) (k))) (67 + 5 * j) (cF)) (68 + 5 * j) (upd (hF) (0) (nI (0)))) (64 + 5 * j) 4 (nI (0))) (64 + 5 * j) 5 (nI (lf))) (j)) hin_7 hl_18 rfl (by decide) rfl rfl ?_
        refine g_iload_n (pc9 := 60) C rfl 0 dX7_addNode_59 rfl rfl ?_
        refine g_iload_n (pc9 := 61) C rfl 3 dX7_addNode_60 rfl rfl ?_
        refine g_iconst (pc9 := 62) C rfl ((-1)) dX7_addNode_61 rfl ?_
        refine g_icmp_ne (pc9 := 65) C rfl 69 dX7_addNode_62 rfl (fun c_4 => ?_) (fun c_4 => ?_)
        · have hk := c_4
          refine g_iconst (pc9 := 70) C rfl (nI (1)) dX7_addNode_69 rfl ?_
          refine g_iload_n (pc9 := 71) C rfl 3 dX7_addNode_70 rfl rfl ?_
          refine g_ishl (pc9 := 72) C rfl dX7_addNode_71 ?_
          refine g_iast (pc9 := 73) C rfl (67 + 5 * j) (0) (cF) dX7_addNode_72 (by omega) (fun f => ca_cluster w _ (j) f) (ce_cluster w (sN (sN (sI (sI (sI (sI σ (65 + 5 * j) (upd (pF) (0) ((-1)))) (66 + 5 * j) (upd (kF) (0) (k))) (67 + 5 * j) (cF)) (68 + 5 * j) (upd (hF) (0) (nI (0)))) (64 + 5 * j) 4 (nI (0))) (64 + 5 * j) 5 (nI (lf))) (j)) rfl (by omega) (by decide) ((((iA_N).trans (iA_N)).trans (iA_n (by omega))).trans (iA_s)) ?_
          rw [sI_sN (a := 64 + 5 * j) (k := 5) (b := 67 + 5 * j), sI_sN (a := 64 + 5 * j) (k := 4) (b := 67 + 5 * j), sI_cm (a := 68 + 5 * j) (b := 67 + 5 * j) (by omega), sI_sI (a := 67 + 5 * j)]
          refine g_aload_n (pc9 := 74) C rfl 1 dX7_addNode_73 rfl rfl ?_
          refine g_dup (pc9 := 75) C rfl dX7_addNode_74 rfl ?_
          refine g_get (v := .int (nI (lf))) (pc9 := 78) C rfl (64 + 5 * j) 5 dX7_addNode_75 (by omega) (ce_tree w (sN (sN (sI (sI (sI (sI σ (65 + 5 * j) (upd (pF) (0) ((-1)))) (66 + 5 * j) (upd (kF) (0) (k))) (67 + 5 * j) (upd (cF) (0) ((nI (1)) <<< ((k) &&& 31)))) (68 + 5 * j) (upd (hF) (0) (nI (0)))) (64 + 5 * j) 4 (nI (0))) (64 + 5 * j) 5 (nI (lf))) (j)) hin_7 hl_28 rfl (by decide) rfl (congrArg (fun z => some (Value.int z)) (nF_s)) ?_
          refine g_iload_n (pc9 := 79) C rfl 3 dX7_addNode_78 rfl rfl ?_
          refine g_iconst (pc9 := 80) C rfl ((-1)) dX7_addNode_79 rfl ?_
          refine g_icmp_ne (pc9 := 83) C rfl 87 dX7_addNode_80 rfl (fun c_5 => ?_) (fun c_5 => ?_)
          · refine g_iconst (pc9 := 88) C rfl (nI (1)) dX7_addNode_87 rfl ?_
            refine g_iaddN (pc9 := 89) C rfl dX7_addNode_88 ?_
            refine g_put (pc9 := 92) C rfl (64 + 5 * j) 5 dX7_addNode_89 (by omega) (ce_tree w (sN (sN (sI (sI (sI (sI σ (65 + 5 * j) (upd (pF) (0) ((-1)))) (66 + 5 * j) (upd (kF) (0) (k))) (67 + 5 * j) (upd (cF) (0) ((nI (1)) <<< ((k) &&& 31)))) (68 + 5 * j) (upd (hF) (0) (nI (0)))) (64 + 5 * j) 4 (nI (0))) (64 + 5 * j) 5 (nI (lf))) (j)) (cn_tree_5 w _ _ _) hin_7 hl_28 tyX7 tyX7_ok nmX7 rfl (by decide) rfl rfl rfl (Nat.le_of_ble_eq_true rfl) ?_
            rw [sN_sN]
            refine g_iload_n (pc9 := 93) C rfl 0 dX7_addNode_92 rfl rfl ?_
            refine g_if_le (pc9 := 96) C rfl 106 dX7_addNode_93 rfl (fun c_6 => ?_) (fun c_6 => ?_)
            · refine g_aload_n (pc9 := 107) C rfl 1 dX7_addNode_106 rfl rfl ?_
              refine g_dup (pc9 := 108) C rfl dX7_addNode_107 rfl ?_
              refine g_get (v := .int (nI (0))) (pc9 := 111) C rfl (64 + 5 * j) 4 dX7_addNode_108 (by omega) (ce_tree w (sN (sN (sI (sI (sI (sI σ (65 + 5 * j) (upd (pF) (0) ((-1)))) (66 + 5 * j) (upd (kF) (0) (k))) (67 + 5 * j) (upd (cF) (0) ((nI (1)) <<< ((k) &&& 31)))) (68 + 5 * j) (upd (hF) (0) (nI (0)))) (64 + 5 * j) 4 (nI (0))) (64 + 5 * j) 5 (nI (lf + 1))) (j)) hin_7 hl_24 rfl (by decide) rfl (congrArg (fun z => some (Value.int z)) ((nF_k (k := 5) (k9 := 4) (by decide)).trans (nF_s))) ?_
              refine g_iconst (pc9 := 112) C rfl (nI (1)) dX7_addNode_111 rfl ?_
              refine g_iaddN (pc9 := 113) C rfl dX7_addNode_112 ?_
              refine g_put (pc9 := 116) C rfl (64 + 5 * j) 4 dX7_addNode_113 (by omega) (ce_tree w (sN (sN (sI (sI (sI (sI σ (65 + 5 * j) (upd (pF) (0) ((-1)))) (66 + 5 * j) (upd (kF) (0) (k))) (67 + 5 * j) (upd (cF) (0) ((nI (1)) <<< ((k) &&& 31)))) (68 + 5 * j) (upd (hF) (0) (nI (0)))) (64 + 5 * j) 4 (nI (0))) (64 + 5 * j) 5 (nI (lf + 1))) (j)) (cn_tree_4 w _ _ _) hin_7 hl_24 tyX7 tyX7_ok nmX7 rfl (by decide) rfl rfl rfl (Nat.le_of_ble_eq_true rfl) ?_
              rw [sN_cm (a := 64 + 5 * j) (k := 5) (b := 64 + 5 * j) (k9 := 4) (Or.inr (by decide)), sN_sN]
              refine g_iload_n (pc9 := 117) C rfl 0 dX7_addNode_116 rfl rfl ?_
              exact g_ireturn C hr hlk dX7_addNode_117 ⟨by first | (rw [kN_y hk, kB_y hk]) | (rw [kN_n hk, kB_n hk]), rfl⟩
            · exact absurd c_6 (by decide)
          · exact absurd c_5 c_4
        · have hk := c_4
          refine g_iconst (pc9 := 66) C rfl (nI (0)) dX7_addNode_65 rfl ?_
          refine g_goto C 72 dX7_addNode_66 rfl ?_
          refine g_iast (pc9 := 73) C rfl (67 + 5 * j) (0) (cF) dX7_addNode_72 (by omega) (fun f => ca_cluster w _ (j) f) (ce_cluster w (sN (sN (sI (sI (sI (sI σ (65 + 5 * j) (upd (pF) (0) ((-1)))) (66 + 5 * j) (upd (kF) (0) (k))) (67 + 5 * j) (cF)) (68 + 5 * j) (upd (hF) (0) (nI (0)))) (64 + 5 * j) 4 (nI (0))) (64 + 5 * j) 5 (nI (lf))) (j)) rfl (by omega) (by decide) ((((iA_N).trans (iA_N)).trans (iA_n (by omega))).trans (iA_s)) ?_
          rw [sI_sN (a := 64 + 5 * j) (k := 5) (b := 67 + 5 * j), sI_sN (a := 64 + 5 * j) (k := 4) (b := 67 + 5 * j), sI_cm (a := 68 + 5 * j) (b := 67 + 5 * j) (by omega), sI_sI (a := 67 + 5 * j)]
          refine g_aload_n (pc9 := 74) C rfl 1 dX7_addNode_73 rfl rfl ?_
          refine g_dup (pc9 := 75) C rfl dX7_addNode_74 rfl ?_
          refine g_get (v := .int (nI (lf))) (pc9 := 78) C rfl (64 + 5 * j) 5 dX7_addNode_75 (by omega) (ce_tree w (sN (sN (sI (sI (sI (sI σ (65 + 5 * j) (upd (pF) (0) ((-1)))) (66 + 5 * j) (upd (kF) (0) (k))) (67 + 5 * j) (upd (cF) (0) (nI (0)))) (68 + 5 * j) (upd (hF) (0) (nI (0)))) (64 + 5 * j) 4 (nI (0))) (64 + 5 * j) 5 (nI (lf))) (j)) hin_7 hl_28 rfl (by decide) rfl (congrArg (fun z => some (Value.int z)) (nF_s)) ?_
          refine g_iload_n (pc9 := 79) C rfl 3 dX7_addNode_78 rfl rfl ?_
          refine g_iconst (pc9 := 80) C rfl ((-1)) dX7_addNode_79 rfl ?_
          refine g_icmp_ne (pc9 := 83) C rfl 87 dX7_addNode_80 rfl (fun c_7 => ?_) (fun c_7 => ?_)
          · exact absurd c_4 c_7
          · refine g_iconst (pc9 := 84) C rfl (nI (0)) dX7_addNode_83 rfl ?_
            refine g_goto C 88 dX7_addNode_84 rfl ?_
            refine g_iaddN (pc9 := 89) C rfl dX7_addNode_88 ?_
            refine g_put (pc9 := 92) C rfl (64 + 5 * j) 5 dX7_addNode_89 (by omega) (ce_tree w (sN (sN (sI (sI (sI (sI σ (65 + 5 * j) (upd (pF) (0) ((-1)))) (66 + 5 * j) (upd (kF) (0) (k))) (67 + 5 * j) (upd (cF) (0) (nI (0)))) (68 + 5 * j) (upd (hF) (0) (nI (0)))) (64 + 5 * j) 4 (nI (0))) (64 + 5 * j) 5 (nI (lf))) (j)) (cn_tree_5 w _ _ _) hin_7 hl_28 tyX7 tyX7_ok nmX7 rfl (by decide) rfl rfl rfl (Nat.le_of_ble_eq_true rfl) ?_
            rw [sN_sN]
            refine g_iload_n (pc9 := 93) C rfl 0 dX7_addNode_92 rfl rfl ?_
            refine g_if_le (pc9 := 96) C rfl 106 dX7_addNode_93 rfl (fun c_8 => ?_) (fun c_8 => ?_)
            · refine g_aload_n (pc9 := 107) C rfl 1 dX7_addNode_106 rfl rfl ?_
              refine g_dup (pc9 := 108) C rfl dX7_addNode_107 rfl ?_
              refine g_get (v := .int (nI (0))) (pc9 := 111) C rfl (64 + 5 * j) 4 dX7_addNode_108 (by omega) (ce_tree w (sN (sN (sI (sI (sI (sI σ (65 + 5 * j) (upd (pF) (0) ((-1)))) (66 + 5 * j) (upd (kF) (0) (k))) (67 + 5 * j) (upd (cF) (0) (nI (0)))) (68 + 5 * j) (upd (hF) (0) (nI (0)))) (64 + 5 * j) 4 (nI (0))) (64 + 5 * j) 5 (nI (lf + 0))) (j)) hin_7 hl_24 rfl (by decide) rfl (congrArg (fun z => some (Value.int z)) ((nF_k (k := 5) (k9 := 4) (by decide)).trans (nF_s))) ?_
              refine g_iconst (pc9 := 112) C rfl (nI (1)) dX7_addNode_111 rfl ?_
              refine g_iaddN (pc9 := 113) C rfl dX7_addNode_112 ?_
              refine g_put (pc9 := 116) C rfl (64 + 5 * j) 4 dX7_addNode_113 (by omega) (ce_tree w (sN (sN (sI (sI (sI (sI σ (65 + 5 * j) (upd (pF) (0) ((-1)))) (66 + 5 * j) (upd (kF) (0) (k))) (67 + 5 * j) (upd (cF) (0) (nI (0)))) (68 + 5 * j) (upd (hF) (0) (nI (0)))) (64 + 5 * j) 4 (nI (0))) (64 + 5 * j) 5 (nI (lf + 0))) (j)) (cn_tree_4 w _ _ _) hin_7 hl_24 tyX7 tyX7_ok nmX7 rfl (by decide) rfl rfl rfl (Nat.le_of_ble_eq_true rfl) ?_
              rw [sN_cm (a := 64 + 5 * j) (k := 5) (b := 64 + 5 * j) (k9 := 4) (Or.inr (by decide)), sN_sN]
              refine g_iload_n (pc9 := 117) C rfl 0 dX7_addNode_116 rfl rfl ?_
              exact g_ireturn C hr hlk dX7_addNode_117 ⟨by first | (rw [kN_y hk, kB_y hk]) | (rw [kN_n hk, kB_n hk]), rfl⟩
            · exact absurd c_8 (by decide)
    · exact absurd c_2 (by decide)
set_option maxRecDepth 100000 in
set_option maxHeartbeats 4000000 in
theorem m_X7_addChild (l : Launch) (w : Wd) (σ : St) (j : Nat) (hj : j < 9) (n lf : Nat) (pF kF cF hF : Nat → Int32) (h0 : 0 < n) (h47 : n < 47) (u : Nat) (hu : u < n) (k : Int32) : MI l yX7_addNode wsX7_addNode (rmL 1) w [.ref (w.1 (64 + 5 * j)), .int (nI (u)), .int (k)] (sN (sN (sI (sI (sI (sI σ (65 + 5 * j) (pF)) (66 + 5 * j) (kF)) (67 + 5 * j) (cF)) (68 + 5 * j) (hF)) (64 + 5 * j) 4 (nI (n))) (64 + 5 * j) 5 (nI (lf))) (fun r σ9 => σ9 = trS σ j (n + 1) (lf + kN k) (upd pF n (nI u)) (upd kF n k) (upd cF n (kB k)) (upd (upd hF n (nI 0)) u (upd hF n (nI 0) u + nI 1)) ∧ r = nI n) := by
  refine MI_of (cc := cX7_addNode) (maxL := 4) (ret := .int) (by decide) rfl (Nat.le_of_ble_eq_true rfl) ?_
  intro p e s m args below meth c A C hr hlk
  have C : Cx p s m args c w A cX7_addNode RX7 4 wsX7_addNode := C
  have hin_7 : ∀ u ∈ wsX70, u ∈ wsX7_addNode := by decide +kernel
  have hl_9 : Cond.fieldLink RX7 9 "LineageBench$Tree" "parent" "[I" ∈ wsX7_addNode := by decide +kernel
  have hl_15 : Cond.fieldLink RX7 15 "LineageBench$Tree" "kind" "[I" ∈ wsX7_addNode := by decide +kernel
  have hl_18 : Cond.fieldLink RX7 18 "LineageBench$Tree" "cluster" "[I" ∈ wsX7_addNode := by decide +kernel
  have hl_21 : Cond.fieldLink RX7 21 "LineageBench$Tree" "children" "[I" ∈ wsX7_addNode := by decide +kernel
  have hl_24 : Cond.fieldLink RX7 24 "LineageBench$Tree" "nodes" "I" ∈ wsX7_addNode := by decide +kernel
  have hl_28 : Cond.fieldLink RX7 28 "LineageBench$Tree" "leaves" "I" ∈ wsX7_addNode := by decide +kernel
  refine g_aload_n (pc9 := 1) C rfl 0 dX7_addNode_0 rfl rfl ?_
  refine g_get (v := .int (nI (n))) (pc9 := 4) C rfl (64 + 5 * j) 4 dX7_addNode_1 (by omega) (ce_tree w (sN (sN (sI (sI (sI (sI σ (65 + 5 * j) (pF)) (66 + 5 * j) (kF)) (67 + 5 * j) (cF)) (68 + 5 * j) (hF)) (64 + 5 * j) 4 (nI (n))) (64 + 5 * j) 5 (nI (lf))) (j)) hin_7 hl_24 rfl (by decide) rfl (congrArg (fun z => some (Value.int z)) ((nF_k (k := 5) (k9 := 4) (by decide)).trans (nF_s))) ?_
  refine g_istore_n (pc9 := 5) C rfl [(3, .int (nI (n))), (0, .ref (w.1 (64 + 5 * j))), (1, .int (nI (u))), (2, .int (k))] dX7_addNode_4 rfl (by decide) rfl ?_
  refine g_iload_n (pc9 := 6) C rfl 0 dX7_addNode_5 rfl rfl ?_
  refine g_bipush (pc9 := 8) C rfl (nI (47)) dX7_addNode_6 rfl ?_
  refine g_icmp_ge (pc9 := 11) C rfl 24 dX7_addNode_8 rfl (fun c_1 => ?_) (fun c_1 => ?_)
  · replace c_1 := (nI_leI (by omega) (by omega)).mp c_1
    exact absurd h47 (by omega)
  · replace c_1 := (not_congr (nI_leI (by omega) (by omega))).mp c_1
    refine g_iload_n (pc9 := 12) C rfl 0 dX7_addNode_11 rfl rfl ?_
    refine g_if_le (pc9 := 15) C rfl 26 dX7_addNode_12 rfl (fun c_2 => ?_) (fun c_2 => ?_)
    · replace c_2 := (z_le (by omega)).mp c_2
      exact absurd h0 (by omega)
    · replace c_2 := (not_congr (z_le (by omega))).mp c_2
      refine g_iload_n (pc9 := 16) C rfl 2 dX7_addNode_15 rfl rfl ?_
      refine g_if_lt (pc9 := 19) C rfl 24 dX7_addNode_16 rfl (fun c_3 => ?_) (fun c_3 => ?_)
      · replace c_3 := (z_lt (by omega)).mp c_3
        exact absurd c_3 (by simp)
      · replace c_3 := (not_congr (z_lt (by omega))).mp c_3
        refine g_iload_n (pc9 := 20) C rfl 2 dX7_addNode_19 rfl rfl ?_
        refine g_iload_n (pc9 := 21) C rfl 0 dX7_addNode_20 rfl rfl ?_
        refine g_icmp_lt (pc9 := 24) C rfl 26 dX7_addNode_21 rfl (fun c_4 => ?_) (fun c_4 => ?_)
        · replace c_4 := (nI_ltI (by omega) (by omega)).mp c_4
          refine g_aload_n (pc9 := 27) C rfl 1 dX7_addNode_26 rfl rfl ?_
          refine g_get (v := .ref (w.1 (65 + 5 * j))) (pc9 := 30) C rfl (64 + 5 * j) 0 dX7_addNode_27 (by omega) (ce_tree w (sN (sN (sI (sI (sI (sI σ (65 + 5 * j) (pF)) (66 + 5 * j) (kF)) (67 + 5 * j) (cF)) (68 + 5 * j) (hF)) (64 + 5 * j) 4 (nI (n))) (64 + 5 * j) 5 (nI (lf))) (j)) hin_7 hl_9 rfl (by decide) rfl rfl ?_
          refine g_iload_n (pc9 := 31) C rfl 0 dX7_addNode_30 rfl rfl ?_
          refine g_iload_n (pc9 := 32) C rfl 0 dX7_addNode_31 rfl rfl ?_
          refine g_if_ne (pc9 := 35) C rfl 39 dX7_addNode_32 rfl (fun c_5 => ?_) (fun c_5 => ?_)
          · replace c_5 := (not_congr (z_eq (by omega))).mp c_5
            refine g_iload_n (pc9 := 40) C rfl 2 dX7_addNode_39 rfl rfl ?_
            refine g_iast (pc9 := 41) C rfl (65 + 5 * j) (n) (pF) dX7_addNode_40 (by omega) (fun f => ca_parent w _ (j) f) (ce_parent w (sN (sN (sI (sI (sI (sI σ (65 + 5 * j) (pF)) (66 + 5 * j) (kF)) (67 + 5 * j) (cF)) (68 + 5 * j) (hF)) (64 + 5 * j) 4 (nI (n))) (64 + 5 * j) 5 (nI (lf))) (j)) rfl (by omega) (by decide) ((((((iA_N).trans (iA_N)).trans (iA_n (by omega))).trans (iA_n (by omega))).trans (iA_n (by omega))).trans (iA_s)) ?_
            rw [sI_sN (a := 64 + 5 * j) (k := 5) (b := 65 + 5 * j), sI_sN (a := 64 + 5 * j) (k := 4) (b := 65 + 5 * j), sI_cm (a := 68 + 5 * j) (b := 65 + 5 * j) (by omega), sI_cm (a := 67 + 5 * j) (b := 65 + 5 * j) (by omega), sI_cm (a := 66 + 5 * j) (b := 65 + 5 * j) (by omega), sI_sI (a := 65 + 5 * j)]
            refine g_aload_n (pc9 := 42) C rfl 1 dX7_addNode_41 rfl rfl ?_
            refine g_get (v := .ref (w.1 (66 + 5 * j))) (pc9 := 45) C rfl (64 + 5 * j) 1 dX7_addNode_42 (by omega) (ce_tree w (sN (sN (sI (sI (sI (sI σ (65 + 5 * j) (upd (pF) (n) (nI (u)))) (66 + 5 * j) (kF)) (67 + 5 * j) (cF)) (68 + 5 * j) (hF)) (64 + 5 * j) 4 (nI (n))) (64 + 5 * j) 5 (nI (lf))) (j)) hin_7 hl_15 rfl (by decide) rfl rfl ?_
            refine g_iload_n (pc9 := 46) C rfl 0 dX7_addNode_45 rfl rfl ?_
            refine g_iload_n (pc9 := 47) C rfl 3 dX7_addNode_46 rfl rfl ?_
            refine g_iast (pc9 := 48) C rfl (66 + 5 * j) (n) (kF) dX7_addNode_47 (by omega) (fun f => ca_kind w _ (j) f) (ce_kind w (sN (sN (sI (sI (sI (sI σ (65 + 5 * j) (upd (pF) (n) (nI (u)))) (66 + 5 * j) (kF)) (67 + 5 * j) (cF)) (68 + 5 * j) (hF)) (64 + 5 * j) 4 (nI (n))) (64 + 5 * j) 5 (nI (lf))) (j)) rfl (by omega) (by decide) (((((iA_N).trans (iA_N)).trans (iA_n (by omega))).trans (iA_n (by omega))).trans (iA_s)) ?_
            rw [sI_sN (a := 64 + 5 * j) (k := 5) (b := 66 + 5 * j), sI_sN (a := 64 + 5 * j) (k := 4) (b := 66 + 5 * j), sI_cm (a := 68 + 5 * j) (b := 66 + 5 * j) (by omega), sI_cm (a := 67 + 5 * j) (b := 66 + 5 * j) (by omega), sI_sI (a := 66 + 5 * j)]
            refine g_aload_n (pc9 := 49) C rfl 1 dX7_addNode_48 rfl rfl ?_
            refine g_get (v := .ref (w.1 (68 + 5 * j))) (pc9 := 52) C rfl (64 + 5 * j) 3 dX7_addNode_49 (by omega) (ce_tree w (sN (sN (sI (sI (sI (sI σ (65 + 5 * j) (upd (pF) (n) (nI (u)))) (66 + 5 * j) (upd (kF) (n) (k))) (67 + 5 * j) (cF)) (68 + 5 * j) (hF)) (64 + 5 * j) 4 (nI (n))) (64 + 5 * j) 5 (nI (lf))) (j)) hin_7 hl_21 rfl (by decide) rfl rfl ?_
            refine g_iload_n (pc9 := 53) C rfl 0 dX7_addNode_52 rfl rfl ?_
            refine g_iconst (pc9 := 54) C rfl (nI (0)) dX7_addNode_53 rfl ?_
            refine g_iast (pc9 := 55) C rfl (68 + 5 * j) (n) (hF) dX7_addNode_54 (by omega) (fun f => ca_children w _ (j) f) (ce_children w (sN (sN (sI (sI (sI (sI σ (65 + 5 * j) (upd (pF) (n) (nI (u)))) (66 + 5 * j) (upd (kF) (n) (k))) (67 + 5 * j) (cF)) (68 + 5 * j) (hF)) (64 + 5 * j) 4 (nI (n))) (64 + 5 * j) 5 (nI (lf))) (j)) rfl (by omega) (by decide) (((iA_N).trans (iA_N)).trans (iA_s)) ?_
            rw [sI_sN (a := 64 + 5 * j) (k := 5) (b := 68 + 5 * j), sI_sN (a := 64 + 5 * j) (k := 4) (b := 68 + 5 * j), sI_sI (a := 68 + 5 * j)]
            refine g_aload_n (pc9 := 56) C rfl 1 dX7_addNode_55 rfl rfl ?_
            refine g_get (v := .ref (w.1 (67 + 5 * j))) (pc9 := 59) C rfl (64 + 5 * j) 2 dX7_addNode_56 (by omega) (ce_tree w (sN (sN (sI (sI (sI (sI σ (65 + 5 * j) (upd (pF) (n) (nI (u)))) (66 + 5 * j) (upd (kF) (n) (k))) (67 + 5 * j) (cF)) (68 + 5 * j) (upd (hF) (n) (nI (0)))) (64 + 5 * j) 4 (nI (n))) (64 + 5 * j) 5 (nI (lf))) (j)) hin_7 hl_18 rfl (by decide) rfl rfl ?_
            refine g_iload_n (pc9 := 60) C rfl 0 dX7_addNode_59 rfl rfl ?_
            refine g_iload_n (pc9 := 61) C rfl 3 dX7_addNode_60 rfl rfl ?_
            refine g_iconst (pc9 := 62) C rfl ((-1)) dX7_addNode_61 rfl ?_
            refine g_icmp_ne (pc9 := 65) C rfl 69 dX7_addNode_62 rfl (fun c_6 => ?_) (fun c_6 => ?_)
            · have hk := c_6
              refine g_iconst (pc9 := 70) C rfl (nI (1)) dX7_addNode_69 rfl ?_
              refine g_iload_n (pc9 := 71) C rfl 3 dX7_addNode_70 rfl rfl ?_
              refine g_ishl (pc9 := 72) C rfl dX7_addNode_71 ?_
              refine g_iast (pc9 := 73) C rfl (67 + 5 * j) (n) (cF) dX7_addNode_72 (by omega) (fun f => ca_cluster w _ (j) f) (ce_cluster w (sN (sN (sI (sI (sI (sI σ (65 + 5 * j) (upd (pF) (n) (nI (u)))) (66 + 5 * j) (upd (kF) (n) (k))) (67 + 5 * j) (cF)) (68 + 5 * j) (upd (hF) (n) (nI (0)))) (64 + 5 * j) 4 (nI (n))) (64 + 5 * j) 5 (nI (lf))) (j)) rfl (by omega) (by decide) ((((iA_N).trans (iA_N)).trans (iA_n (by omega))).trans (iA_s)) ?_
              rw [sI_sN (a := 64 + 5 * j) (k := 5) (b := 67 + 5 * j), sI_sN (a := 64 + 5 * j) (k := 4) (b := 67 + 5 * j), sI_cm (a := 68 + 5 * j) (b := 67 + 5 * j) (by omega), sI_sI (a := 67 + 5 * j)]
              refine g_aload_n (pc9 := 74) C rfl 1 dX7_addNode_73 rfl rfl ?_
              refine g_dup (pc9 := 75) C rfl dX7_addNode_74 rfl ?_
              refine g_get (v := .int (nI (lf))) (pc9 := 78) C rfl (64 + 5 * j) 5 dX7_addNode_75 (by omega) (ce_tree w (sN (sN (sI (sI (sI (sI σ (65 + 5 * j) (upd (pF) (n) (nI (u)))) (66 + 5 * j) (upd (kF) (n) (k))) (67 + 5 * j) (upd (cF) (n) ((nI (1)) <<< ((k) &&& 31)))) (68 + 5 * j) (upd (hF) (n) (nI (0)))) (64 + 5 * j) 4 (nI (n))) (64 + 5 * j) 5 (nI (lf))) (j)) hin_7 hl_28 rfl (by decide) rfl (congrArg (fun z => some (Value.int z)) (nF_s)) ?_
              refine g_iload_n (pc9 := 79) C rfl 3 dX7_addNode_78 rfl rfl ?_
              refine g_iconst (pc9 := 80) C rfl ((-1)) dX7_addNode_79 rfl ?_
              refine g_icmp_ne (pc9 := 83) C rfl 87 dX7_addNode_80 rfl (fun c_7 => ?_) (fun c_7 => ?_)
              · refine g_iconst (pc9 := 88) C rfl (nI (1)) dX7_addNode_87 rfl ?_
                refine g_iaddN (pc9 := 89) C rfl dX7_addNode_88 ?_
                refine g_put (pc9 := 92) C rfl (64 + 5 * j) 5 dX7_addNode_89 (by omega) (ce_tree w (sN (sN (sI (sI (sI (sI σ (65 + 5 * j) (upd (pF) (n) (nI (u)))) (66 + 5 * j) (upd (kF) (n) (k))) (67 + 5 * j) (upd (cF) (n) ((nI (1)) <<< ((k) &&& 31)))) (68 + 5 * j) (upd (hF) (n) (nI (0)))) (64 + 5 * j) 4 (nI (n))) (64 + 5 * j) 5 (nI (lf))) (j)) (cn_tree_5 w _ _ _) hin_7 hl_28 tyX7 tyX7_ok nmX7 rfl (by decide) rfl rfl rfl (Nat.le_of_ble_eq_true rfl) ?_
                rw [sN_sN]
                refine g_iload_n (pc9 := 93) C rfl 0 dX7_addNode_92 rfl rfl ?_
                refine g_if_le (pc9 := 96) C rfl 106 dX7_addNode_93 rfl (fun c_8 => ?_) (fun c_8 => ?_)
                · replace c_8 := (z_le (by omega)).mp c_8
                  exact absurd h0 (by omega)
                · replace c_8 := (not_congr (z_le (by omega))).mp c_8
                  refine g_aload_n (pc9 := 97) C rfl 1 dX7_addNode_96 rfl rfl ?_
                  refine g_get (v := .ref (w.1 (68 + 5 * j))) (pc9 := 100) C rfl (64 + 5 * j) 3 dX7_addNode_97 (by omega) (ce_tree w (sN (sN (sI (sI (sI (sI σ (65 + 5 * j) (upd (pF) (n) (nI (u)))) (66 + 5 * j) (upd (kF) (n) (k))) (67 + 5 * j) (upd (cF) (n) ((nI (1)) <<< ((k) &&& 31)))) (68 + 5 * j) (upd (hF) (n) (nI (0)))) (64 + 5 * j) 4 (nI (n))) (64 + 5 * j) 5 (nI (lf + 1))) (j)) hin_7 hl_21 rfl (by decide) rfl rfl ?_
                  refine g_iload_n (pc9 := 101) C rfl 2 dX7_addNode_100 rfl rfl ?_
                  refine g_dup2 (pc9 := 102) C rfl dX7_addNode_101 rfl rfl ?_
                  refine g_iald (x := (upd (hF) (n) (nI (0))) (u)) (pc9 := 103) C rfl (68 + 5 * j) (u) dX7_addNode_102 (by omega) (ce_children w (sN (sN (sI (sI (sI (sI σ (65 + 5 * j) (upd (pF) (n) (nI (u)))) (66 + 5 * j) (upd (kF) (n) (k))) (67 + 5 * j) (upd (cF) (n) ((nI (1)) <<< ((k) &&& 31)))) (68 + 5 * j) (upd (hF) (n) (nI (0)))) (64 + 5 * j) 4 (nI (n))) (64 + 5 * j) 5 (nI (lf + 1))) (j)) rfl (by omega) (by decide) (congrFun (((iA_N).trans (iA_N)).trans (iA_s)) _) ?_
                  refine g_iconst (pc9 := 104) C rfl (nI (1)) dX7_addNode_103 rfl ?_
                  refine g_iadd (pc9 := 105) C rfl dX7_addNode_104 ?_
                  refine g_iast (pc9 := 106) C rfl (68 + 5 * j) (u) (upd (hF) (n) (nI (0))) dX7_addNode_105 (by omega) (fun f => ca_children w _ (j) f) (ce_children w (sN (sN (sI (sI (sI (sI σ (65 + 5 * j) (upd (pF) (n) (nI (u)))) (66 + 5 * j) (upd (kF) (n) (k))) (67 + 5 * j) (upd (cF) (n) ((nI (1)) <<< ((k) &&& 31)))) (68 + 5 * j) (upd (hF) (n) (nI (0)))) (64 + 5 * j) 4 (nI (n))) (64 + 5 * j) 5 (nI (lf + 1))) (j)) rfl (by omega) (by decide) (((iA_N).trans (iA_N)).trans (iA_s)) ?_
                  rw [sI_sN (a := 64 + 5 * j) (k := 5) (b := 68 + 5 * j), sI_sN (a := 64 + 5 * j) (k := 4) (b := 68 + 5 * j), sI_sI (a := 68 + 5 * j)]
                  refine g_aload_n (pc9 := 107) C rfl 1 dX7_addNode_106 rfl rfl ?_
                  refine g_dup (pc9 := 108) C rfl dX7_addNode_107 rfl ?_
                  refine g_get (v := .int (nI (n))) (pc9 := 111) C rfl (64 + 5 * j) 4 dX7_addNode_108 (by omega) (ce_tree w (sN (sN (sI (sI (sI (sI σ (65 + 5 * j) (upd (pF) (n) (nI (u)))) (66 + 5 * j) (upd (kF) (n) (k))) (67 + 5 * j) (upd (cF) (n) ((nI (1)) <<< ((k) &&& 31)))) (68 + 5 * j) (upd (upd (hF) (n) (nI (0))) (u) (((upd (hF) (n) (nI (0))) (u)) + (nI (1))))) (64 + 5 * j) 4 (nI (n))) (64 + 5 * j) 5 (nI (lf + 1))) (j)) hin_7 hl_24 rfl (by decide) rfl (congrArg (fun z => some (Value.int z)) ((nF_k (k := 5) (k9 := 4) (by decide)).trans (nF_s))) ?_
                  refine g_iconst (pc9 := 112) C rfl (nI (1)) dX7_addNode_111 rfl ?_
                  refine g_iaddN (pc9 := 113) C rfl dX7_addNode_112 ?_
                  refine g_put (pc9 := 116) C rfl (64 + 5 * j) 4 dX7_addNode_113 (by omega) (ce_tree w (sN (sN (sI (sI (sI (sI σ (65 + 5 * j) (upd (pF) (n) (nI (u)))) (66 + 5 * j) (upd (kF) (n) (k))) (67 + 5 * j) (upd (cF) (n) ((nI (1)) <<< ((k) &&& 31)))) (68 + 5 * j) (upd (upd (hF) (n) (nI (0))) (u) (((upd (hF) (n) (nI (0))) (u)) + (nI (1))))) (64 + 5 * j) 4 (nI (n))) (64 + 5 * j) 5 (nI (lf + 1))) (j)) (cn_tree_4 w _ _ _) hin_7 hl_24 tyX7 tyX7_ok nmX7 rfl (by decide) rfl rfl rfl (Nat.le_of_ble_eq_true rfl) ?_
                  rw [sN_cm (a := 64 + 5 * j) (k := 5) (b := 64 + 5 * j) (k9 := 4) (Or.inr (by decide)), sN_sN]
                  refine g_iload_n (pc9 := 117) C rfl 0 dX7_addNode_116 rfl rfl ?_
                  exact g_ireturn C hr hlk dX7_addNode_117 ⟨by first | (rw [kN_y hk, kB_y hk]) | (rw [kN_n hk, kB_n hk]), rfl⟩
              · exact absurd c_7 c_6
            · have hk := c_6
              refine g_iconst (pc9 := 66) C rfl (nI (0)) dX7_addNode_65 rfl ?_
              refine g_goto C 72 dX7_addNode_66 rfl ?_
              refine g_iast (pc9 := 73) C rfl (67 + 5 * j) (n) (cF) dX7_addNode_72 (by omega) (fun f => ca_cluster w _ (j) f) (ce_cluster w (sN (sN (sI (sI (sI (sI σ (65 + 5 * j) (upd (pF) (n) (nI (u)))) (66 + 5 * j) (upd (kF) (n) (k))) (67 + 5 * j) (cF)) (68 + 5 * j) (upd (hF) (n) (nI (0)))) (64 + 5 * j) 4 (nI (n))) (64 + 5 * j) 5 (nI (lf))) (j)) rfl (by omega) (by decide) ((((iA_N).trans (iA_N)).trans (iA_n (by omega))).trans (iA_s)) ?_
              rw [sI_sN (a := 64 + 5 * j) (k := 5) (b := 67 + 5 * j), sI_sN (a := 64 + 5 * j) (k := 4) (b := 67 + 5 * j), sI_cm (a := 68 + 5 * j) (b := 67 + 5 * j) (by omega), sI_sI (a := 67 + 5 * j)]
              refine g_aload_n (pc9 := 74) C rfl 1 dX7_addNode_73 rfl rfl ?_
              refine g_dup (pc9 := 75) C rfl dX7_addNode_74 rfl ?_
              refine g_get (v := .int (nI (lf))) (pc9 := 78) C rfl (64 + 5 * j) 5 dX7_addNode_75 (by omega) (ce_tree w (sN (sN (sI (sI (sI (sI σ (65 + 5 * j) (upd (pF) (n) (nI (u)))) (66 + 5 * j) (upd (kF) (n) (k))) (67 + 5 * j) (upd (cF) (n) (nI (0)))) (68 + 5 * j) (upd (hF) (n) (nI (0)))) (64 + 5 * j) 4 (nI (n))) (64 + 5 * j) 5 (nI (lf))) (j)) hin_7 hl_28 rfl (by decide) rfl (congrArg (fun z => some (Value.int z)) (nF_s)) ?_
              refine g_iload_n (pc9 := 79) C rfl 3 dX7_addNode_78 rfl rfl ?_
              refine g_iconst (pc9 := 80) C rfl ((-1)) dX7_addNode_79 rfl ?_
              refine g_icmp_ne (pc9 := 83) C rfl 87 dX7_addNode_80 rfl (fun c_9 => ?_) (fun c_9 => ?_)
              · exact absurd c_6 c_9
              · refine g_iconst (pc9 := 84) C rfl (nI (0)) dX7_addNode_83 rfl ?_
                refine g_goto C 88 dX7_addNode_84 rfl ?_
                refine g_iaddN (pc9 := 89) C rfl dX7_addNode_88 ?_
                refine g_put (pc9 := 92) C rfl (64 + 5 * j) 5 dX7_addNode_89 (by omega) (ce_tree w (sN (sN (sI (sI (sI (sI σ (65 + 5 * j) (upd (pF) (n) (nI (u)))) (66 + 5 * j) (upd (kF) (n) (k))) (67 + 5 * j) (upd (cF) (n) (nI (0)))) (68 + 5 * j) (upd (hF) (n) (nI (0)))) (64 + 5 * j) 4 (nI (n))) (64 + 5 * j) 5 (nI (lf))) (j)) (cn_tree_5 w _ _ _) hin_7 hl_28 tyX7 tyX7_ok nmX7 rfl (by decide) rfl rfl rfl (Nat.le_of_ble_eq_true rfl) ?_
                rw [sN_sN]
                refine g_iload_n (pc9 := 93) C rfl 0 dX7_addNode_92 rfl rfl ?_
                refine g_if_le (pc9 := 96) C rfl 106 dX7_addNode_93 rfl (fun c_10 => ?_) (fun c_10 => ?_)
                · replace c_10 := (z_le (by omega)).mp c_10
                  exact absurd h0 (by omega)
                · replace c_10 := (not_congr (z_le (by omega))).mp c_10
                  refine g_aload_n (pc9 := 97) C rfl 1 dX7_addNode_96 rfl rfl ?_
                  refine g_get (v := .ref (w.1 (68 + 5 * j))) (pc9 := 100) C rfl (64 + 5 * j) 3 dX7_addNode_97 (by omega) (ce_tree w (sN (sN (sI (sI (sI (sI σ (65 + 5 * j) (upd (pF) (n) (nI (u)))) (66 + 5 * j) (upd (kF) (n) (k))) (67 + 5 * j) (upd (cF) (n) (nI (0)))) (68 + 5 * j) (upd (hF) (n) (nI (0)))) (64 + 5 * j) 4 (nI (n))) (64 + 5 * j) 5 (nI (lf + 0))) (j)) hin_7 hl_21 rfl (by decide) rfl rfl ?_
                  refine g_iload_n (pc9 := 101) C rfl 2 dX7_addNode_100 rfl rfl ?_
                  refine g_dup2 (pc9 := 102) C rfl dX7_addNode_101 rfl rfl ?_
                  refine g_iald (x := (upd (hF) (n) (nI (0))) (u)) (pc9 := 103) C rfl (68 + 5 * j) (u) dX7_addNode_102 (by omega) (ce_children w (sN (sN (sI (sI (sI (sI σ (65 + 5 * j) (upd (pF) (n) (nI (u)))) (66 + 5 * j) (upd (kF) (n) (k))) (67 + 5 * j) (upd (cF) (n) (nI (0)))) (68 + 5 * j) (upd (hF) (n) (nI (0)))) (64 + 5 * j) 4 (nI (n))) (64 + 5 * j) 5 (nI (lf + 0))) (j)) rfl (by omega) (by decide) (congrFun (((iA_N).trans (iA_N)).trans (iA_s)) _) ?_
                  refine g_iconst (pc9 := 104) C rfl (nI (1)) dX7_addNode_103 rfl ?_
                  refine g_iadd (pc9 := 105) C rfl dX7_addNode_104 ?_
                  refine g_iast (pc9 := 106) C rfl (68 + 5 * j) (u) (upd (hF) (n) (nI (0))) dX7_addNode_105 (by omega) (fun f => ca_children w _ (j) f) (ce_children w (sN (sN (sI (sI (sI (sI σ (65 + 5 * j) (upd (pF) (n) (nI (u)))) (66 + 5 * j) (upd (kF) (n) (k))) (67 + 5 * j) (upd (cF) (n) (nI (0)))) (68 + 5 * j) (upd (hF) (n) (nI (0)))) (64 + 5 * j) 4 (nI (n))) (64 + 5 * j) 5 (nI (lf + 0))) (j)) rfl (by omega) (by decide) (((iA_N).trans (iA_N)).trans (iA_s)) ?_
                  rw [sI_sN (a := 64 + 5 * j) (k := 5) (b := 68 + 5 * j), sI_sN (a := 64 + 5 * j) (k := 4) (b := 68 + 5 * j), sI_sI (a := 68 + 5 * j)]
                  refine g_aload_n (pc9 := 107) C rfl 1 dX7_addNode_106 rfl rfl ?_
                  refine g_dup (pc9 := 108) C rfl dX7_addNode_107 rfl ?_
                  refine g_get (v := .int (nI (n))) (pc9 := 111) C rfl (64 + 5 * j) 4 dX7_addNode_108 (by omega) (ce_tree w (sN (sN (sI (sI (sI (sI σ (65 + 5 * j) (upd (pF) (n) (nI (u)))) (66 + 5 * j) (upd (kF) (n) (k))) (67 + 5 * j) (upd (cF) (n) (nI (0)))) (68 + 5 * j) (upd (upd (hF) (n) (nI (0))) (u) (((upd (hF) (n) (nI (0))) (u)) + (nI (1))))) (64 + 5 * j) 4 (nI (n))) (64 + 5 * j) 5 (nI (lf + 0))) (j)) hin_7 hl_24 rfl (by decide) rfl (congrArg (fun z => some (Value.int z)) ((nF_k (k := 5) (k9 := 4) (by decide)).trans (nF_s))) ?_
                  refine g_iconst (pc9 := 112) C rfl (nI (1)) dX7_addNode_111 rfl ?_
                  refine g_iaddN (pc9 := 113) C rfl dX7_addNode_112 ?_
                  refine g_put (pc9 := 116) C rfl (64 + 5 * j) 4 dX7_addNode_113 (by omega) (ce_tree w (sN (sN (sI (sI (sI (sI σ (65 + 5 * j) (upd (pF) (n) (nI (u)))) (66 + 5 * j) (upd (kF) (n) (k))) (67 + 5 * j) (upd (cF) (n) (nI (0)))) (68 + 5 * j) (upd (upd (hF) (n) (nI (0))) (u) (((upd (hF) (n) (nI (0))) (u)) + (nI (1))))) (64 + 5 * j) 4 (nI (n))) (64 + 5 * j) 5 (nI (lf + 0))) (j)) (cn_tree_4 w _ _ _) hin_7 hl_24 tyX7 tyX7_ok nmX7 rfl (by decide) rfl rfl rfl (Nat.le_of_ble_eq_true rfl) ?_
                  rw [sN_cm (a := 64 + 5 * j) (k := 5) (b := 64 + 5 * j) (k9 := 4) (Or.inr (by decide)), sN_sN]
                  refine g_iload_n (pc9 := 117) C rfl 0 dX7_addNode_116 rfl rfl ?_
                  exact g_ireturn C hr hlk dX7_addNode_117 ⟨by first | (rw [kN_y hk, kB_y hk]) | (rw [kN_n hk, kB_n hk]), rfl⟩
          · replace c_5 := (z_eq (by omega)).mp c_5
            exact absurd h0 (by omega)
        · replace c_4 := (not_congr (nI_ltI (by omega) (by omega))).mp c_4
          exact absurd hu (by omega)

/-! Distances: choosing and merging the nearest -/
abbrev CN : Type := Nat × Int64 × Nat × Nat
/-- what pair i, k scores -/
def scI (y z : Nat → Int64) (q i k : Nat) : Int64 := ((nI (q - 2)).toInt64 * y (i * 12 + k) - z i) - z k
def cnS (c : Nat → Int32) (y z : Nat → Int64) (q i k : Nat) (t : CN) : CN := if c i = 0 ∨ c k = 0 then t else if t.1 = 0 ∨ scI y z q i k < t.2.1 then (1, scI y z q i k, i, k) else t
/-- all k from i + 1 on, d of them -/
def cnI (c : Nat → Int32) (y z : Nat → Int64) (q i : Nat) (t : CN) : Nat → CN
  | 0 => t
  | d + 1 => cnS c y z q i (i + 1 + d) (cnI c y z q i t d)
def cnO (c : Nat → Int32) (y z : Nat → Int64) (q N : Nat) (t : CN) : Nat → CN
  | 0 => t
  | i + 1 => cnI c y z q i (cnO c y z q N t i) (N - (i + 1))
theorem cnS_a {c : Nat → Int32} {y z : Nat → Int64} {q i k : Nat} {t : CN} (h : c i = 0) : cnS c y z q i k t = t := if_pos (Or.inl h)
theorem cnS_b {c : Nat → Int32} {y z : Nat → Int64} {q i k : Nat} {t : CN} (h : c k = 0) : cnS c y z q i k t = t := if_pos (Or.inr h)
theorem cnS_y {c : Nat → Int32} {y z : Nat → Int64} {q i k : Nat} {t : CN} (h1 : ¬ c i = 0) (h2 : ¬ c k = 0) (h3 : t.1 = 0 ∨ scI y z q i k < t.2.1) : cnS c y z q i k t = (1, scI y z q i k, i, k) := by
  unfold cnS
  rw [if_neg (fun h => h.elim h1 h2), if_pos h3]
theorem cnS_n {c : Nat → Int32} {y z : Nat → Int64} {q i k : Nat} {t : CN} (h1 : ¬ c i = 0) (h2 : ¬ c k = 0) (h3 : ¬ t.1 = 0) (h4 : ¬ scI y z q i k < t.2.1) : cnS c y z q i k t = t := by
  unfold cnS
  rw [if_neg (fun h => h.elim h1 h2), if_neg (fun h => h.elim h3 h4)]
def cnK (N : Nat) (t : CN) : Prop := t.1 ≤ 1 ∧ t.2.2.1 < 12 ∧ t.2.2.2 < 12
theorem cnS_K {c : Nat → Int32} {y z : Nat → Int64} {q i k N : Nat} {t : CN} (hi : i < 12) (hk : k < 12) (h : cnK N t) : cnK N (cnS c y z q i k t) := by
  unfold cnS
  split
  · exact h
  · split
    · exact ⟨Nat.le_refl _, hi, hk⟩
    · exact h
theorem cnI_K {c : Nat → Int32} {y z : Nat → Int64} {q i N : Nat} {t : CN} (h : cnK N t) : ∀ d, i + 1 + d ≤ 12 → cnK N (cnI c y z q i t d)
  | 0, _ => h
  | d + 1, hd => cnS_K (by omega) (by omega) (cnI_K h d (by omega))
theorem cnO_K {c : Nat → Int32} {y z : Nat → Int64} {q N : Nat} {t : CN} (hN : N ≤ 12) (h : cnK N t) : ∀ i, i ≤ N → cnK N (cnO c y z q N t i)
  | 0, _ => h
  | i + 1, hi => cnI_K (cnO_K hN h i (by omega)) _ (by omega)
set_option maxRecDepth 100000 in
set_option maxHeartbeats 4000000 in
theorem m_X0_chooseNearest (l : Launch) (w : Wd) (σ : St) (N : Nat) (hN : nF σ 53 0 = nI N) (h12 : N ≤ 12) (q : Nat) (hq : 2 ≤ q) (hq2 : q ≤ 12) (a9 b9 : Nat) (ha : a9 < 12) (hb : b9 < 12) : MV l yX0_chooseNearest wsX0_chooseNearest (rmL 1) w [.ref (w.1 (53)), .int (nI (q))] (sN (sN σ (53) 5 (nI ((((0, 0, a9, b9) : CN)).2.2.1))) (53) 6 (nI ((((0, 0, a9, b9) : CN)).2.2.2))) (fun σ9 => σ9 = sN (sN σ 53 5 (nI (cnO (iA σ 55) (jA σ 56) (jA σ 57) q N (0, 0, a9, b9) N).2.2.1)) 53 6 (nI (cnO (iA σ 55) (jA σ 56) (jA σ 57) q N (0, 0, a9, b9) N).2.2.2)) := by
  refine MV_of (cc := cX0_chooseNearest) (maxL := 9) (by decide) rfl (Nat.le_of_ble_eq_true rfl) ?_
  intro p e s m args below meth c A C hr hlk
  have C : Cx p s m args c w A cX0_chooseNearest RX0 9 wsX0_chooseNearest := C
  have hin_0 : ∀ u ∈ wsX00, u ∈ wsX0_chooseNearest := by decide +kernel
  have hl_9 : Cond.fieldLink RX0 9 "LineageBench$Distances" "counting" "I" ∈ wsX0_chooseNearest := by decide +kernel
  have hl_19 : Cond.fieldLink RX0 19 "LineageBench$Distances" "clusterAt" "[I" ∈ wsX0_chooseNearest := by decide +kernel
  have hl_22 : Cond.fieldLink RX0 22 "LineageBench$Distances" "gap" "[J" ∈ wsX0_chooseNearest := by decide +kernel
  have hl_26 : Cond.fieldLink RX0 26 "LineageBench$Distances" "gapSum" "[J" ∈ wsX0_chooseNearest := by decide +kernel
  have hl_69 : Cond.fieldLink RX0 69 "LineageBench$Distances" "nearOne" "I" ∈ wsX0_chooseNearest := by decide +kernel
  have hl_72 : Cond.fieldLink RX0 72 "LineageBench$Distances" "nearTwo" "I" ∈ wsX0_chooseNearest := by decide +kernel
  refine g_iconst (pc9 := 1) C rfl (nI (0)) dX0_chooseNearest_0 rfl ?_
  refine g_istore_n (pc9 := 2) C rfl [(2, .int (nI (0))), (0, .ref (w.1 (53))), (1, .int (nI (q)))] dX0_chooseNearest_1 rfl (by decide) rfl ?_
  refine g_lconst (pc9 := 3) C rfl (0) dX0_chooseNearest_2 rfl ?_
  refine g_lstore_n (pc9 := 4) C rfl [(3, .long ((0))), (2, .int (nI (0))), (0, .ref (w.1 (53))), (1, .int (nI (q)))] dX0_chooseNearest_3 rfl (by decide) rfl ?_
  refine g_iconst (pc9 := 5) C rfl (nI (0)) dX0_chooseNearest_4 rfl ?_
  refine g_istore (pc9 := 7) C rfl [(5, .int (nI (0))), (3, .long ((0))), (2, .int (nI (0))), (0, .ref (w.1 (53))), (1, .int (nI (q)))] dX0_chooseNearest_5 (by decide) rfl ?_
  refine g_sub [0, 1, 2, 3, 4] [(5, .int (nI (0))), (3, .long ((0))), (2, .int (nI (0))), (0, .ref (w.1 (53))), (1, .int (nI (q)))] rfl ?_
  refine g_lp1 (α := Nat) (fun i => i ≤ N) (fun i => N - i) (fun i => G p l e _ s m args below meth c _ w A _ (sN (sN σ (53) 5 (nI ((cnO (iA σ 55) (jA σ 56) (jA σ 57) q N (0, 0, a9, b9) (i)).2.2.1))) (53) 6 (nI ((cnO (iA σ 55) (jA σ 56) (jA σ 57) q N (0, 0, a9, b9) (i)).2.2.2))) 0 0 7 [(5, .int (nI (i))), (3, .long ((cnO (iA σ 55) (jA σ 56) (jA σ 57) q N (0, 0, a9, b9) (i)).2.1)), (2, .int (nI ((cnO (iA σ 55) (jA σ 56) (jA σ 57) q N (0, 0, a9, b9) (i)).1))), (0, .ref (w.1 (53))), (1, .int (nI (q)))] []) (fun i hI ih => ?_) (0) (Nat.zero_le _)
  obtain hi := hI
  refine g_iload (pc9 := 9) C rfl 0 dX0_chooseNearest_7 rfl ?_
  refine g_aload_n (pc9 := 10) C rfl 3 dX0_chooseNearest_9 rfl rfl ?_
  refine g_get (v := .int (nI (N))) (pc9 := 13) C rfl (53) 0 dX0_chooseNearest_10 (by decide) (ce_53 w (sN (sN σ (53) 5 (nI ((cnO (iA σ 55) (jA σ 56) (jA σ 57) q N (0, 0, a9, b9) (i)).2.2.1))) (53) 6 (nI ((cnO (iA σ 55) (jA σ 56) (jA σ 57) q N (0, 0, a9, b9) (i)).2.2.2)))) hin_0 hl_9 rfl (by decide) rfl (congrArg (fun z => some (Value.int z)) (((nF_k (k := 6) (k9 := 0) (by decide)).trans (nF_k (k := 5) (k9 := 0) (by decide))).trans hN)) ?_
  refine g_icmp_ge (pc9 := 16) C rfl 127 dX0_chooseNearest_13 rfl (fun c_1 => ?_) (fun c_1 => ?_)
  · replace c_1 := (nI_leI (by omega) (by omega)).mp c_1
    exact g_return C hr hlk dX0_chooseNearest_127 (by rw [show i = N by omega])
  · replace c_1 := (not_congr (nI_leI (by omega) (by omega))).mp c_1
    refine g_iload (pc9 := 18) C rfl 0 dX0_chooseNearest_16 rfl ?_
    refine g_iconst (pc9 := 19) C rfl (nI (1)) dX0_chooseNearest_18 rfl ?_
    refine g_iaddN (pc9 := 20) C rfl dX0_chooseNearest_19 ?_
    refine g_istore (pc9 := 22) C rfl [(6, .int (nI (i + 1))), (5, .int (nI (i))), (3, .long ((cnO (iA σ 55) (jA σ 56) (jA σ 57) q N (0, 0, a9, b9) (i)).2.1)), (2, .int (nI ((cnO (iA σ 55) (jA σ 56) (jA σ 57) q N (0, 0, a9, b9) (i)).1))), (0, .ref (w.1 (53))), (1, .int (nI (q)))] dX0_chooseNearest_20 (by decide) rfl ?_
    refine g_sub [0, 1, 2, 3, 4, 5] [(6, .int (nI (i + 1))), (5, .int (nI (i))), (3, .long ((cnO (iA σ 55) (jA σ 56) (jA σ 57) q N (0, 0, a9, b9) (i)).2.1)), (2, .int (nI ((cnO (iA σ 55) (jA σ 56) (jA σ 57) q N (0, 0, a9, b9) (i)).1))), (0, .ref (w.1 (53))), (1, .int (nI (q)))] rfl ?_
    refine g_lp1 (α := Nat) (fun d => i + 1 + d ≤ N) (fun d => N - d) (fun d => G p l e _ s m args below meth c _ w A _ (sN (sN σ (53) 5 (nI ((cnI (iA σ 55) (jA σ 56) (jA σ 57) q i (cnO (iA σ 55) (jA σ 56) (jA σ 57) q N (0, 0, a9, b9) (i)) (d)).2.2.1))) (53) 6 (nI ((cnI (iA σ 55) (jA σ 56) (jA σ 57) q i (cnO (iA σ 55) (jA σ 56) (jA σ 57) q N (0, 0, a9, b9) (i)) (d)).2.2.2))) 0 0 22 [(6, .int (nI (i + 1 + d))), (5, .int (nI (i))), (3, .long ((cnI (iA σ 55) (jA σ 56) (jA σ 57) q i (cnO (iA σ 55) (jA σ 56) (jA σ 57) q N (0, 0, a9, b9) (i)) (d)).2.1)), (2, .int (nI ((cnI (iA σ 55) (jA σ 56) (jA σ 57) q i (cnO (iA σ 55) (jA σ 56) (jA σ 57) q N (0, 0, a9, b9) (i)) (d)).1))), (0, .ref (w.1 (53))), (1, .int (nI (q)))] []) (fun d hI ih2 => ?_) (0) (by omega)
    obtain hd := hI
    have hK9 : cnK N (cnI (iA σ 55) (jA σ 56) (jA σ 57) q i (cnO (iA σ 55) (jA σ 56) (jA σ 57) q N (0, 0, a9, b9) (i)) (d)) := cnI_K (cnO_K h12 ⟨Nat.zero_le _, ha, hb⟩ i (by omega)) d (by omega)
    have hK1 := hK9.1
    refine g_iload (pc9 := 24) C rfl 0 dX0_chooseNearest_22 rfl ?_
    refine g_aload_n (pc9 := 25) C rfl 4 dX0_chooseNearest_24 rfl rfl ?_
    refine g_get (v := .int (nI (N))) (pc9 := 28) C rfl (53) 0 dX0_chooseNearest_25 (by decide) (ce_53 w (sN (sN σ (53) 5 (nI ((cnI (iA σ 55) (jA σ 56) (jA σ 57) q i (cnO (iA σ 55) (jA σ 56) (jA σ 57) q N (0, 0, a9, b9) (i)) (d)).2.2.1))) (53) 6 (nI ((cnI (iA σ 55) (jA σ 56) (jA σ 57) q i (cnO (iA σ 55) (jA σ 56) (jA σ 57) q N (0, 0, a9, b9) (i)) (d)).2.2.2)))) hin_0 hl_9 rfl (by decide) rfl (congrArg (fun z => some (Value.int z)) (((nF_k (k := 6) (k9 := 0) (by decide)).trans (nF_k (k := 5) (k9 := 0) (by decide))).trans hN)) ?_
    refine g_icmp_ge (pc9 := 31) C rfl 121 dX0_chooseNearest_28 rfl (fun c_2 => ?_) (fun c_2 => ?_)
    · replace c_2 := (nI_leI (by omega) (by omega)).mp c_2
      refine g_iinc (pc9 := 124) C rfl [(5, .int (nI (i + 1))), (6, .int (nI (i + 1 + d))), (3, .long ((cnI (iA σ 55) (jA σ 56) (jA σ 57) q i (cnO (iA σ 55) (jA σ 56) (jA σ 57) q N (0, 0, a9, b9) (i)) (d)).2.1)), (2, .int (nI ((cnI (iA σ 55) (jA σ 56) (jA σ 57) q i (cnO (iA σ 55) (jA σ 56) (jA σ 57) q N (0, 0, a9, b9) (i)) (d)).1))), (0, .ref (w.1 (53))), (1, .int (nI (q)))] 1 (nI (i + 1)) dX0_chooseNearest_121 rfl (nI_1 (i)) (by decide) rfl ?_
      refine g_goto C 7 dX0_chooseNearest_124 rfl ?_
      refine g_sub [0, 2, 3, 4, 5] [(5, .int (nI (i + 1))), (3, .long ((cnI (iA σ 55) (jA σ 56) (jA σ 57) q i (cnO (iA σ 55) (jA σ 56) (jA σ 57) q N (0, 0, a9, b9) (i)) (d)).2.1)), (2, .int (nI ((cnI (iA σ 55) (jA σ 56) (jA σ 57) q i (cnO (iA σ 55) (jA σ 56) (jA σ 57) q N (0, 0, a9, b9) (i)) (d)).1))), (0, .ref (w.1 (53))), (1, .int (nI (q)))] rfl ?_
      have key := ih (i + 1) (by omega) (by omega)
      rw [show cnO (iA σ 55) (jA σ 56) (jA σ 57) q N (0, 0, a9, b9) (i + 1) = cnI (iA σ 55) (jA σ 56) (jA σ 57) q i (cnO (iA σ 55) (jA σ 56) (jA σ 57) q N (0, 0, a9, b9) (i)) (d) from by show cnI _ _ _ _ _ _ (N - (i + 1)) = _; rw [show N - (i + 1) = d by omega]] at key
      exact key
    · replace c_2 := (not_congr (nI_leI (by omega) (by omega))).mp c_2
      refine g_aload_n (pc9 := 32) C rfl 4 dX0_chooseNearest_31 rfl rfl ?_
      refine g_get (v := .ref (w.1 (55))) (pc9 := 35) C rfl (53) 2 dX0_chooseNearest_32 (by decide) (ce_53 w (sN (sN σ (53) 5 (nI ((cnI (iA σ 55) (jA σ 56) (jA σ 57) q i (cnO (iA σ 55) (jA σ 56) (jA σ 57) q N (0, 0, a9, b9) (i)) (d)).2.2.1))) (53) 6 (nI ((cnI (iA σ 55) (jA σ 56) (jA σ 57) q i (cnO (iA σ 55) (jA σ 56) (jA σ 57) q N (0, 0, a9, b9) (i)) (d)).2.2.2)))) hin_0 hl_19 rfl (by decide) rfl rfl ?_
      refine g_iload (pc9 := 37) C rfl 1 dX0_chooseNearest_35 rfl ?_
      refine g_iald (x := (iA σ (55)) (i)) (pc9 := 38) C rfl (55) (i) dX0_chooseNearest_37 (by decide) (ce_55 w (sN (sN σ (53) 5 (nI ((cnI (iA σ 55) (jA σ 56) (jA σ 57) q i (cnO (iA σ 55) (jA σ 56) (jA σ 57) q N (0, 0, a9, b9) (i)) (d)).2.2.1))) (53) 6 (nI ((cnI (iA σ 55) (jA σ 56) (jA σ 57) q i (cnO (iA σ 55) (jA σ 56) (jA σ 57) q N (0, 0, a9, b9) (i)) (d)).2.2.2)))) rfl (by omega) (by decide) (congrFun ((iA_N).trans (iA_N)) _) ?_
      refine g_if_eq (pc9 := 41) C rfl 115 dX0_chooseNearest_38 rfl (fun c_3 => ?_) (fun c_3 => ?_)
      · have hst : cnI (iA σ 55) (jA σ 56) (jA σ 57) q i (cnO (iA σ 55) (jA σ 56) (jA σ 57) q N (0, 0, a9, b9) (i)) (d + 1) = cnI (iA σ 55) (jA σ 56) (jA σ 57) q i (cnO (iA σ 55) (jA σ 56) (jA σ 57) q N (0, 0, a9, b9) (i)) (d) := cnS_a c_3
        refine g_iinc (pc9 := 118) C rfl [(6, .int (nI (i + 1 + d + 1))), (5, .int (nI (i))), (3, .long ((cnI (iA σ 55) (jA σ 56) (jA σ 57) q i (cnO (iA σ 55) (jA σ 56) (jA σ 57) q N (0, 0, a9, b9) (i)) (d)).2.1)), (2, .int (nI ((cnI (iA σ 55) (jA σ 56) (jA σ 57) q i (cnO (iA σ 55) (jA σ 56) (jA σ 57) q N (0, 0, a9, b9) (i)) (d)).1))), (0, .ref (w.1 (53))), (1, .int (nI (q)))] 0 (nI (i + 1 + d + 1)) dX0_chooseNearest_115 rfl (nI_1 (i + 1 + d)) (by decide) rfl ?_
        refine g_goto C 22 dX0_chooseNearest_118 rfl ?_
        refine g_sub [0, 1, 2, 3, 4, 5] [(6, .int (nI (i + 1 + d + 1))), (5, .int (nI (i))), (3, .long ((cnI (iA σ 55) (jA σ 56) (jA σ 57) q i (cnO (iA σ 55) (jA σ 56) (jA σ 57) q N (0, 0, a9, b9) (i)) (d)).2.1)), (2, .int (nI ((cnI (iA σ 55) (jA σ 56) (jA σ 57) q i (cnO (iA σ 55) (jA σ 56) (jA σ 57) q N (0, 0, a9, b9) (i)) (d)).1))), (0, .ref (w.1 (53))), (1, .int (nI (q)))] rfl ?_
        have key := ih2 (d + 1) (by omega) (by omega)
        rw [hst] at key
        exact key
      · have hci := c_3
        refine g_aload_n (pc9 := 42) C rfl 4 dX0_chooseNearest_41 rfl rfl ?_
        refine g_get (v := .ref (w.1 (55))) (pc9 := 45) C rfl (53) 2 dX0_chooseNearest_42 (by decide) (ce_53 w (sN (sN σ (53) 5 (nI ((cnI (iA σ 55) (jA σ 56) (jA σ 57) q i (cnO (iA σ 55) (jA σ 56) (jA σ 57) q N (0, 0, a9, b9) (i)) (d)).2.2.1))) (53) 6 (nI ((cnI (iA σ 55) (jA σ 56) (jA σ 57) q i (cnO (iA σ 55) (jA σ 56) (jA σ 57) q N (0, 0, a9, b9) (i)) (d)).2.2.2)))) hin_0 hl_19 rfl (by decide) rfl rfl ?_
        refine g_iload (pc9 := 47) C rfl 0 dX0_chooseNearest_45 rfl ?_
        refine g_iald (x := (iA σ (55)) (i + 1 + d)) (pc9 := 48) C rfl (55) (i + 1 + d) dX0_chooseNearest_47 (by decide) (ce_55 w (sN (sN σ (53) 5 (nI ((cnI (iA σ 55) (jA σ 56) (jA σ 57) q i (cnO (iA σ 55) (jA σ 56) (jA σ 57) q N (0, 0, a9, b9) (i)) (d)).2.2.1))) (53) 6 (nI ((cnI (iA σ 55) (jA σ 56) (jA σ 57) q i (cnO (iA σ 55) (jA σ 56) (jA σ 57) q N (0, 0, a9, b9) (i)) (d)).2.2.2)))) rfl (by omega) (by decide) (congrFun ((iA_N).trans (iA_N)) _) ?_
        refine g_if_eq (pc9 := 51) C rfl 115 dX0_chooseNearest_48 rfl (fun c_4 => ?_) (fun c_4 => ?_)
        · have hst : cnI (iA σ 55) (jA σ 56) (jA σ 57) q i (cnO (iA σ 55) (jA σ 56) (jA σ 57) q N (0, 0, a9, b9) (i)) (d + 1) = cnI (iA σ 55) (jA σ 56) (jA σ 57) q i (cnO (iA σ 55) (jA σ 56) (jA σ 57) q N (0, 0, a9, b9) (i)) (d) := cnS_b c_4
          refine g_iinc (pc9 := 118) C rfl [(6, .int (nI (i + 1 + d + 1))), (5, .int (nI (i))), (3, .long ((cnI (iA σ 55) (jA σ 56) (jA σ 57) q i (cnO (iA σ 55) (jA σ 56) (jA σ 57) q N (0, 0, a9, b9) (i)) (d)).2.1)), (2, .int (nI ((cnI (iA σ 55) (jA σ 56) (jA σ 57) q i (cnO (iA σ 55) (jA σ 56) (jA σ 57) q N (0, 0, a9, b9) (i)) (d)).1))), (0, .ref (w.1 (53))), (1, .int (nI (q)))] 0 (nI (i + 1 + d + 1)) dX0_chooseNearest_115 rfl (nI_1 (i + 1 + d)) (by decide) rfl ?_
          refine g_goto C 22 dX0_chooseNearest_118 rfl ?_
          refine g_sub [0, 1, 2, 3, 4, 5] [(6, .int (nI (i + 1 + d + 1))), (5, .int (nI (i))), (3, .long ((cnI (iA σ 55) (jA σ 56) (jA σ 57) q i (cnO (iA σ 55) (jA σ 56) (jA σ 57) q N (0, 0, a9, b9) (i)) (d)).2.1)), (2, .int (nI ((cnI (iA σ 55) (jA σ 56) (jA σ 57) q i (cnO (iA σ 55) (jA σ 56) (jA σ 57) q N (0, 0, a9, b9) (i)) (d)).1))), (0, .ref (w.1 (53))), (1, .int (nI (q)))] rfl ?_
          have key := ih2 (d + 1) (by omega) (by omega)
          rw [hst] at key
          exact key
        · have hck := c_4
          refine g_iload_n (pc9 := 52) C rfl 5 dX0_chooseNearest_51 rfl rfl ?_
          refine g_iconst (pc9 := 53) C rfl (nI (2)) dX0_chooseNearest_52 rfl ?_
          refine g_isubN (pc9 := 54) C rfl dX0_chooseNearest_53 (by omega) ?_
          refine g_i2l (pc9 := 55) C rfl dX0_chooseNearest_54 ?_
          refine g_aload_n (pc9 := 56) C rfl 4 dX0_chooseNearest_55 rfl rfl ?_
          refine g_get (v := .ref (w.1 (56))) (pc9 := 59) C rfl (53) 3 dX0_chooseNearest_56 (by decide) (ce_53 w (sN (sN σ (53) 5 (nI ((cnI (iA σ 55) (jA σ 56) (jA σ 57) q i (cnO (iA σ 55) (jA σ 56) (jA σ 57) q N (0, 0, a9, b9) (i)) (d)).2.2.1))) (53) 6 (nI ((cnI (iA σ 55) (jA σ 56) (jA σ 57) q i (cnO (iA σ 55) (jA σ 56) (jA σ 57) q N (0, 0, a9, b9) (i)) (d)).2.2.2)))) hin_0 hl_22 rfl (by decide) rfl rfl ?_
          refine g_iload (pc9 := 61) C rfl 1 dX0_chooseNearest_59 rfl ?_
          refine g_bipush (pc9 := 63) C rfl (nI (12)) dX0_chooseNearest_61 rfl ?_
          refine g_imulN (pc9 := 64) C rfl dX0_chooseNearest_63 ?_
          refine g_iload (pc9 := 66) C rfl 0 dX0_chooseNearest_64 rfl ?_
          refine g_iaddN (pc9 := 67) C rfl dX0_chooseNearest_66 ?_
          refine g_lald (x := (jA σ (56)) ((i * 12) + (i + 1 + d))) (pc9 := 68) C rfl (56) ((i * 12) + (i + 1 + d)) dX0_chooseNearest_67 (by decide) (ce_56 w (sN (sN σ (53) 5 (nI ((cnI (iA σ 55) (jA σ 56) (jA σ 57) q i (cnO (iA σ 55) (jA σ 56) (jA σ 57) q N (0, 0, a9, b9) (i)) (d)).2.2.1))) (53) 6 (nI ((cnI (iA σ 55) (jA σ 56) (jA σ 57) q i (cnO (iA σ 55) (jA σ 56) (jA σ 57) q N (0, 0, a9, b9) (i)) (d)).2.2.2)))) rfl (by omega) (by decide) (congrFun ((jA_N).trans (jA_N)) _) ?_
          refine g_lmul (pc9 := 69) C rfl dX0_chooseNearest_68 ?_
          refine g_aload_n (pc9 := 70) C rfl 4 dX0_chooseNearest_69 rfl rfl ?_
          refine g_get (v := .ref (w.1 (57))) (pc9 := 73) C rfl (53) 4 dX0_chooseNearest_70 (by decide) (ce_53 w (sN (sN σ (53) 5 (nI ((cnI (iA σ 55) (jA σ 56) (jA σ 57) q i (cnO (iA σ 55) (jA σ 56) (jA σ 57) q N (0, 0, a9, b9) (i)) (d)).2.2.1))) (53) 6 (nI ((cnI (iA σ 55) (jA σ 56) (jA σ 57) q i (cnO (iA σ 55) (jA σ 56) (jA σ 57) q N (0, 0, a9, b9) (i)) (d)).2.2.2)))) hin_0 hl_26 rfl (by decide) rfl rfl ?_
          refine g_iload (pc9 := 75) C rfl 1 dX0_chooseNearest_73 rfl ?_
          refine g_lald (x := (jA σ (57)) (i)) (pc9 := 76) C rfl (57) (i) dX0_chooseNearest_75 (by decide) (ce_57 w (sN (sN σ (53) 5 (nI ((cnI (iA σ 55) (jA σ 56) (jA σ 57) q i (cnO (iA σ 55) (jA σ 56) (jA σ 57) q N (0, 0, a9, b9) (i)) (d)).2.2.1))) (53) 6 (nI ((cnI (iA σ 55) (jA σ 56) (jA σ 57) q i (cnO (iA σ 55) (jA σ 56) (jA σ 57) q N (0, 0, a9, b9) (i)) (d)).2.2.2)))) rfl (by omega) (by decide) (congrFun ((jA_N).trans (jA_N)) _) ?_
          refine g_lsub (pc9 := 77) C rfl dX0_chooseNearest_76 ?_
          refine g_aload_n (pc9 := 78) C rfl 4 dX0_chooseNearest_77 rfl rfl ?_
          refine g_get (v := .ref (w.1 (57))) (pc9 := 81) C rfl (53) 4 dX0_chooseNearest_78 (by decide) (ce_53 w (sN (sN σ (53) 5 (nI ((cnI (iA σ 55) (jA σ 56) (jA σ 57) q i (cnO (iA σ 55) (jA σ 56) (jA σ 57) q N (0, 0, a9, b9) (i)) (d)).2.2.1))) (53) 6 (nI ((cnI (iA σ 55) (jA σ 56) (jA σ 57) q i (cnO (iA σ 55) (jA σ 56) (jA σ 57) q N (0, 0, a9, b9) (i)) (d)).2.2.2)))) hin_0 hl_26 rfl (by decide) rfl rfl ?_
          refine g_iload (pc9 := 83) C rfl 0 dX0_chooseNearest_81 rfl ?_
          refine g_lald (x := (jA σ (57)) (i + 1 + d)) (pc9 := 84) C rfl (57) (i + 1 + d) dX0_chooseNearest_83 (by decide) (ce_57 w (sN (sN σ (53) 5 (nI ((cnI (iA σ 55) (jA σ 56) (jA σ 57) q i (cnO (iA σ 55) (jA σ 56) (jA σ 57) q N (0, 0, a9, b9) (i)) (d)).2.2.1))) (53) 6 (nI ((cnI (iA σ 55) (jA σ 56) (jA σ 57) q i (cnO (iA σ 55) (jA σ 56) (jA σ 57) q N (0, 0, a9, b9) (i)) (d)).2.2.2)))) rfl (by omega) (by decide) (congrFun ((jA_N).trans (jA_N)) _) ?_
          refine g_lsub (pc9 := 85) C rfl dX0_chooseNearest_84 ?_
          refine g_tl (scI (jA σ 56) (jA σ 57) q i (i + 1 + d)) rfl ?_
          refine g_lstore (pc9 := 87) C rfl [(7, .long (scI (jA σ 56) (jA σ 57) q i (i + 1 + d))), (6, .int (nI (i + 1 + d))), (5, .int (nI (i))), (3, .long ((cnI (iA σ 55) (jA σ 56) (jA σ 57) q i (cnO (iA σ 55) (jA σ 56) (jA σ 57) q N (0, 0, a9, b9) (i)) (d)).2.1)), (2, .int (nI ((cnI (iA σ 55) (jA σ 56) (jA σ 57) q i (cnO (iA σ 55) (jA σ 56) (jA σ 57) q N (0, 0, a9, b9) (i)) (d)).1))), (0, .ref (w.1 (53))), (1, .int (nI (q)))] dX0_chooseNearest_85 (by decide) rfl ?_
          refine g_iload_n (pc9 := 88) C rfl 4 dX0_chooseNearest_87 rfl rfl ?_
          refine g_if_eq (pc9 := 91) C rfl 98 dX0_chooseNearest_88 rfl (fun c_5 => ?_) (fun c_5 => ?_)
          · replace c_5 := (z_eq (by omega)).mp c_5
            have hst : cnI (iA σ 55) (jA σ 56) (jA σ 57) q i (cnO (iA σ 55) (jA σ 56) (jA σ 57) q N (0, 0, a9, b9) (i)) (d + 1) = (1, scI (jA σ 56) (jA σ 57) q i (i + 1 + d), i, i + 1 + d) := cnS_y hci hck (Or.inl c_5)
            refine g_iconst (pc9 := 99) C rfl (nI (1)) dX0_chooseNearest_98 rfl ?_
            refine g_istore_n (pc9 := 100) C rfl [(2, .int (nI (1))), (7, .long (scI (jA σ 56) (jA σ 57) q i (i + 1 + d))), (6, .int (nI (i + 1 + d))), (5, .int (nI (i))), (3, .long ((cnI (iA σ 55) (jA σ 56) (jA σ 57) q i (cnO (iA σ 55) (jA σ 56) (jA σ 57) q N (0, 0, a9, b9) (i)) (d)).2.1)), (0, .ref (w.1 (53))), (1, .int (nI (q)))] dX0_chooseNearest_99 rfl (by decide) rfl ?_
            refine g_lload (pc9 := 102) C rfl 1 dX0_chooseNearest_100 rfl ?_
            refine g_lstore_n (pc9 := 103) C rfl [(3, .long (scI (jA σ 56) (jA σ 57) q i (i + 1 + d))), (2, .int (nI (1))), (7, .long (scI (jA σ 56) (jA σ 57) q i (i + 1 + d))), (6, .int (nI (i + 1 + d))), (5, .int (nI (i))), (0, .ref (w.1 (53))), (1, .int (nI (q)))] dX0_chooseNearest_102 rfl (by decide) rfl ?_
            refine g_aload_n (pc9 := 104) C rfl 5 dX0_chooseNearest_103 rfl rfl ?_
            refine g_iload (pc9 := 106) C rfl 4 dX0_chooseNearest_104 rfl ?_
            refine g_put (pc9 := 109) C rfl (53) 5 dX0_chooseNearest_106 (by decide) (ce_53 w (sN (sN σ (53) 5 (nI ((cnI (iA σ 55) (jA σ 56) (jA σ 57) q i (cnO (iA σ 55) (jA σ 56) (jA σ 57) q N (0, 0, a9, b9) (i)) (d)).2.2.1))) (53) 6 (nI ((cnI (iA σ 55) (jA σ 56) (jA σ 57) q i (cnO (iA σ 55) (jA σ 56) (jA σ 57) q N (0, 0, a9, b9) (i)) (d)).2.2.2)))) (rfl) hin_0 hl_69 tyX0 tyX0_ok nmX0 rfl (by decide) rfl rfl rfl (Nat.le_of_ble_eq_true rfl) ?_
            rw [sN_cm (a := 53) (k := 6) (b := 53) (k9 := 5) (Or.inr (by decide)), sN_sN]
            refine g_aload_n (pc9 := 110) C rfl 5 dX0_chooseNearest_109 rfl rfl ?_
            refine g_iload (pc9 := 112) C rfl 3 dX0_chooseNearest_110 rfl ?_
            refine g_put (pc9 := 115) C rfl (53) 6 dX0_chooseNearest_112 (by decide) (ce_53 w (sN (sN σ (53) 5 (nI (i))) (53) 6 (nI ((cnI (iA σ 55) (jA σ 56) (jA σ 57) q i (cnO (iA σ 55) (jA σ 56) (jA σ 57) q N (0, 0, a9, b9) (i)) (d)).2.2.2)))) (rfl) hin_0 hl_72 tyX0 tyX0_ok nmX0 rfl (by decide) rfl rfl rfl (Nat.le_of_ble_eq_true rfl) ?_
            rw [sN_sN]
            refine g_iinc (pc9 := 118) C rfl [(6, .int (nI (i + 1 + d + 1))), (3, .long (scI (jA σ 56) (jA σ 57) q i (i + 1 + d))), (2, .int (nI (1))), (7, .long (scI (jA σ 56) (jA σ 57) q i (i + 1 + d))), (5, .int (nI (i))), (0, .ref (w.1 (53))), (1, .int (nI (q)))] 3 (nI (i + 1 + d + 1)) dX0_chooseNearest_115 rfl (nI_1 (i + 1 + d)) (by decide) rfl ?_
            refine g_goto C 22 dX0_chooseNearest_118 rfl ?_
            refine g_sub [0, 4, 1, 2, 5, 6] [(6, .int (nI (i + 1 + d + 1))), (5, .int (nI (i))), (3, .long (scI (jA σ 56) (jA σ 57) q i (i + 1 + d))), (2, .int (nI (1))), (0, .ref (w.1 (53))), (1, .int (nI (q)))] rfl ?_
            have key := ih2 (d + 1) (by omega) (by omega)
            rw [hst] at key
            exact key
          · replace c_5 := (not_congr (z_eq (by omega))).mp c_5
            have ht0 := c_5
            refine g_lload (pc9 := 93) C rfl 0 dX0_chooseNearest_91 rfl ?_
            refine g_lload_n (pc9 := 94) C rfl 3 dX0_chooseNearest_93 rfl rfl ?_
            refine g_lcmp (pc9 := 95) C rfl dX0_chooseNearest_94 ?_
            refine g_if_ge (pc9 := 98) C rfl 115 dX0_chooseNearest_95 rfl (fun c_6 => ?_) (fun c_6 => ?_)
            · have hst : cnI (iA σ 55) (jA σ 56) (jA σ 57) q i (cnO (iA σ 55) (jA σ 56) (jA σ 57) q N (0, 0, a9, b9) (i)) (d + 1) = cnI (iA σ 55) (jA σ 56) (jA σ 57) q i (cnO (iA σ 55) (jA σ 56) (jA σ 57) q N (0, 0, a9, b9) (i)) (d) := cnS_n hci hck ht0 (Int64.not_lt.mpr ((lg_cmp_ge _ _).mp c_6))
              refine g_iinc (pc9 := 118) C rfl [(6, .int (nI (i + 1 + d + 1))), (7, .long (scI (jA σ 56) (jA σ 57) q i (i + 1 + d))), (5, .int (nI (i))), (3, .long ((cnI (iA σ 55) (jA σ 56) (jA σ 57) q i (cnO (iA σ 55) (jA σ 56) (jA σ 57) q N (0, 0, a9, b9) (i)) (d)).2.1)), (2, .int (nI ((cnI (iA σ 55) (jA σ 56) (jA σ 57) q i (cnO (iA σ 55) (jA σ 56) (jA σ 57) q N (0, 0, a9, b9) (i)) (d)).1))), (0, .ref (w.1 (53))), (1, .int (nI (q)))] 1 (nI (i + 1 + d + 1)) dX0_chooseNearest_115 rfl (nI_1 (i + 1 + d)) (by decide) rfl ?_
              refine g_goto C 22 dX0_chooseNearest_118 rfl ?_
              refine g_sub [0, 2, 3, 4, 5, 6] [(6, .int (nI (i + 1 + d + 1))), (5, .int (nI (i))), (3, .long ((cnI (iA σ 55) (jA σ 56) (jA σ 57) q i (cnO (iA σ 55) (jA σ 56) (jA σ 57) q N (0, 0, a9, b9) (i)) (d)).2.1)), (2, .int (nI ((cnI (iA σ 55) (jA σ 56) (jA σ 57) q i (cnO (iA σ 55) (jA σ 56) (jA σ 57) q N (0, 0, a9, b9) (i)) (d)).1))), (0, .ref (w.1 (53))), (1, .int (nI (q)))] rfl ?_
              have key := ih2 (d + 1) (by omega) (by omega)
              rw [hst] at key
              exact key
            · have hst : cnI (iA σ 55) (jA σ 56) (jA σ 57) q i (cnO (iA σ 55) (jA σ 56) (jA σ 57) q N (0, 0, a9, b9) (i)) (d + 1) = (1, scI (jA σ 56) (jA σ 57) q i (i + 1 + d), i, i + 1 + d) := cnS_y hci hck (Or.inr (Int64.not_le.mp (fun h => c_6 ((lg_cmp_ge _ _).mpr h))))
              refine g_iconst (pc9 := 99) C rfl (nI (1)) dX0_chooseNearest_98 rfl ?_
              refine g_istore_n (pc9 := 100) C rfl [(2, .int (nI (1))), (7, .long (scI (jA σ 56) (jA σ 57) q i (i + 1 + d))), (6, .int (nI (i + 1 + d))), (5, .int (nI (i))), (3, .long ((cnI (iA σ 55) (jA σ 56) (jA σ 57) q i (cnO (iA σ 55) (jA σ 56) (jA σ 57) q N (0, 0, a9, b9) (i)) (d)).2.1)), (0, .ref (w.1 (53))), (1, .int (nI (q)))] dX0_chooseNearest_99 rfl (by decide) rfl ?_
              refine g_lload (pc9 := 102) C rfl 1 dX0_chooseNearest_100 rfl ?_
              refine g_lstore_n (pc9 := 103) C rfl [(3, .long (scI (jA σ 56) (jA σ 57) q i (i + 1 + d))), (2, .int (nI (1))), (7, .long (scI (jA σ 56) (jA σ 57) q i (i + 1 + d))), (6, .int (nI (i + 1 + d))), (5, .int (nI (i))), (0, .ref (w.1 (53))), (1, .int (nI (q)))] dX0_chooseNearest_102 rfl (by decide) rfl ?_
              refine g_aload_n (pc9 := 104) C rfl 5 dX0_chooseNearest_103 rfl rfl ?_
              refine g_iload (pc9 := 106) C rfl 4 dX0_chooseNearest_104 rfl ?_
              refine g_put (pc9 := 109) C rfl (53) 5 dX0_chooseNearest_106 (by decide) (ce_53 w (sN (sN σ (53) 5 (nI ((cnI (iA σ 55) (jA σ 56) (jA σ 57) q i (cnO (iA σ 55) (jA σ 56) (jA σ 57) q N (0, 0, a9, b9) (i)) (d)).2.2.1))) (53) 6 (nI ((cnI (iA σ 55) (jA σ 56) (jA σ 57) q i (cnO (iA σ 55) (jA σ 56) (jA σ 57) q N (0, 0, a9, b9) (i)) (d)).2.2.2)))) (rfl) hin_0 hl_69 tyX0 tyX0_ok nmX0 rfl (by decide) rfl rfl rfl (Nat.le_of_ble_eq_true rfl) ?_
              rw [sN_cm (a := 53) (k := 6) (b := 53) (k9 := 5) (Or.inr (by decide)), sN_sN]
              refine g_aload_n (pc9 := 110) C rfl 5 dX0_chooseNearest_109 rfl rfl ?_
              refine g_iload (pc9 := 112) C rfl 3 dX0_chooseNearest_110 rfl ?_
              refine g_put (pc9 := 115) C rfl (53) 6 dX0_chooseNearest_112 (by decide) (ce_53 w (sN (sN σ (53) 5 (nI (i))) (53) 6 (nI ((cnI (iA σ 55) (jA σ 56) (jA σ 57) q i (cnO (iA σ 55) (jA σ 56) (jA σ 57) q N (0, 0, a9, b9) (i)) (d)).2.2.2)))) (rfl) hin_0 hl_72 tyX0 tyX0_ok nmX0 rfl (by decide) rfl rfl rfl (Nat.le_of_ble_eq_true rfl) ?_
              rw [sN_sN]
              refine g_iinc (pc9 := 118) C rfl [(6, .int (nI (i + 1 + d + 1))), (3, .long (scI (jA σ 56) (jA σ 57) q i (i + 1 + d))), (2, .int (nI (1))), (7, .long (scI (jA σ 56) (jA σ 57) q i (i + 1 + d))), (5, .int (nI (i))), (0, .ref (w.1 (53))), (1, .int (nI (q)))] 3 (nI (i + 1 + d + 1)) dX0_chooseNearest_115 rfl (nI_1 (i + 1 + d)) (by decide) rfl ?_
              refine g_goto C 22 dX0_chooseNearest_118 rfl ?_
              refine g_sub [0, 4, 1, 2, 5, 6] [(6, .int (nI (i + 1 + d + 1))), (5, .int (nI (i))), (3, .long (scI (jA σ 56) (jA σ 57) q i (i + 1 + d))), (2, .int (nI (1))), (0, .ref (w.1 (53))), (1, .int (nI (q)))] rfl ?_
              have key := ih2 (d + 1) (by omega) (by omega)
              rw [hst] at key
              exact key
def mgS (c : Nat → Int32) (a b : Nat) (x : Int64) (k : Nat) (y : Nat → Int64) : Nat → Int64 := if k = a ∨ k = b ∨ c k = 0 then y else vp_updL (vp_updL y (a * 12 + k) (((y (a * 12 + k) + y (b * 12 + k)) - x) >>> ((nI 1).toInt64 &&& 63))) (k * 12 + a) (((y (a * 12 + k) + y (b * 12 + k)) - x) >>> ((nI 1).toInt64 &&& 63))
def mgU (c : Nat → Int32) (a b : Nat) (x : Int64) (y : Nat → Int64) : Nat → (Nat → Int64)
  | 0 => y
  | k + 1 => mgS c a b x k (mgU c a b x y k)
theorem mgS_y {c : Nat → Int32} {a b : Nat} {x : Int64} {k : Nat} {y : Nat → Int64} (h : k = a ∨ k = b ∨ c k = 0) : mgS c a b x k y = y := if_pos h
theorem mgS_n {c : Nat → Int32} {a b : Nat} {x : Int64} {k : Nat} {y : Nat → Int64} (h1 : ¬ k = a) (h2 : ¬ k = b) (h3 : ¬ c k = 0) : mgS c a b x k y = vp_updL (vp_updL y (a * 12 + k) (((y (a * 12 + k) + y (b * 12 + k)) - x) >>> ((nI 1).toInt64 &&& 63))) (k * 12 + a) (((y (a * 12 + k) + y (b * 12 + k)) - x) >>> ((nI 1).toInt64 &&& 63)) := if_neg (fun h => h.elim h1 (fun h => h.elim h2 h3))
set_option maxRecDepth 100000 in
set_option maxHeartbeats 4000000 in
theorem m_X0_mergeNearest (l : Launch) (w : Wd) (σ : St) (N : Nat) (hN : nF σ 53 0 = nI N) (h12 : N ≤ 12) (a b : Nat) (ha0 : nF σ 53 5 = nI a) (hb0 : nF σ 53 6 = nI b) (ha : a < 12) (hb : b < 12) : MV l yX0_mergeNearest wsX0_mergeNearest (rmL 1) w [.ref (w.1 (53))] (σ) (fun σ9 => σ9 = sI (sJ σ 56 (mgU (iA σ 55) a b (jA σ 56 (a * 12 + b)) (jA σ 56) N)) 55 (upd (upd (iA σ 55) a (iA σ 55 a ||| iA σ 55 b)) b (nI 0))) := by
  refine MV_of (cc := cX0_mergeNearest) (maxL := 8) (by decide) rfl (Nat.le_of_ble_eq_true rfl) ?_
  intro p e s m args below meth c A C hr hlk
  have C : Cx p s m args c w A cX0_mergeNearest RX0 8 wsX0_mergeNearest := C
  have hin_0 : ∀ u ∈ wsX00, u ∈ wsX0_mergeNearest := by decide +kernel
  have hl_9 : Cond.fieldLink RX0 9 "LineageBench$Distances" "counting" "I" ∈ wsX0_mergeNearest := by decide +kernel
  have hl_19 : Cond.fieldLink RX0 19 "LineageBench$Distances" "clusterAt" "[I" ∈ wsX0_mergeNearest := by decide +kernel
  have hl_22 : Cond.fieldLink RX0 22 "LineageBench$Distances" "gap" "[J" ∈ wsX0_mergeNearest := by decide +kernel
  have hl_69 : Cond.fieldLink RX0 69 "LineageBench$Distances" "nearOne" "I" ∈ wsX0_mergeNearest := by decide +kernel
  have hl_72 : Cond.fieldLink RX0 72 "LineageBench$Distances" "nearTwo" "I" ∈ wsX0_mergeNearest := by decide +kernel
  refine g_st (σ9 := sJ σ (56) (mgU (iA σ 55) a b (jA σ 56 (a * 12 + b)) (jA σ 56) (0))) sJ_self.symm ?_
  refine g_aload_n (pc9 := 1) C rfl 0 dX0_mergeNearest_0 rfl rfl ?_
  refine g_get (v := .ref (w.1 (56))) (pc9 := 4) C rfl (53) 3 dX0_mergeNearest_1 (by decide) (ce_53 w (sJ σ (56) (mgU (iA σ 55) a b (jA σ 56 (a * 12 + b)) (jA σ 56) (0)))) hin_0 hl_22 rfl (by decide) rfl rfl ?_
  refine g_aload_n (pc9 := 5) C rfl 0 dX0_mergeNearest_4 rfl rfl ?_
  refine g_get (v := .int (nI (a))) (pc9 := 8) C rfl (53) 5 dX0_mergeNearest_5 (by decide) (ce_53 w (sJ σ (56) (mgU (iA σ 55) a b (jA σ 56 (a * 12 + b)) (jA σ 56) (0)))) hin_0 hl_69 rfl (by decide) rfl (congrArg (fun z => some (Value.int z)) ((nF_J).trans ha0)) ?_
  refine g_bipush (pc9 := 10) C rfl (nI (12)) dX0_mergeNearest_8 rfl ?_
  refine g_imulN (pc9 := 11) C rfl dX0_mergeNearest_10 ?_
  refine g_aload_n (pc9 := 12) C rfl 0 dX0_mergeNearest_11 rfl rfl ?_
  refine g_get (v := .int (nI (b))) (pc9 := 15) C rfl (53) 6 dX0_mergeNearest_12 (by decide) (ce_53 w (sJ σ (56) (mgU (iA σ 55) a b (jA σ 56 (a * 12 + b)) (jA σ 56) (0)))) hin_0 hl_72 rfl (by decide) rfl (congrArg (fun z => some (Value.int z)) ((nF_J).trans hb0)) ?_
  refine g_iaddN (pc9 := 16) C rfl dX0_mergeNearest_15 ?_
  refine g_lald (x := jA σ 56 (a * 12 + b)) (pc9 := 17) C rfl (56) ((a * 12) + b) dX0_mergeNearest_16 (by decide) (ce_56 w (sJ σ (56) (mgU (iA σ 55) a b (jA σ 56 (a * 12 + b)) (jA σ 56) (0)))) rfl (by omega) (by decide) ((congrFun (jA_s) _).trans rfl) ?_
  refine g_lstore_n (pc9 := 18) C rfl [(1, .long (jA σ 56 (a * 12 + b))), (0, .ref (w.1 (53)))] dX0_mergeNearest_17 rfl (by decide) rfl ?_
  refine g_iconst (pc9 := 19) C rfl (nI (0)) dX0_mergeNearest_18 rfl ?_
  refine g_istore_n (pc9 := 20) C rfl [(3, .int (nI (0))), (1, .long (jA σ 56 (a * 12 + b))), (0, .ref (w.1 (53)))] dX0_mergeNearest_19 rfl (by decide) rfl ?_
  refine g_sub [0, 1, 2] [(3, .int (nI (0))), (1, .long (jA σ 56 (a * 12 + b))), (0, .ref (w.1 (53)))] rfl ?_
  refine g_lp1 (α := Nat) (fun k => k ≤ N) (fun k => N - k) (fun k => G p l e _ s m args below meth c _ w A _ (sJ σ (56) (mgU (iA σ 55) a b (jA σ 56 (a * 12 + b)) (jA σ 56) (k))) 0 0 20 [(3, .int (nI (k))), (1, .long (jA σ 56 (a * 12 + b))), (0, .ref (w.1 (53)))] []) (fun k hI ih => ?_) (0) (Nat.zero_le _)
  obtain hk := hI
  refine g_iload_n (pc9 := 21) C rfl 0 dX0_mergeNearest_20 rfl rfl ?_
  refine g_aload_n (pc9 := 22) C rfl 2 dX0_mergeNearest_21 rfl rfl ?_
  refine g_get (v := .int (nI (N))) (pc9 := 25) C rfl (53) 0 dX0_mergeNearest_22 (by decide) (ce_53 w (sJ σ (56) (mgU (iA σ 55) a b (jA σ 56 (a * 12 + b)) (jA σ 56) (k)))) hin_0 hl_9 rfl (by decide) rfl (congrArg (fun z => some (Value.int z)) ((nF_J).trans hN)) ?_
  refine g_icmp_ge (pc9 := 28) C rfl 130 dX0_mergeNearest_25 rfl (fun c_1 => ?_) (fun c_1 => ?_)
  · replace c_1 := (nI_leI (by omega) (by omega)).mp c_1
    refine g_aload_n (pc9 := 131) C rfl 2 dX0_mergeNearest_130 rfl rfl ?_
    refine g_get (v := .ref (w.1 (55))) (pc9 := 134) C rfl (53) 2 dX0_mergeNearest_131 (by decide) (ce_53 w (sJ σ (56) (mgU (iA σ 55) a b (jA σ 56 (a * 12 + b)) (jA σ 56) (k)))) hin_0 hl_19 rfl (by decide) rfl rfl ?_
    refine g_aload_n (pc9 := 135) C rfl 2 dX0_mergeNearest_134 rfl rfl ?_
    refine g_get (v := .int (nI (a))) (pc9 := 138) C rfl (53) 5 dX0_mergeNearest_135 (by decide) (ce_53 w (sJ σ (56) (mgU (iA σ 55) a b (jA σ 56 (a * 12 + b)) (jA σ 56) (k)))) hin_0 hl_69 rfl (by decide) rfl (congrArg (fun z => some (Value.int z)) ((nF_J).trans ha0)) ?_
    refine g_dup2 (pc9 := 139) C rfl dX0_mergeNearest_138 rfl rfl ?_
    refine g_iald (x := (iA σ (55)) (a)) (pc9 := 140) C rfl (55) (a) dX0_mergeNearest_139 (by decide) (ce_55 w (sJ σ (56) (mgU (iA σ 55) a b (jA σ 56 (a * 12 + b)) (jA σ 56) (k)))) rfl (by omega) (by decide) (congrFun (iA_J) _) ?_
    refine g_aload_n (pc9 := 141) C rfl 2 dX0_mergeNearest_140 rfl rfl ?_
    refine g_get (v := .ref (w.1 (55))) (pc9 := 144) C rfl (53) 2 dX0_mergeNearest_141 (by decide) (ce_53 w (sJ σ (56) (mgU (iA σ 55) a b (jA σ 56 (a * 12 + b)) (jA σ 56) (k)))) hin_0 hl_19 rfl (by decide) rfl rfl ?_
    refine g_aload_n (pc9 := 145) C rfl 2 dX0_mergeNearest_144 rfl rfl ?_
    refine g_get (v := .int (nI (b))) (pc9 := 148) C rfl (53) 6 dX0_mergeNearest_145 (by decide) (ce_53 w (sJ σ (56) (mgU (iA σ 55) a b (jA σ 56 (a * 12 + b)) (jA σ 56) (k)))) hin_0 hl_72 rfl (by decide) rfl (congrArg (fun z => some (Value.int z)) ((nF_J).trans hb0)) ?_
    refine g_iald (x := (iA σ (55)) (b)) (pc9 := 149) C rfl (55) (b) dX0_mergeNearest_148 (by decide) (ce_55 w (sJ σ (56) (mgU (iA σ 55) a b (jA σ 56 (a * 12 + b)) (jA σ 56) (k)))) rfl (by omega) (by decide) (congrFun (iA_J) _) ?_
    refine g_ior (pc9 := 150) C rfl dX0_mergeNearest_149 ?_
    refine g_iast (pc9 := 151) C rfl (55) (a) (iA σ (55)) dX0_mergeNearest_150 (by decide) (fun _ => rfl) (ce_55 w (sJ σ (56) (mgU (iA σ 55) a b (jA σ 56 (a * 12 + b)) (jA σ 56) (k)))) rfl (by omega) (by decide) (iA_J) ?_
    refine g_aload_n (pc9 := 152) C rfl 2 dX0_mergeNearest_151 rfl rfl ?_
    refine g_get (v := .ref (w.1 (55))) (pc9 := 155) C rfl (53) 2 dX0_mergeNearest_152 (by decide) (ce_53 w (sI (sJ σ (56) (mgU (iA σ 55) a b (jA σ 56 (a * 12 + b)) (jA σ 56) (k))) (55) (upd (iA σ (55)) (a) (((iA σ (55)) (a)) ||| ((iA σ (55)) (b)))))) hin_0 hl_19 rfl (by decide) rfl rfl ?_
    refine g_aload_n (pc9 := 156) C rfl 2 dX0_mergeNearest_155 rfl rfl ?_
    refine g_get (v := .int (nI (b))) (pc9 := 159) C rfl (53) 6 dX0_mergeNearest_156 (by decide) (ce_53 w (sI (sJ σ (56) (mgU (iA σ 55) a b (jA σ 56 (a * 12 + b)) (jA σ 56) (k))) (55) (upd (iA σ (55)) (a) (((iA σ (55)) (a)) ||| ((iA σ (55)) (b)))))) hin_0 hl_72 rfl (by decide) rfl (congrArg (fun z => some (Value.int z)) (((nF_I).trans (nF_J)).trans hb0)) ?_
    refine g_iconst (pc9 := 160) C rfl (nI (0)) dX0_mergeNearest_159 rfl ?_
    refine g_iast (pc9 := 161) C rfl (55) (b) (upd (iA σ (55)) (a) (((iA σ (55)) (a)) ||| ((iA σ (55)) (b)))) dX0_mergeNearest_160 (by decide) (fun _ => rfl) (ce_55 w (sI (sJ σ (56) (mgU (iA σ 55) a b (jA σ 56 (a * 12 + b)) (jA σ 56) (k))) (55) (upd (iA σ (55)) (a) (((iA σ (55)) (a)) ||| ((iA σ (55)) (b)))))) rfl (by omega) (by decide) (iA_s) ?_
    rw [sI_sI (a := 55)]
    exact g_return C hr hlk dX0_mergeNearest_161 (by rw [show k = N by omega])
  · replace c_1 := (not_congr (nI_leI (by omega) (by omega))).mp c_1
    refine g_iload_n (pc9 := 29) C rfl 0 dX0_mergeNearest_28 rfl rfl ?_
    refine g_aload_n (pc9 := 30) C rfl 2 dX0_mergeNearest_29 rfl rfl ?_
    refine g_get (v := .int (nI (a))) (pc9 := 33) C rfl (53) 5 dX0_mergeNearest_30 (by decide) (ce_53 w (sJ σ (56) (mgU (iA σ 55) a b (jA σ 56 (a * 12 + b)) (jA σ 56) (k)))) hin_0 hl_69 rfl (by decide) rfl (congrArg (fun z => some (Value.int z)) ((nF_J).trans ha0)) ?_
    refine g_icmp_eq (pc9 := 36) C rfl 124 dX0_mergeNearest_33 rfl (fun c_2 => ?_) (fun c_2 => ?_)
    · replace c_2 := (nI_eq (by omega) (by omega)).mp c_2
      have hst : mgU (iA σ 55) a b (jA σ 56 (a * 12 + b)) (jA σ 56) (k + 1) = mgU (iA σ 55) a b (jA σ 56 (a * 12 + b)) (jA σ 56) (k) := mgS_y (Or.inl c_2)
      refine g_iinc (pc9 := 127) C rfl [(3, .int (nI (k + 1))), (1, .long (jA σ 56 (a * 12 + b))), (0, .ref (w.1 (53)))] 0 (nI (k + 1)) dX0_mergeNearest_124 rfl (nI_1 (k)) (by decide) rfl ?_
      refine g_goto C 20 dX0_mergeNearest_127 rfl ?_
      refine g_st (σ9 := sJ σ (56) (mgU (iA σ 55) a b (jA σ 56 (a * 12 + b)) (jA σ 56) (k + 1))) (by rw [hst]) ?_
      exact ih (k + 1) (by omega) (by omega)
    · replace c_2 := (not_congr (nI_eq (by omega) (by omega))).mp c_2
      have hka := c_2
      refine g_iload_n (pc9 := 37) C rfl 0 dX0_mergeNearest_36 rfl rfl ?_
      refine g_aload_n (pc9 := 38) C rfl 2 dX0_mergeNearest_37 rfl rfl ?_
      refine g_get (v := .int (nI (b))) (pc9 := 41) C rfl (53) 6 dX0_mergeNearest_38 (by decide) (ce_53 w (sJ σ (56) (mgU (iA σ 55) a b (jA σ 56 (a * 12 + b)) (jA σ 56) (k)))) hin_0 hl_72 rfl (by decide) rfl (congrArg (fun z => some (Value.int z)) ((nF_J).trans hb0)) ?_
      refine g_icmp_eq (pc9 := 44) C rfl 124 dX0_mergeNearest_41 rfl (fun c_3 => ?_) (fun c_3 => ?_)
      · replace c_3 := (nI_eq (by omega) (by omega)).mp c_3
        have hst : mgU (iA σ 55) a b (jA σ 56 (a * 12 + b)) (jA σ 56) (k + 1) = mgU (iA σ 55) a b (jA σ 56 (a * 12 + b)) (jA σ 56) (k) := mgS_y (Or.inr (Or.inl c_3))
        refine g_iinc (pc9 := 127) C rfl [(3, .int (nI (k + 1))), (1, .long (jA σ 56 (a * 12 + b))), (0, .ref (w.1 (53)))] 0 (nI (k + 1)) dX0_mergeNearest_124 rfl (nI_1 (k)) (by decide) rfl ?_
        refine g_goto C 20 dX0_mergeNearest_127 rfl ?_
        refine g_st (σ9 := sJ σ (56) (mgU (iA σ 55) a b (jA σ 56 (a * 12 + b)) (jA σ 56) (k + 1))) (by rw [hst]) ?_
        exact ih (k + 1) (by omega) (by omega)
      · replace c_3 := (not_congr (nI_eq (by omega) (by omega))).mp c_3
        have hkb := c_3
        refine g_aload_n (pc9 := 45) C rfl 2 dX0_mergeNearest_44 rfl rfl ?_
        refine g_get (v := .ref (w.1 (55))) (pc9 := 48) C rfl (53) 2 dX0_mergeNearest_45 (by decide) (ce_53 w (sJ σ (56) (mgU (iA σ 55) a b (jA σ 56 (a * 12 + b)) (jA σ 56) (k)))) hin_0 hl_19 rfl (by decide) rfl rfl ?_
        refine g_iload_n (pc9 := 49) C rfl 0 dX0_mergeNearest_48 rfl rfl ?_
        refine g_iald (x := (iA σ (55)) (k)) (pc9 := 50) C rfl (55) (k) dX0_mergeNearest_49 (by decide) (ce_55 w (sJ σ (56) (mgU (iA σ 55) a b (jA σ 56 (a * 12 + b)) (jA σ 56) (k)))) rfl (by omega) (by decide) (congrFun (iA_J) _) ?_
        refine g_if_eq (pc9 := 53) C rfl 124 dX0_mergeNearest_50 rfl (fun c_4 => ?_) (fun c_4 => ?_)
        · have hst : mgU (iA σ 55) a b (jA σ 56 (a * 12 + b)) (jA σ 56) (k + 1) = mgU (iA σ 55) a b (jA σ 56 (a * 12 + b)) (jA σ 56) (k) := mgS_y (Or.inr (Or.inr c_4))
          refine g_iinc (pc9 := 127) C rfl [(3, .int (nI (k + 1))), (1, .long (jA σ 56 (a * 12 + b))), (0, .ref (w.1 (53)))] 0 (nI (k + 1)) dX0_mergeNearest_124 rfl (nI_1 (k)) (by decide) rfl ?_
          refine g_goto C 20 dX0_mergeNearest_127 rfl ?_
          refine g_st (σ9 := sJ σ (56) (mgU (iA σ 55) a b (jA σ 56 (a * 12 + b)) (jA σ 56) (k + 1))) (by rw [hst]) ?_
          exact ih (k + 1) (by omega) (by omega)
        · have hst : mgU (iA σ 55) a b (jA σ 56 (a * 12 + b)) (jA σ 56) (k + 1) = _ := mgS_n hka hkb c_4
          refine g_aload_n (pc9 := 54) C rfl 2 dX0_mergeNearest_53 rfl rfl ?_
          refine g_get (v := .ref (w.1 (56))) (pc9 := 57) C rfl (53) 3 dX0_mergeNearest_54 (by decide) (ce_53 w (sJ σ (56) (mgU (iA σ 55) a b (jA σ 56 (a * 12 + b)) (jA σ 56) (k)))) hin_0 hl_22 rfl (by decide) rfl rfl ?_
          refine g_aload_n (pc9 := 58) C rfl 2 dX0_mergeNearest_57 rfl rfl ?_
          refine g_get (v := .int (nI (a))) (pc9 := 61) C rfl (53) 5 dX0_mergeNearest_58 (by decide) (ce_53 w (sJ σ (56) (mgU (iA σ 55) a b (jA σ 56 (a * 12 + b)) (jA σ 56) (k)))) hin_0 hl_69 rfl (by decide) rfl (congrArg (fun z => some (Value.int z)) ((nF_J).trans ha0)) ?_
          refine g_bipush (pc9 := 63) C rfl (nI (12)) dX0_mergeNearest_61 rfl ?_
          refine g_imulN (pc9 := 64) C rfl dX0_mergeNearest_63 ?_
          refine g_iload_n (pc9 := 65) C rfl 0 dX0_mergeNearest_64 rfl rfl ?_
          refine g_iaddN (pc9 := 66) C rfl dX0_mergeNearest_65 ?_
          refine g_lald (x := (mgU (iA σ 55) a b (jA σ 56 (a * 12 + b)) (jA σ 56) (k)) ((a * 12) + k)) (pc9 := 67) C rfl (56) ((a * 12) + k) dX0_mergeNearest_66 (by decide) (ce_56 w (sJ σ (56) (mgU (iA σ 55) a b (jA σ 56 (a * 12 + b)) (jA σ 56) (k)))) rfl (by omega) (by decide) (congrFun (jA_s) _) ?_
          refine g_aload_n (pc9 := 68) C rfl 2 dX0_mergeNearest_67 rfl rfl ?_
          refine g_get (v := .ref (w.1 (56))) (pc9 := 71) C rfl (53) 3 dX0_mergeNearest_68 (by decide) (ce_53 w (sJ σ (56) (mgU (iA σ 55) a b (jA σ 56 (a * 12 + b)) (jA σ 56) (k)))) hin_0 hl_22 rfl (by decide) rfl rfl ?_
          refine g_aload_n (pc9 := 72) C rfl 2 dX0_mergeNearest_71 rfl rfl ?_
          refine g_get (v := .int (nI (b))) (pc9 := 75) C rfl (53) 6 dX0_mergeNearest_72 (by decide) (ce_53 w (sJ σ (56) (mgU (iA σ 55) a b (jA σ 56 (a * 12 + b)) (jA σ 56) (k)))) hin_0 hl_72 rfl (by decide) rfl (congrArg (fun z => some (Value.int z)) ((nF_J).trans hb0)) ?_
          refine g_bipush (pc9 := 77) C rfl (nI (12)) dX0_mergeNearest_75 rfl ?_
          refine g_imulN (pc9 := 78) C rfl dX0_mergeNearest_77 ?_
          refine g_iload_n (pc9 := 79) C rfl 0 dX0_mergeNearest_78 rfl rfl ?_
          refine g_iaddN (pc9 := 80) C rfl dX0_mergeNearest_79 ?_
          refine g_lald (x := (mgU (iA σ 55) a b (jA σ 56 (a * 12 + b)) (jA σ 56) (k)) ((b * 12) + k)) (pc9 := 81) C rfl (56) ((b * 12) + k) dX0_mergeNearest_80 (by decide) (ce_56 w (sJ σ (56) (mgU (iA σ 55) a b (jA σ 56 (a * 12 + b)) (jA σ 56) (k)))) rfl (by omega) (by decide) (congrFun (jA_s) _) ?_
          refine g_ladd (pc9 := 82) C rfl dX0_mergeNearest_81 ?_
          refine g_lstore (pc9 := 84) C rfl [(4, .long (((mgU (iA σ 55) a b (jA σ 56 (a * 12 + b)) (jA σ 56) (k)) ((a * 12) + k)) + ((mgU (iA σ 55) a b (jA σ 56 (a * 12 + b)) (jA σ 56) (k)) ((b * 12) + k)))), (3, .int (nI (k))), (1, .long (jA σ 56 (a * 12 + b))), (0, .ref (w.1 (53)))] dX0_mergeNearest_82 (by decide) rfl ?_
          refine g_lload (pc9 := 86) C rfl 0 dX0_mergeNearest_84 rfl ?_
          refine g_lload_n (pc9 := 87) C rfl 2 dX0_mergeNearest_86 rfl rfl ?_
          refine g_lsub (pc9 := 88) C rfl dX0_mergeNearest_87 ?_
          refine g_iconst (pc9 := 89) C rfl (nI (1)) dX0_mergeNearest_88 rfl ?_
          refine g_lshr (pc9 := 90) C rfl (((((mgU (iA σ 55) a b (jA σ 56 (a * 12 + b)) (jA σ 56) (k)) ((a * 12) + k)) + ((mgU (iA σ 55) a b (jA σ 56 (a * 12 + b)) (jA σ 56) (k)) ((b * 12) + k))) - (jA σ 56 (a * 12 + b))) >>> ((nI (1)).toInt64 &&& 63)) dX0_mergeNearest_89 rfl ?_
          refine g_lstore (pc9 := 92) C rfl [(6, .long (((((mgU (iA σ 55) a b (jA σ 56 (a * 12 + b)) (jA σ 56) (k)) ((a * 12) + k)) + ((mgU (iA σ 55) a b (jA σ 56 (a * 12 + b)) (jA σ 56) (k)) ((b * 12) + k))) - (jA σ 56 (a * 12 + b))) >>> ((nI (1)).toInt64 &&& 63))), (4, .long (((mgU (iA σ 55) a b (jA σ 56 (a * 12 + b)) (jA σ 56) (k)) ((a * 12) + k)) + ((mgU (iA σ 55) a b (jA σ 56 (a * 12 + b)) (jA σ 56) (k)) ((b * 12) + k)))), (3, .int (nI (k))), (1, .long (jA σ 56 (a * 12 + b))), (0, .ref (w.1 (53)))] dX0_mergeNearest_90 (by decide) rfl ?_
          refine g_aload_n (pc9 := 93) C rfl 4 dX0_mergeNearest_92 rfl rfl ?_
          refine g_get (v := .ref (w.1 (56))) (pc9 := 96) C rfl (53) 3 dX0_mergeNearest_93 (by decide) (ce_53 w (sJ σ (56) (mgU (iA σ 55) a b (jA σ 56 (a * 12 + b)) (jA σ 56) (k)))) hin_0 hl_22 rfl (by decide) rfl rfl ?_
          refine g_aload_n (pc9 := 97) C rfl 4 dX0_mergeNearest_96 rfl rfl ?_
          refine g_get (v := .int (nI (a))) (pc9 := 100) C rfl (53) 5 dX0_mergeNearest_97 (by decide) (ce_53 w (sJ σ (56) (mgU (iA σ 55) a b (jA σ 56 (a * 12 + b)) (jA σ 56) (k)))) hin_0 hl_69 rfl (by decide) rfl (congrArg (fun z => some (Value.int z)) ((nF_J).trans ha0)) ?_
          refine g_bipush (pc9 := 102) C rfl (nI (12)) dX0_mergeNearest_100 rfl ?_
          refine g_imulN (pc9 := 103) C rfl dX0_mergeNearest_102 ?_
          refine g_iload_n (pc9 := 104) C rfl 2 dX0_mergeNearest_103 rfl rfl ?_
          refine g_iaddN (pc9 := 105) C rfl dX0_mergeNearest_104 ?_
          refine g_lload (pc9 := 107) C rfl 0 dX0_mergeNearest_105 rfl ?_
          refine g_last (pc9 := 108) C rfl (56) ((a * 12) + k) (mgU (iA σ 55) a b (jA σ 56 (a * 12 + b)) (jA σ 56) (k)) dX0_mergeNearest_107 (by decide) (fun _ => rfl) (ce_56 w (sJ σ (56) (mgU (iA σ 55) a b (jA σ 56 (a * 12 + b)) (jA σ 56) (k)))) rfl (by omega) (by decide) (jA_s) ?_
          rw [sJ_sJ (a := 56)]
          refine g_aload_n (pc9 := 109) C rfl 4 dX0_mergeNearest_108 rfl rfl ?_
          refine g_get (v := .ref (w.1 (56))) (pc9 := 112) C rfl (53) 3 dX0_mergeNearest_109 (by decide) (ce_53 w (sJ σ (56) (vp_updL (mgU (iA σ 55) a b (jA σ 56 (a * 12 + b)) (jA σ 56) (k)) ((a * 12) + k) (((((mgU (iA σ 55) a b (jA σ 56 (a * 12 + b)) (jA σ 56) (k)) ((a * 12) + k)) + ((mgU (iA σ 55) a b (jA σ 56 (a * 12 + b)) (jA σ 56) (k)) ((b * 12) + k))) - (jA σ 56 (a * 12 + b))) >>> ((nI (1)).toInt64 &&& 63))))) hin_0 hl_22 rfl (by decide) rfl rfl ?_
          refine g_iload_n (pc9 := 113) C rfl 2 dX0_mergeNearest_112 rfl rfl ?_
          refine g_bipush (pc9 := 115) C rfl (nI (12)) dX0_mergeNearest_113 rfl ?_
          refine g_imulN (pc9 := 116) C rfl dX0_mergeNearest_115 ?_
          refine g_aload_n (pc9 := 117) C rfl 4 dX0_mergeNearest_116 rfl rfl ?_
          refine g_get (v := .int (nI (a))) (pc9 := 120) C rfl (53) 5 dX0_mergeNearest_117 (by decide) (ce_53 w (sJ σ (56) (vp_updL (mgU (iA σ 55) a b (jA σ 56 (a * 12 + b)) (jA σ 56) (k)) ((a * 12) + k) (((((mgU (iA σ 55) a b (jA σ 56 (a * 12 + b)) (jA σ 56) (k)) ((a * 12) + k)) + ((mgU (iA σ 55) a b (jA σ 56 (a * 12 + b)) (jA σ 56) (k)) ((b * 12) + k))) - (jA σ 56 (a * 12 + b))) >>> ((nI (1)).toInt64 &&& 63))))) hin_0 hl_69 rfl (by decide) rfl (congrArg (fun z => some (Value.int z)) ((nF_J).trans ha0)) ?_
          refine g_iaddN (pc9 := 121) C rfl dX0_mergeNearest_120 ?_
          refine g_lload (pc9 := 123) C rfl 0 dX0_mergeNearest_121 rfl ?_
          refine g_last (pc9 := 124) C rfl (56) ((k * 12) + a) (vp_updL (mgU (iA σ 55) a b (jA σ 56 (a * 12 + b)) (jA σ 56) (k)) ((a * 12) + k) (((((mgU (iA σ 55) a b (jA σ 56 (a * 12 + b)) (jA σ 56) (k)) ((a * 12) + k)) + ((mgU (iA σ 55) a b (jA σ 56 (a * 12 + b)) (jA σ 56) (k)) ((b * 12) + k))) - (jA σ 56 (a * 12 + b))) >>> ((nI (1)).toInt64 &&& 63))) dX0_mergeNearest_123 (by decide) (fun _ => rfl) (ce_56 w (sJ σ (56) (vp_updL (mgU (iA σ 55) a b (jA σ 56 (a * 12 + b)) (jA σ 56) (k)) ((a * 12) + k) (((((mgU (iA σ 55) a b (jA σ 56 (a * 12 + b)) (jA σ 56) (k)) ((a * 12) + k)) + ((mgU (iA σ 55) a b (jA σ 56 (a * 12 + b)) (jA σ 56) (k)) ((b * 12) + k))) - (jA σ 56 (a * 12 + b))) >>> ((nI (1)).toInt64 &&& 63))))) rfl (by omega) (by decide) (jA_s) ?_
          rw [sJ_sJ (a := 56)]
          refine g_iinc (pc9 := 127) C rfl [(3, .int (nI (k + 1))), (6, .long (((((mgU (iA σ 55) a b (jA σ 56 (a * 12 + b)) (jA σ 56) (k)) ((a * 12) + k)) + ((mgU (iA σ 55) a b (jA σ 56 (a * 12 + b)) (jA σ 56) (k)) ((b * 12) + k))) - (jA σ 56 (a * 12 + b))) >>> ((nI (1)).toInt64 &&& 63))), (4, .long (((mgU (iA σ 55) a b (jA σ 56 (a * 12 + b)) (jA σ 56) (k)) ((a * 12) + k)) + ((mgU (iA σ 55) a b (jA σ 56 (a * 12 + b)) (jA σ 56) (k)) ((b * 12) + k)))), (1, .long (jA σ 56 (a * 12 + b))), (0, .ref (w.1 (53)))] 2 (nI (k + 1)) dX0_mergeNearest_124 rfl (nI_1 (k)) (by decide) rfl ?_
          refine g_goto C 20 dX0_mergeNearest_127 rfl ?_
          refine g_sub [0, 3, 4] [(3, .int (nI (k + 1))), (1, .long (jA σ 56 (a * 12 + b))), (0, .ref (w.1 (53)))] rfl ?_
          refine g_st (σ9 := sJ σ (56) (mgU (iA σ 55) a b (jA σ 56 (a * 12 + b)) (jA σ 56) (k + 1))) (by rw [hst]) ?_
          exact ih (k + 1) (by omega) (by omega)

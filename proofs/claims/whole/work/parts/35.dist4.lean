/-! Distances: nearest joining -/
theorem m_choose (l : Launch) (w : Wd) (σ : St) (N : Nat) (hN : nF σ 53 0 = nI N) (h12 : N ≤ 12) (q : Nat) (hq : 2 ≤ q) (hq2 : q ≤ 12) (a9 b9 : Nat) (ha : a9 < 12) (hb : b9 < 12) (ha0 : nF σ 53 5 = nI a9) (hb0 : nF σ 53 6 = nI b9) : MV l yX0_chooseNearest wsX0_chooseNearest (rmL 1) w [.ref (w.1 53), .int (nI q)] σ (fun σ9 => σ9 = sN (sN σ 53 5 (nI (cnO (iA σ 55) (jA σ 56) (jA σ 57) q N (0, 0, a9, b9) N).2.2.1)) 53 6 (nI (cnO (iA σ 55) (jA σ 56) (jA σ 57) q N (0, 0, a9, b9) N).2.2.2)) := by
  have key := m_X0_chooseNearest l w σ N hN h12 q hq hq2 a9 b9 ha hb
  rw [show sN (sN σ 53 5 (nI ((0, 0, a9, b9) : CN).2.2.1)) 53 6 (nI ((0, 0, a9, b9) : CN).2.2.2) = σ from by
    rw [sN_self (show nF σ 53 5 = nI a9 from ha0)]; exact sN_self hb0] at key
  exact key
abbrev NT : Type := (Nat × (Nat → Int32)) × (Nat → Int32) × (Nat → Int64) × (Nat → Int64) × Nat × Nat
def njZ (N : Nat) (T : NT) : Nat → Int64 := fillJ (fun i => sgS T.2.1 T.2.2.1 i N) T.2.2.2.1 N
def njC (N q : Nat) (T : NT) : CN := cnO T.2.1 T.2.2.1 (njZ N T) q N (0, 0, T.2.2.2.2.1, T.2.2.2.2.2) N
def njc (N q : Nat) (T : NT) : Nat → Int32 := upd (upd T.2.1 (njC N q T).2.2.1 (T.2.1 (njC N q T).2.2.1 ||| T.2.1 (njC N q T).2.2.2)) (njC N q T).2.2.2 (nI 0)
noncomputable def njS (N q : Nat) (T : NT) : NT := ((famZ T.1.1 T.1.2 (njc N q T (njC N q T).2.2.1), famF T.1.1 T.1.2 (njc N q T (njC N q T).2.2.1)), njc N q T, mgU T.2.1 (njC N q T).2.2.1 (njC N q T).2.2.2 (T.2.2.1 ((njC N q T).2.2.1 * 12 + (njC N q T).2.2.2)) T.2.2.1 N, njZ N T, (njC N q T).2.2.1, (njC N q T).2.2.2)
noncomputable def njD (N : Nat) : Nat → NT → NT
  | 0, T => T
  | k + 1, T => njD N k (njS N (k + 3) T)
abbrev njSt (σ : St) (T : NT) : St := sN (sI (sN (sN (sJ (sJ (sI σ 55 T.2.1) 56 T.2.2.1) 57 T.2.2.2.1) 53 5 (nI T.2.2.2.2.1)) 53 6 (nI T.2.2.2.2.2)) 42 T.1.2) 41 1 (nI T.1.1)
set_option maxRecDepth 100000 in
set_option maxHeartbeats 4000000 in
theorem m_X0_joinNearest (l : Launch) (w : Wd) (σ : St) (N : Nat) (hN : nF σ 53 0 = nI N) (h12 : N ≤ 12) (h2 : 2 ≤ N) (F : Nat × (Nat → Int32)) (hF : F.1 ≤ 47) (a0 b0 : Nat) (ha0 : nF σ 53 5 = nI a0) (hb0 : nF σ 53 6 = nI b0) (ha : a0 < 12) (hb : b0 < 12) : MV l yX0_joinNearest wsX0_joinNearest (rmL 4) w [.ref (w.1 (53)), .ref (w.1 (41))] (sN (sI σ (42) (F.2)) (41) 1 (nI (F.1))) (fun σ9 => ∃ T : NT, T = njD N (N - 2) (eachF (allK N) F, fillG bitI (iA σ 55) N, sjA (dS σ) N (jA σ 56) N, jA σ 57, a0, b0) ∧ σ9 = njSt σ ((famZ T.1.1 T.1.2 (allK N), famF T.1.1 T.1.2 (allK N)), T.2)) := by
  refine MV_of (cc := cX0_joinNearest) (maxL := 3) (by decide) rfl (Nat.le_of_ble_eq_true rfl) ?_
  intro p e s m args below meth c A C hr hlk
  have C : Cx p s m args c w A cX0_joinNearest RX0 3 wsX0_joinNearest := C
  have hin_0 : ∀ u ∈ wsX00, u ∈ wsX0_joinNearest := by decide +kernel
  have hl_9 : Cond.fieldLink RX0 9 "LineageBench$Distances" "counting" "I" ∈ wsX0_joinNearest := by decide +kernel
  have hl_19 : Cond.fieldLink RX0 19 "LineageBench$Distances" "clusterAt" "[I" ∈ wsX0_joinNearest := by decide +kernel
  have hl_69 : Cond.fieldLink RX0 69 "LineageBench$Distances" "nearOne" "I" ∈ wsX0_joinNearest := by decide +kernel
  refine g_aload_n (pc9 := 1) C rfl 1 dX0_joinNearest_0 rfl rfl ?_
  refine g_iconst (pc9 := 2) C rfl (nI (1)) dX0_joinNearest_1 rfl ?_
  refine g_aload_n (pc9 := 3) C rfl 0 dX0_joinNearest_2 rfl rfl ?_
  refine g_get (v := .int (nI (N))) (pc9 := 6) C rfl (53) 0 dX0_joinNearest_3 (by decide) (ce_53 w (sN (sI σ (42) (F.2)) (41) 1 (nI (F.1)))) hin_0 hl_9 rfl (by decide) rfl (congrArg (fun z => some (Value.int z)) (((nF_n (by decide)).trans (nF_I)).trans hN)) ?_
  refine g_ishl (pc9 := 7) C rfl dX0_joinNearest_6 ?_
  refine g_iconst (pc9 := 8) C rfl (nI (1)) dX0_joinNearest_7 rfl ?_
  refine g_isub (pc9 := 9) C rfl dX0_joinNearest_8 ?_
  refine g_callVv (nn := 1) (rest := []) (pc9 := 12) C rfl (41) [.int (((nI (1)) <<< ((nI (N)) &&& 31)) - (nI (1)))] rfl dX0_joinNearest_9 (m_X1_addEachKind l w σ _ _ hF (((nI (1)) <<< ((nI (N)) &&& 31)) - (nI (1)))) gX0_joinNearest_X1_addEachKind (by decide) (ce_41 w (sN (sI σ (42) (F.2)) (41) 1 (nI (F.1)))) rfl rfl rfl rfl rfl (by decide +kernel) ⟨by decide, by decide⟩ rfl (Nat.le_of_ble_eq_true rfl) ⟨by decide, by decide⟩ (fun σ_1 q_1 => ?_)
  replace q_1 : σ_1 = sN (sI σ (42) ((eachF (allK N) F).2)) (41) 1 (nI ((eachF (allK N) F).1)) := q_1
  rw [q_1]
  clear q_1
  refine g_aload_n (pc9 := 13) C rfl 0 dX0_joinNearest_12 rfl rfl ?_
  refine g_callVv (nn := 0) (rest := []) (pc9 := 16) C rfl (53) [] rfl dX0_joinNearest_13 (m_X0_startJoining l w (sN (sI σ (42) ((eachF (allK N) F).2)) (41) 1 (nI ((eachF (allK N) F).1))) N hN h12) gX0_joinNearest_X0_startJoining (by decide) (ce_53 w (sN (sI σ (42) ((eachF (allK N) F).2)) (41) 1 (nI ((eachF (allK N) F).1)))) rfl rfl rfl rfl rfl (by decide +kernel) ⟨by decide, by decide⟩ rfl (Nat.le_of_ble_eq_true rfl) ⟨by decide, by decide⟩ (fun σ_2 q_2 => ?_)
  replace q_2 : σ_2 = sJ (sI (sN (sI σ (42) ((eachF (allK N) F).2)) (41) 1 (nI ((eachF (allK N) F).1))) 55 (fillG bitI (iA σ 55) N)) 56 (sjA (dS σ) N (jA σ 56) N) := q_2
  have hT0 : σ_2 = njSt σ ((eachF (allK N) F, fillG bitI (iA σ 55) N, sjA (dS σ) N (jA σ 56) N, jA σ 57, a0, b0) : NT) := q_2.trans (by
    unfold njSt
    rw [sN_cm (a := 53) (k := 5) (b := 53) (k9 := 6) (Or.inr (by decide))] 
    rw [show nI (((eachF (allK N) F, fillG bitI (iA σ 55) N, sjA (dS σ) N (jA σ 56) N, jA σ 57, a0, b0) : NT)).2.2.2.2.1 = nI a0 from rfl, show nI (((eachF (allK N) F, fillG bitI (iA σ 55) N, sjA (dS σ) N (jA σ 56) N, jA σ 57, a0, b0) : NT)).2.2.2.2.2 = nI b0 from rfl]
    have e1 : sN (sJ (sJ (sI σ 55 (fillG bitI (iA σ 55) N)) 56 (sjA (dS σ) N (jA σ 56) N)) 57 (jA σ 57)) 53 6 (nI b0) = sJ (sJ (sI σ 55 (fillG bitI (iA σ 55) N)) 56 (sjA (dS σ) N (jA σ 56) N)) 57 (jA σ 57) := sN_self hb0
    have e2 : sN (sJ (sJ (sI σ 55 (fillG bitI (iA σ 55) N)) 56 (sjA (dS σ) N (jA σ 56) N)) 57 (jA σ 57)) 53 5 (nI a0) = sJ (sJ (sI σ 55 (fillG bitI (iA σ 55) N)) 56 (sjA (dS σ) N (jA σ 56) N)) 57 (jA σ 57) := sN_self ha0
    have e3 : sJ (sJ (sI σ 55 (fillG bitI (iA σ 55) N)) 56 (sjA (dS σ) N (jA σ 56) N)) 57 (jA σ 57) = sJ (sI σ 55 (fillG bitI (iA σ 55) N)) 56 (sjA (dS σ) N (jA σ 56) N) := by
      have := sJ_self (σ := sJ (sI σ 55 (fillG bitI (iA σ 55) N)) 56 (sjA (dS σ) N (jA σ 56) N)) (a := 57)
      exact this
    show _ = sN (sI (sN (sN (sJ (sJ (sI σ 55 (fillG bitI (iA σ 55) N)) 56 (sjA (dS σ) N (jA σ 56) N)) 57 (jA σ 57)) 53 6 (nI b0)) 53 5 (nI a0)) 42 _) 41 1 _
    rw [e1, e2, e3]
    rw [sI_sN, sI_cm (by decide)]
    rfl)
  rw [hT0]
  clear q_2 hT0
  refine g_aload_n (pc9 := 17) C rfl 0 dX0_joinNearest_16 rfl rfl ?_
  refine g_get (v := .int (nI (N))) (pc9 := 20) C rfl (53) 0 dX0_joinNearest_17 (by decide) (ce_53 w (sN (sI (sN (sN (sJ (sJ (sI σ (55) ((((eachF (allK N) F, fillG bitI (iA σ 55) N, sjA (dS σ) N (jA σ 56) N, jA σ 57, a0, b0) : NT)).2.1)) (56) ((((eachF (allK N) F, fillG bitI (iA σ 55) N, sjA (dS σ) N (jA σ 56) N, jA σ 57, a0, b0) : NT)).2.2.1)) (57) ((((eachF (allK N) F, fillG bitI (iA σ 55) N, sjA (dS σ) N (jA σ 56) N, jA σ 57, a0, b0) : NT)).2.2.2.1)) (53) 5 (nI ((((eachF (allK N) F, fillG bitI (iA σ 55) N, sjA (dS σ) N (jA σ 56) N, jA σ 57, a0, b0) : NT)).2.2.2.2.1))) (53) 6 (nI ((((eachF (allK N) F, fillG bitI (iA σ 55) N, sjA (dS σ) N (jA σ 56) N, jA σ 57, a0, b0) : NT)).2.2.2.2.2))) (42) (((((eachF (allK N) F, fillG bitI (iA σ 55) N, sjA (dS σ) N (jA σ 56) N, jA σ 57, a0, b0) : NT)).1).2)) (41) 1 (nI (((((eachF (allK N) F, fillG bitI (iA σ 55) N, sjA (dS σ) N (jA σ 56) N, jA σ 57, a0, b0) : NT)).1).1)))) hin_0 hl_9 rfl (by decide) rfl (congrArg (fun z => some (Value.int z)) ((((((((nF_n (by decide)).trans (nF_I)).trans (nF_k (k := 6) (k9 := 0) (by decide))).trans (nF_k (k := 5) (k9 := 0) (by decide))).trans (nF_J)).trans (nF_J)).trans (nF_I)).trans hN)) ?_
  refine g_istore_n (pc9 := 21) C rfl [(2, .int (nI (N))), (0, .ref (w.1 (53))), (1, .ref (w.1 (41)))] dX0_joinNearest_20 rfl (by decide) rfl ?_
  refine g_sub [0, 1, 2] [(2, .int (nI (N))), (0, .ref (w.1 (53))), (1, .ref (w.1 (41)))] rfl ?_
  rw [show nI N = nI ((N - 2) + 2) from by rw [show N - 2 + 2 = N by omega]]
  refine g_lp2 (α := Nat) (β := NT) (fun k T => k + 2 ≤ N ∧ T.1.1 ≤ 47 ∧ T.2.2.2.2.1 < 12 ∧ T.2.2.2.2.2 < 12 ∧ njD N k T = njD N (N - 2) ((eachF (allK N) F, fillG bitI (iA σ 55) N, sjA (dS σ) N (jA σ 56) N, jA σ 57, a0, b0) : NT)) (fun k T => k) (fun k T => G p l e _ s m args below meth c _ w A _ (sN (sI (sN (sN (sJ (sJ (sI σ (55) ((T).2.1)) (56) ((T).2.2.1)) (57) ((T).2.2.2.1)) (53) 5 (nI ((T).2.2.2.2.1))) (53) 6 (nI ((T).2.2.2.2.2))) (42) (((T).1).2)) (41) 1 (nI (((T).1).1))) 0 0 21 [(2, .int (nI (k + 2))), (0, .ref (w.1 (53))), (1, .ref (w.1 (41)))] []) (fun k T hI ih => ?_) (N - 2) (((eachF (allK N) F, fillG bitI (iA σ 55) N, sjA (dS σ) N (jA σ 56) N, jA σ 57, a0, b0) : NT)) ⟨by omega, famUp_le hF 12, ha, hb, rfl⟩
  obtain ⟨hk, hT, hTa, hTb, hd⟩ := hI
  refine g_iload_n (pc9 := 22) C rfl 0 dX0_joinNearest_21 rfl rfl ?_
  refine g_iconst (pc9 := 23) C rfl (nI (2)) dX0_joinNearest_22 rfl ?_
  refine g_icmp_le (pc9 := 26) C rfl 58 dX0_joinNearest_23 rfl (fun c_3 => ?_) (fun c_3 => ?_)
  · replace c_3 := (nI_leI (by omega) (by omega)).mp c_3
    refine g_aload_n (pc9 := 59) C rfl 2 dX0_joinNearest_58 rfl rfl ?_
    refine g_iconst (pc9 := 60) C rfl (nI (1)) dX0_joinNearest_59 rfl ?_
    refine g_aload_n (pc9 := 61) C rfl 1 dX0_joinNearest_60 rfl rfl ?_
    refine g_get (v := .int (nI (N))) (pc9 := 64) C rfl (53) 0 dX0_joinNearest_61 (by decide) (ce_53 w (sN (sI (sN (sN (sJ (sJ (sI σ (55) ((T).2.1)) (56) ((T).2.2.1)) (57) ((T).2.2.2.1)) (53) 5 (nI ((T).2.2.2.2.1))) (53) 6 (nI ((T).2.2.2.2.2))) (42) (((T).1).2)) (41) 1 (nI (((T).1).1)))) hin_0 hl_9 rfl (by decide) rfl (congrArg (fun z => some (Value.int z)) ((((((((nF_n (by decide)).trans (nF_I)).trans (nF_k (k := 6) (k9 := 0) (by decide))).trans (nF_k (k := 5) (k9 := 0) (by decide))).trans (nF_J)).trans (nF_J)).trans (nF_I)).trans hN)) ?_
    refine g_ishl (pc9 := 65) C rfl dX0_joinNearest_64 ?_
    refine g_iconst (pc9 := 66) C rfl (nI (1)) dX0_joinNearest_65 rfl ?_
    refine g_isub (pc9 := 67) C rfl dX0_joinNearest_66 ?_
    refine g_callVv (nn := 1) (rest := []) (pc9 := 70) C rfl (41) [.int (((nI (1)) <<< ((nI (N)) &&& 31)) - (nI (1)))] rfl dX0_joinNearest_67 (m_X1_addCluster l w (sN (sN (sJ (sJ (sI σ (55) ((T).2.1)) (56) ((T).2.2.1)) (57) ((T).2.2.2.1)) (53) 5 (nI ((T).2.2.2.2.1))) (53) 6 (nI ((T).2.2.2.2.2))) _ _ hT (((nI (1)) <<< ((nI (N)) &&& 31)) - (nI (1)))) gX0_joinNearest_X1_addCluster (by decide) (ce_41 w (sN (sI (sN (sN (sJ (sJ (sI σ (55) ((T).2.1)) (56) ((T).2.2.1)) (57) ((T).2.2.2.1)) (53) 5 (nI ((T).2.2.2.2.1))) (53) 6 (nI ((T).2.2.2.2.2))) (42) (((T).1).2)) (41) 1 (nI (((T).1).1)))) rfl rfl rfl rfl rfl (by decide +kernel) ⟨by decide, by decide⟩ rfl (Nat.le_of_ble_eq_true rfl) ⟨by decide, by decide⟩ (fun σ_4 q_4 => ?_)
    exact g_return C hr hlk dX0_joinNearest_70 ⟨T, by rw [← hd, show k = 0 by omega]; rfl, q_4⟩
  · replace c_3 := (not_congr (nI_leI (by omega) (by omega))).mp c_3
    have hKc : cnK N (njC N (k + 2) T) := cnO_K h12 ⟨Nat.zero_le _, hTa, hTb⟩ N (Nat.le_refl _)
    refine g_aload_n (pc9 := 27) C rfl 1 dX0_joinNearest_26 rfl rfl ?_
    refine g_callVv (nn := 0) (rest := []) (pc9 := 30) C rfl (53) [] rfl dX0_joinNearest_27 (m_X0_sumGaps l w (sN (sI (sN (sN (sJ (sJ (sI σ (55) ((T).2.1)) (56) ((T).2.2.1)) (57) ((T).2.2.2.1)) (53) 5 (nI ((T).2.2.2.2.1))) (53) 6 (nI ((T).2.2.2.2.2))) (42) (((T).1).2)) (41) 1 (nI (((T).1).1))) N hN h12) gX0_joinNearest_X0_sumGaps (by decide) (ce_53 w (sN (sI (sN (sN (sJ (sJ (sI σ (55) ((T).2.1)) (56) ((T).2.2.1)) (57) ((T).2.2.2.1)) (53) 5 (nI ((T).2.2.2.2.1))) (53) 6 (nI ((T).2.2.2.2.2))) (42) (((T).1).2)) (41) 1 (nI (((T).1).1)))) rfl rfl rfl rfl rfl (by decide +kernel) ⟨by decide, by decide⟩ rfl (Nat.le_of_ble_eq_true rfl) ⟨by decide, by decide⟩ (fun σ_5 q_5 => ?_)
    replace q_5 : σ_5 = sJ (sN (sI (sN (sN (sJ (sJ (sI σ (55) ((T).2.1)) (56) ((T).2.2.1)) (57) ((T).2.2.2.1)) (53) 5 (nI ((T).2.2.2.2.1))) (53) 6 (nI ((T).2.2.2.2.2))) (42) (((T).1).2)) (41) 1 (nI (((T).1).1))) (57) (njZ N T) := q_5
    rw [sJ_sN (a := 41) (k := 1) (b := 57), sJ_sI (a := 42) (b := 57), sJ_sN (a := 53) (k := 6) (b := 57), sJ_sN (a := 53) (k := 5) (b := 57), sJ_sJ (a := 57)] at q_5
    rw [q_5]
    clear q_5
    refine g_aload_n (pc9 := 31) C rfl 1 dX0_joinNearest_30 rfl rfl ?_
    refine g_iload_n (pc9 := 32) C rfl 0 dX0_joinNearest_31 rfl rfl ?_
    refine g_callVv (nn := 1) (rest := []) (pc9 := 35) C rfl (53) [.int (nI (k + 2))] rfl dX0_joinNearest_32 (m_choose l w (sN (sI (sN (sN (sJ (sJ (sI σ (55) ((T).2.1)) (56) ((T).2.2.1)) (57) (njZ N T)) (53) 5 (nI ((T).2.2.2.2.1))) (53) 6 (nI ((T).2.2.2.2.2))) (42) (((T).1).2)) (41) 1 (nI (((T).1).1))) N hN h12 (k + 2) (by omega) (by omega) (T.2.2.2.2.1) (T.2.2.2.2.2) hTa hTb (((((nF_n (by decide)).trans (nF_I)).trans (nF_k (k := 6) (k9 := 5) (by decide))).trans (nF_s))) ((((nF_n (by decide)).trans (nF_I)).trans (nF_s)))) gX0_joinNearest_X0_chooseNearest (by decide) (ce_53 w (sN (sI (sN (sN (sJ (sJ (sI σ (55) ((T).2.1)) (56) ((T).2.2.1)) (57) (njZ N T)) (53) 5 (nI ((T).2.2.2.2.1))) (53) 6 (nI ((T).2.2.2.2.2))) (42) (((T).1).2)) (41) 1 (nI (((T).1).1)))) rfl rfl rfl rfl rfl (by decide +kernel) ⟨by decide, by decide⟩ rfl (Nat.le_of_ble_eq_true rfl) ⟨by decide, by decide⟩ (fun σ_6 q_6 => ?_)
    replace q_6 : σ_6 = sN (sN (sN (sI (sN (sN (sJ (sJ (sI σ (55) ((T).2.1)) (56) ((T).2.2.1)) (57) (njZ N T)) (53) 5 (nI ((T).2.2.2.2.1))) (53) 6 (nI ((T).2.2.2.2.2))) (42) (((T).1).2)) (41) 1 (nI (((T).1).1))) (53) 5 (nI ((njC N (k + 2) T).2.2.1))) (53) 6 (nI ((njC N (k + 2) T).2.2.2)) := q_6
    rw [sN_cm (a := 41) (k := 1) (b := 53) (k9 := 5) (Or.inl (by decide)), sN_sI (a := 53) (k := 5) (b := 42), sN_cm (a := 53) (k := 6) (b := 53) (k9 := 5) (Or.inr (by decide)), sN_sN, sN_cm (a := 41) (k := 1) (b := 53) (k9 := 6) (Or.inl (by decide)), sN_sI (a := 53) (k := 6) (b := 42), sN_sN] at q_6
    rw [q_6]
    clear q_6
    refine g_aload_n (pc9 := 36) C rfl 1 dX0_joinNearest_35 rfl rfl ?_
    refine g_callVv (nn := 0) (rest := []) (pc9 := 39) C rfl (53) [] rfl dX0_joinNearest_36 (m_X0_mergeNearest l w (sN (sI (sN (sN (sJ (sJ (sI σ (55) ((T).2.1)) (56) ((T).2.2.1)) (57) (njZ N T)) (53) 5 (nI ((njC N (k + 2) T).2.2.1))) (53) 6 (nI ((njC N (k + 2) T).2.2.2))) (42) (((T).1).2)) (41) 1 (nI (((T).1).1))) N hN h12 ((njC N (k + 2) T).2.2.1) ((njC N (k + 2) T).2.2.2) (((((nF_n (by decide)).trans (nF_I)).trans (nF_k (k := 6) (k9 := 5) (by decide))).trans (nF_s))) ((((nF_n (by decide)).trans (nF_I)).trans (nF_s))) hKc.2.1 hKc.2.2) gX0_joinNearest_X0_mergeNearest (by decide) (ce_53 w (sN (sI (sN (sN (sJ (sJ (sI σ (55) ((T).2.1)) (56) ((T).2.2.1)) (57) (njZ N T)) (53) 5 (nI ((njC N (k + 2) T).2.2.1))) (53) 6 (nI ((njC N (k + 2) T).2.2.2))) (42) (((T).1).2)) (41) 1 (nI (((T).1).1)))) rfl rfl rfl rfl rfl (by decide +kernel) ⟨by decide, by decide⟩ rfl (Nat.le_of_ble_eq_true rfl) ⟨by decide, by decide⟩ (fun σ_7 q_7 => ?_)
    replace q_7 : σ_7 = sI (sJ (sN (sI (sN (sN (sJ (sJ (sI σ (55) ((T).2.1)) (56) ((T).2.2.1)) (57) (njZ N T)) (53) 5 (nI ((njC N (k + 2) T).2.2.1))) (53) 6 (nI ((njC N (k + 2) T).2.2.2))) (42) (((T).1).2)) (41) 1 (nI (((T).1).1))) (56) (mgU T.2.1 ((njC N (k + 2) T).2.2.1) ((njC N (k + 2) T).2.2.2) (T.2.2.1 (((njC N (k + 2) T).2.2.1) * 12 + ((njC N (k + 2) T).2.2.2))) T.2.2.1 N)) (55) (njc N (k + 2) T) := q_7
    rw [sJ_sN (a := 41) (k := 1) (b := 56), sJ_sI (a := 42) (b := 56), sJ_sN (a := 53) (k := 6) (b := 56), sJ_sN (a := 53) (k := 5) (b := 56), sJ_cm (a := 57) (b := 56) (by decide), sJ_sJ (a := 56), sI_sN (a := 41) (k := 1) (b := 55), sI_cm (a := 42) (b := 55) (by decide), sI_sN (a := 53) (k := 6) (b := 55), sI_sN (a := 53) (k := 5) (b := 55), sI_sJ (a := 55) (b := 57), sI_sJ (a := 55) (b := 56), sI_sI (a := 55)] at q_7
    rw [q_7]
    clear q_7
    refine g_aload_n (pc9 := 40) C rfl 2 dX0_joinNearest_39 rfl rfl ?_
    refine g_aload_n (pc9 := 41) C rfl 1 dX0_joinNearest_40 rfl rfl ?_
    refine g_get (v := .ref (w.1 (55))) (pc9 := 44) C rfl (53) 2 dX0_joinNearest_41 (by decide) (ce_53 w (sN (sI (sN (sN (sJ (sJ (sI σ (55) (njc N (k + 2) T)) (56) (mgU T.2.1 ((njC N (k + 2) T).2.2.1) ((njC N (k + 2) T).2.2.2) (T.2.2.1 (((njC N (k + 2) T).2.2.1) * 12 + ((njC N (k + 2) T).2.2.2))) T.2.2.1 N)) (57) (njZ N T)) (53) 5 (nI ((njC N (k + 2) T).2.2.1))) (53) 6 (nI ((njC N (k + 2) T).2.2.2))) (42) (((T).1).2)) (41) 1 (nI (((T).1).1)))) hin_0 hl_19 rfl (by decide) rfl rfl ?_
    refine g_aload_n (pc9 := 45) C rfl 1 dX0_joinNearest_44 rfl rfl ?_
    refine g_get (v := .int (nI ((njC N (k + 2) T).2.2.1))) (pc9 := 48) C rfl (53) 5 dX0_joinNearest_45 (by decide) (ce_53 w (sN (sI (sN (sN (sJ (sJ (sI σ (55) (njc N (k + 2) T)) (56) (mgU T.2.1 ((njC N (k + 2) T).2.2.1) ((njC N (k + 2) T).2.2.2) (T.2.2.1 (((njC N (k + 2) T).2.2.1) * 12 + ((njC N (k + 2) T).2.2.2))) T.2.2.1 N)) (57) (njZ N T)) (53) 5 (nI ((njC N (k + 2) T).2.2.1))) (53) 6 (nI ((njC N (k + 2) T).2.2.2))) (42) (((T).1).2)) (41) 1 (nI (((T).1).1)))) hin_0 hl_69 rfl (by decide) rfl (congrArg (fun z => some (Value.int z)) ((((nF_n (by decide)).trans (nF_I)).trans (nF_k (k := 6) (k9 := 5) (by decide))).trans (nF_s))) ?_
    have hKa := hKc.2.1
    refine g_iald (x := (njc N (k + 2) T) ((njC N (k + 2) T).2.2.1)) (pc9 := 49) C rfl (55) ((njC N (k + 2) T).2.2.1) dX0_joinNearest_48 (by decide) (ce_55 w (sN (sI (sN (sN (sJ (sJ (sI σ (55) (njc N (k + 2) T)) (56) (mgU T.2.1 ((njC N (k + 2) T).2.2.1) ((njC N (k + 2) T).2.2.2) (T.2.2.1 (((njC N (k + 2) T).2.2.1) * 12 + ((njC N (k + 2) T).2.2.2))) T.2.2.1 N)) (57) (njZ N T)) (53) 5 (nI ((njC N (k + 2) T).2.2.1))) (53) 6 (nI ((njC N (k + 2) T).2.2.2))) (42) (((T).1).2)) (41) 1 (nI (((T).1).1)))) rfl (by omega) (by decide) (congrFun (((((((iA_N).trans (iA_n (by decide))).trans (iA_N)).trans (iA_N)).trans (iA_J)).trans (iA_J)).trans (iA_s)) _) ?_
    refine g_callVv (nn := 1) (rest := []) (pc9 := 52) C rfl (41) [.int ((njc N (k + 2) T) ((njC N (k + 2) T).2.2.1))] rfl dX0_joinNearest_49 (m_X1_addCluster l w (sN (sN (sJ (sJ (sI σ (55) (njc N (k + 2) T)) (56) (mgU T.2.1 ((njC N (k + 2) T).2.2.1) ((njC N (k + 2) T).2.2.2) (T.2.2.1 (((njC N (k + 2) T).2.2.1) * 12 + ((njC N (k + 2) T).2.2.2))) T.2.2.1 N)) (57) (njZ N T)) (53) 5 (nI ((njC N (k + 2) T).2.2.1))) (53) 6 (nI ((njC N (k + 2) T).2.2.2))) _ _ hT ((njc N (k + 2) T) ((njC N (k + 2) T).2.2.1))) gX0_joinNearest_X1_addCluster (by decide) (ce_41 w (sN (sI (sN (sN (sJ (sJ (sI σ (55) (njc N (k + 2) T)) (56) (mgU T.2.1 ((njC N (k + 2) T).2.2.1) ((njC N (k + 2) T).2.2.2) (T.2.2.1 (((njC N (k + 2) T).2.2.1) * 12 + ((njC N (k + 2) T).2.2.2))) T.2.2.1 N)) (57) (njZ N T)) (53) 5 (nI ((njC N (k + 2) T).2.2.1))) (53) 6 (nI ((njC N (k + 2) T).2.2.2))) (42) (((T).1).2)) (41) 1 (nI (((T).1).1)))) rfl rfl rfl rfl rfl (by decide +kernel) ⟨by decide, by decide⟩ rfl (Nat.le_of_ble_eq_true rfl) ⟨by decide, by decide⟩ (fun σ_8 q_8 => ?_)
    replace q_8 : σ_8 = sN (sI (sN (sN (sJ (sJ (sI σ (55) ((njS N (k + 2) T).2.1)) (56) ((njS N (k + 2) T).2.2.1)) (57) ((njS N (k + 2) T).2.2.2.1)) (53) 5 (nI ((njS N (k + 2) T).2.2.2.2.1))) (53) 6 (nI ((njS N (k + 2) T).2.2.2.2.2))) (42) (((njS N (k + 2) T).1).2)) (41) 1 (nI (((njS N (k + 2) T).1).1)) := q_8
    rw [q_8]
    clear q_8
    refine g_iinc (pc9 := 55) C rfl [(2, .int (nI (k + 2 - 1))), (0, .ref (w.1 (53))), (1, .ref (w.1 (41)))] 0 (nI (k + 2 - 1)) dX0_joinNearest_52 rfl (sb_m1 (by omega)) (by decide) rfl ?_
    refine g_goto C 21 dX0_joinNearest_55 rfl ?_
    refine g_sub [0, 1, 2] [(2, .int (nI (k + 2 - 1))), (0, .ref (w.1 (53))), (1, .ref (w.1 (41)))] rfl ?_
    obtain ⟨k, rfl⟩ : ∃ z, k = z + 1 := ⟨k - 1, by omega⟩
    refine ih k (njS N (k + 3) T) ⟨by omega, famZ_le hT, hKc.2.1, hKc.2.2, hd⟩ (by omega)

/-! Distances: a clock's clusters; nearest joining -/
abbrev allK (N : Nat) : Int32 := (nI 1 <<< (nI N &&& 31)) - nI 1
abbrev bitI (k : Nat) : Int32 := nI 1 <<< (nI k &&& 31)
noncomputable abbrev eachF (x : Int32) (F : Nat × (Nat → Int32)) : Nat × (Nat → Int32) := famUp (fun k => x &&& (nI 1 <<< (nI k &&& 31))) F.1 F.2 12
noncomputable def ckU (σ : St) (N : Nat) (F : Nat × (Nat → Int32)) : Nat → Nat × (Nat → Int32)
  | 0 => F
  | i + 1 => famUp (fun k => kw σ N i (dS σ i k)) (ckU σ N F i).1 (ckU σ N F i).2 N
theorem ckU_le {σ : St} {N : Nat} {F : Nat × (Nat → Int32)} (h : F.1 ≤ 47) : ∀ i, (ckU σ N F i).1 ≤ 47
  | 0 => h
  | i + 1 => famUp_le (ckU_le h i) N
set_option maxRecDepth 100000 in
set_option maxHeartbeats 4000000 in
theorem m_X0_addClockClusters (l : Launch) (w : Wd) (σ : St) (N : Nat) (hN : nF σ 53 0 = nI N) (h12 : N ≤ 12) (F : Nat × (Nat → Int32)) (hF : F.1 ≤ 47) : MV l yX0_addClockClusters wsX0_addClockClusters (rmL 4) w [.ref (w.1 (53)), .ref (w.1 (41))] (sN (sI σ (42) ((F).2)) (41) 1 (nI ((F).1))) (fun σ9 => σ9 = famSt σ (ckU σ N (eachF (allK N) F) N).1 (ckU σ N (eachF (allK N) F) N).2) := by
  refine MV_of (cc := cX0_addClockClusters) (maxL := 4) (by decide) rfl (Nat.le_of_ble_eq_true rfl) ?_
  intro p e s m args below meth c A C hr hlk
  have C : Cx p s m args c w A cX0_addClockClusters RX0 4 wsX0_addClockClusters := C
  have hin_0 : ∀ u ∈ wsX00, u ∈ wsX0_addClockClusters := by decide +kernel
  have hl_9 : Cond.fieldLink RX0 9 "LineageBench$Distances" "counting" "I" ∈ wsX0_addClockClusters := by decide +kernel
  refine g_aload_n (pc9 := 1) C rfl 1 dX0_addClockClusters_0 rfl rfl ?_
  refine g_iconst (pc9 := 2) C rfl (nI (1)) dX0_addClockClusters_1 rfl ?_
  refine g_aload_n (pc9 := 3) C rfl 0 dX0_addClockClusters_2 rfl rfl ?_
  refine g_get (v := .int (nI (N))) (pc9 := 6) C rfl (53) 0 dX0_addClockClusters_3 (by decide) (ce_53 w (sN (sI σ (42) ((F).2)) (41) 1 (nI ((F).1)))) hin_0 hl_9 rfl (by decide) rfl (congrArg (fun z => some (Value.int z)) (((nF_n (by decide)).trans (nF_I)).trans hN)) ?_
  refine g_ishl (pc9 := 7) C rfl dX0_addClockClusters_6 ?_
  refine g_iconst (pc9 := 8) C rfl (nI (1)) dX0_addClockClusters_7 rfl ?_
  refine g_isub (pc9 := 9) C rfl dX0_addClockClusters_8 ?_
  refine g_callVv (nn := 1) (rest := []) (pc9 := 12) C rfl (41) [.int (((nI (1)) <<< ((nI (N)) &&& 31)) - (nI (1)))] rfl dX0_addClockClusters_9 (m_X1_addEachKind l w σ _ _ hF (((nI (1)) <<< ((nI (N)) &&& 31)) - (nI (1)))) gX0_addClockClusters_X1_addEachKind (by decide) (ce_41 w (sN (sI σ (42) ((F).2)) (41) 1 (nI ((F).1)))) rfl rfl rfl rfl rfl (by decide +kernel) ⟨by decide, by decide⟩ rfl (Nat.le_of_ble_eq_true rfl) ⟨by decide, by decide⟩ (fun σ_1 q_1 => ?_)
  replace q_1 : σ_1 = sN (sI σ (42) ((eachF (allK N) F).2)) (41) 1 (nI ((eachF (allK N) F).1)) := q_1
  rw [q_1]
  clear q_1
  refine g_iconst (pc9 := 13) C rfl (nI (0)) dX0_addClockClusters_12 rfl ?_
  refine g_istore_n (pc9 := 14) C rfl [(2, .int (nI (0))), (0, .ref (w.1 (53))), (1, .ref (w.1 (41)))] dX0_addClockClusters_13 rfl (by decide) rfl ?_
  refine g_sub [0, 1, 2] [(2, .int (nI (0))), (0, .ref (w.1 (53))), (1, .ref (w.1 (41)))] rfl ?_
  refine g_lp1 (α := Nat) (fun i => i ≤ N) (fun i => N - i) (fun i => G p l e _ s m args below meth c _ w A _ (sN (sI σ (42) ((ckU σ N (eachF (allK N) F) (i)).2)) (41) 1 (nI ((ckU σ N (eachF (allK N) F) (i)).1))) 0 0 14 [(2, .int (nI (i))), (0, .ref (w.1 (53))), (1, .ref (w.1 (41)))] []) (fun i hI ih => ?_) (0) (Nat.zero_le _)
  obtain hi := hI
  refine g_iload_n (pc9 := 15) C rfl 0 dX0_addClockClusters_14 rfl rfl ?_
  refine g_aload_n (pc9 := 16) C rfl 1 dX0_addClockClusters_15 rfl rfl ?_
  refine g_get (v := .int (nI (N))) (pc9 := 19) C rfl (53) 0 dX0_addClockClusters_16 (by decide) (ce_53 w (sN (sI σ (42) ((ckU σ N (eachF (allK N) F) (i)).2)) (41) 1 (nI ((ckU σ N (eachF (allK N) F) (i)).1)))) hin_0 hl_9 rfl (by decide) rfl (congrArg (fun z => some (Value.int z)) (((nF_n (by decide)).trans (nF_I)).trans hN)) ?_
  refine g_icmp_ge (pc9 := 22) C rfl 59 dX0_addClockClusters_19 rfl (fun c_2 => ?_) (fun c_2 => ?_)
  · replace c_2 := (nI_leI (by omega) (by omega)).mp c_2
    exact g_return C hr hlk dX0_addClockClusters_59 (by rw [show i = N by omega])
  · replace c_2 := (not_congr (nI_leI (by omega) (by omega))).mp c_2
    refine g_iconst (pc9 := 23) C rfl (nI (0)) dX0_addClockClusters_22 rfl ?_
    refine g_istore_n (pc9 := 24) C rfl [(3, .int (nI (0))), (2, .int (nI (i))), (0, .ref (w.1 (53))), (1, .ref (w.1 (41)))] dX0_addClockClusters_23 rfl (by decide) rfl ?_
    refine g_sub [0, 1, 2, 3] [(3, .int (nI (0))), (2, .int (nI (i))), (0, .ref (w.1 (53))), (1, .ref (w.1 (41)))] rfl ?_
    refine g_lp1 (α := Nat) (fun k => k ≤ N) (fun k => N - k) (fun k => G p l e _ s m args below meth c _ w A _ (sN (sI σ (42) ((famUp (fun k => kw σ N i (dS σ i k)) (ckU σ N (eachF (allK N) F) (i)).1 (ckU σ N (eachF (allK N) F) (i)).2 (k)).2)) (41) 1 (nI ((famUp (fun k => kw σ N i (dS σ i k)) (ckU σ N (eachF (allK N) F) (i)).1 (ckU σ N (eachF (allK N) F) (i)).2 (k)).1))) 0 0 24 [(3, .int (nI (k))), (2, .int (nI (i))), (0, .ref (w.1 (53))), (1, .ref (w.1 (41)))] []) (fun k hI ih2 => ?_) (0) (Nat.zero_le _)
    obtain hk := hI
    refine g_iload_n (pc9 := 25) C rfl 0 dX0_addClockClusters_24 rfl rfl ?_
    refine g_aload_n (pc9 := 26) C rfl 2 dX0_addClockClusters_25 rfl rfl ?_
    refine g_get (v := .int (nI (N))) (pc9 := 29) C rfl (53) 0 dX0_addClockClusters_26 (by decide) (ce_53 w (sN (sI σ (42) ((famUp (fun k => kw σ N i (dS σ i k)) (ckU σ N (eachF (allK N) F) (i)).1 (ckU σ N (eachF (allK N) F) (i)).2 (k)).2)) (41) 1 (nI ((famUp (fun k => kw σ N i (dS σ i k)) (ckU σ N (eachF (allK N) F) (i)).1 (ckU σ N (eachF (allK N) F) (i)).2 (k)).1)))) hin_0 hl_9 rfl (by decide) rfl (congrArg (fun z => some (Value.int z)) (((nF_n (by decide)).trans (nF_I)).trans hN)) ?_
    refine g_icmp_ge (pc9 := 32) C rfl 53 dX0_addClockClusters_29 rfl (fun c_3 => ?_) (fun c_3 => ?_)
    · replace c_3 := (nI_leI (by omega) (by omega)).mp c_3
      refine g_iinc (pc9 := 56) C rfl [(2, .int (nI (i + 1))), (3, .int (nI (k))), (0, .ref (w.1 (53))), (1, .ref (w.1 (41)))] 1 (nI (i + 1)) dX0_addClockClusters_53 rfl (nI_1 (i)) (by decide) rfl ?_
      refine g_goto C 14 dX0_addClockClusters_56 rfl ?_
      refine g_sub [0, 2, 3] [(2, .int (nI (i + 1))), (0, .ref (w.1 (53))), (1, .ref (w.1 (41)))] rfl ?_
      rw [show k = N by omega]
      exact ih (i + 1) (by omega) (by omega)
    · replace c_3 := (not_congr (nI_leI (by omega) (by omega))).mp c_3
      refine g_aload_n (pc9 := 33) C rfl 3 dX0_addClockClusters_32 rfl rfl ?_
      refine g_aload_n (pc9 := 34) C rfl 2 dX0_addClockClusters_33 rfl rfl ?_
      refine g_iload_n (pc9 := 35) C rfl 1 dX0_addClockClusters_34 rfl rfl ?_
      refine g_aload_n (pc9 := 36) C rfl 2 dX0_addClockClusters_35 rfl rfl ?_
      refine g_iload_n (pc9 := 37) C rfl 1 dX0_addClockClusters_36 rfl rfl ?_
      refine g_iload_n (pc9 := 38) C rfl 0 dX0_addClockClusters_37 rfl rfl ?_
      refine g_callVi (nn := 2) (rest := [.int (nI (i)), .ref (w.1 (53)), .ref (w.1 (41))]) (pc9 := 41) C rfl (53) [.int (nI (i)), .int (nI (k))] rfl dX0_addClockClusters_38 (m_X0_d l w (sN (sI σ (42) ((famUp (fun k => kw σ N i (dS σ i k)) (ckU σ N (eachF (allK N) F) (i)).1 (ckU σ N (eachF (allK N) F) (i)).2 (k)).2)) (41) 1 (nI ((famUp (fun k => kw σ N i (dS σ i k)) (ckU σ N (eachF (allK N) F) (i)).1 (ckU σ N (eachF (allK N) F) (i)).2 (k)).1))) (i) (k) (by omega) (by omega)) gX0_addClockClusters_X0_d (by decide) (ce_53 w (sN (sI σ (42) ((famUp (fun k => kw σ N i (dS σ i k)) (ckU σ N (eachF (allK N) F) (i)).1 (ckU σ N (eachF (allK N) F) (i)).2 (k)).2)) (41) 1 (nI ((famUp (fun k => kw σ N i (dS σ i k)) (ckU σ N (eachF (allK N) F) (i)).1 (ckU σ N (eachF (allK N) F) (i)).2 (k)).1)))) rfl rfl rfl rfl rfl (by decide +kernel) ⟨by decide, by decide⟩ rfl (Nat.le_of_ble_eq_true rfl) ⟨by decide, by decide⟩ (fun r_4 σ_4 q_4 => ?_)
      obtain ⟨qs_4, qr_4⟩ := q_4
      replace qr_4 : r_4 = dS σ (i) (k) := qr_4
      rw [qs_4, qr_4]
      clear qs_4 qr_4
      refine g_callVi (nn := 2) (rest := [.ref (w.1 (41))]) (pc9 := 44) C rfl (53) [.int (nI (i)), .int (dS σ (i) (k))] rfl dX0_addClockClusters_41 (m_X0_kindsWithin l w (sN (sI σ (42) ((famUp (fun k => kw σ N i (dS σ i k)) (ckU σ N (eachF (allK N) F) (i)).1 (ckU σ N (eachF (allK N) F) (i)).2 (k)).2)) (41) 1 (nI ((famUp (fun k => kw σ N i (dS σ i k)) (ckU σ N (eachF (allK N) F) (i)).1 (ckU σ N (eachF (allK N) F) (i)).2 (k)).1))) N hN h12 i (by omega) (dS σ (i) (k))) gX0_addClockClusters_X0_kindsWithin (by decide) (ce_53 w (sN (sI σ (42) ((famUp (fun k => kw σ N i (dS σ i k)) (ckU σ N (eachF (allK N) F) (i)).1 (ckU σ N (eachF (allK N) F) (i)).2 (k)).2)) (41) 1 (nI ((famUp (fun k => kw σ N i (dS σ i k)) (ckU σ N (eachF (allK N) F) (i)).1 (ckU σ N (eachF (allK N) F) (i)).2 (k)).1)))) rfl rfl rfl rfl rfl (by decide +kernel) ⟨by decide, by decide⟩ rfl (Nat.le_of_ble_eq_true rfl) ⟨by decide, by decide⟩ (fun r_5 σ_5 q_5 => ?_)
      obtain ⟨qs_5, qr_5⟩ := q_5
      replace qr_5 : r_5 = kw σ N i (dS σ i k) := qr_5
      rw [qs_5, qr_5]
      clear qs_5 qr_5
      refine g_callVv (nn := 1) (rest := []) (pc9 := 47) C rfl (41) [.int (kw σ N i (dS σ i k))] rfl dX0_addClockClusters_44 (m_X1_addCluster l w σ _ _ (famUp_le (ckU_le (famUp_le hF 12) i) k) (kw σ N i (dS σ i k))) gX0_addClockClusters_X1_addCluster (by decide) (ce_41 w (sN (sI σ (42) ((famUp (fun k => kw σ N i (dS σ i k)) (ckU σ N (eachF (allK N) F) (i)).1 (ckU σ N (eachF (allK N) F) (i)).2 (k)).2)) (41) 1 (nI ((famUp (fun k => kw σ N i (dS σ i k)) (ckU σ N (eachF (allK N) F) (i)).1 (ckU σ N (eachF (allK N) F) (i)).2 (k)).1)))) rfl rfl rfl rfl rfl (by decide +kernel) ⟨by decide, by decide⟩ rfl (Nat.le_of_ble_eq_true rfl) ⟨by decide, by decide⟩ (fun σ_6 q_6 => ?_)
      replace q_6 : σ_6 = sN (sI σ (42) ((famUp (fun k => kw σ N i (dS σ i k)) (ckU σ N (eachF (allK N) F) (i)).1 (ckU σ N (eachF (allK N) F) (i)).2 (k + 1)).2)) (41) 1 (nI ((famUp (fun k => kw σ N i (dS σ i k)) (ckU σ N (eachF (allK N) F) (i)).1 (ckU σ N (eachF (allK N) F) (i)).2 (k + 1)).1)) := q_6
      rw [q_6]
      clear q_6
      refine g_iinc (pc9 := 50) C rfl [(3, .int (nI (k + 1))), (2, .int (nI (i))), (0, .ref (w.1 (53))), (1, .ref (w.1 (41)))] 0 (nI (k + 1)) dX0_addClockClusters_47 rfl (nI_1 (k)) (by decide) rfl ?_
      refine g_goto C 24 dX0_addClockClusters_50 rfl ?_
      exact ih2 (k + 1) (by omega) (by omega)
theorem updL_updL {f : Nat → Int64} {k : Nat} {x y : Int64} : vp_updL (vp_updL f k x) k y = vp_updL f k y := by
  funext i
  unfold vp_updL
  split <;> rfl
def sjC (d : Nat → Nat → Int32) (i : Nat) (y : Nat → Int64) : Nat → (Nat → Int64)
  | 0 => y
  | k + 1 => vp_updL (sjC d i y k) (i * 12 + k) ((d i k).toInt64 <<< ((nI 12).toInt64 &&& 63))
def sjA (d : Nat → Nat → Int32) (N : Nat) (y : Nat → Int64) : Nat → (Nat → Int64)
  | 0 => y
  | i + 1 => sjC d i (sjA d N y i) N
set_option maxRecDepth 100000 in
set_option maxHeartbeats 4000000 in
theorem m_X0_startJoining (l : Launch) (w : Wd) (σ : St) (N : Nat) (hN : nF σ 53 0 = nI N) (h12 : N ≤ 12) : MV l yX0_startJoining wsX0_startJoining (rmL 2) w [.ref (w.1 (53))] (σ) (fun σ9 => σ9 = sJ (sI σ 55 (fillG bitI (iA σ 55) N)) 56 (sjA (dS σ) N (jA σ 56) N)) := by
  refine MV_of (cc := cX0_startJoining) (maxL := 3) (by decide) rfl (Nat.le_of_ble_eq_true rfl) ?_
  intro p e s m args below meth c A C hr hlk
  have C : Cx p s m args c w A cX0_startJoining RX0 3 wsX0_startJoining := C
  have hin_0 : ∀ u ∈ wsX00, u ∈ wsX0_startJoining := by decide +kernel
  have hl_9 : Cond.fieldLink RX0 9 "LineageBench$Distances" "counting" "I" ∈ wsX0_startJoining := by decide +kernel
  have hl_19 : Cond.fieldLink RX0 19 "LineageBench$Distances" "clusterAt" "[I" ∈ wsX0_startJoining := by decide +kernel
  have hl_22 : Cond.fieldLink RX0 22 "LineageBench$Distances" "gap" "[J" ∈ wsX0_startJoining := by decide +kernel
  refine g_st (σ9 := sJ (sI σ (55) (fillG bitI (iA σ 55) (0))) (56) (sjA (dS σ) N (jA σ 56) (0))) (by rw [fillG_0, sI_self]; exact sJ_self.symm) ?_
  refine g_iconst (pc9 := 1) C rfl (nI (0)) dX0_startJoining_0 rfl ?_
  refine g_istore_n (pc9 := 2) C rfl [(1, .int (nI (0))), (0, .ref (w.1 (53)))] dX0_startJoining_1 rfl (by decide) rfl ?_
  refine g_sub [0, 1] [(1, .int (nI (0))), (0, .ref (w.1 (53)))] rfl ?_
  refine g_lp1 (α := Nat) (fun i => i ≤ N) (fun i => N - i) (fun i => G p l e _ s m args below meth c _ w A _ (sJ (sI σ (55) (fillG bitI (iA σ 55) (i))) (56) (sjA (dS σ) N (jA σ 56) (i))) 0 0 2 [(1, .int (nI (i))), (0, .ref (w.1 (53)))] []) (fun i hI ih => ?_) (0) (Nat.zero_le _)
  obtain hi := hI
  refine g_iload_n (pc9 := 3) C rfl 0 dX0_startJoining_2 rfl rfl ?_
  refine g_aload_n (pc9 := 4) C rfl 1 dX0_startJoining_3 rfl rfl ?_
  refine g_get (v := .int (nI (N))) (pc9 := 7) C rfl (53) 0 dX0_startJoining_4 (by decide) (ce_53 w (sJ (sI σ (55) (fillG bitI (iA σ 55) (i))) (56) (sjA (dS σ) N (jA σ 56) (i)))) hin_0 hl_9 rfl (by decide) rfl (congrArg (fun z => some (Value.int z)) (((nF_J).trans (nF_I)).trans hN)) ?_
  refine g_icmp_ge (pc9 := 10) C rfl 62 dX0_startJoining_7 rfl (fun c_1 => ?_) (fun c_1 => ?_)
  · replace c_1 := (nI_leI (by omega) (by omega)).mp c_1
    exact g_return C hr hlk dX0_startJoining_62 (by rw [show i = N by omega])
  · replace c_1 := (not_congr (nI_leI (by omega) (by omega))).mp c_1
    refine g_aload_n (pc9 := 11) C rfl 1 dX0_startJoining_10 rfl rfl ?_
    refine g_get (v := .ref (w.1 (55))) (pc9 := 14) C rfl (53) 2 dX0_startJoining_11 (by decide) (ce_53 w (sJ (sI σ (55) (fillG bitI (iA σ 55) (i))) (56) (sjA (dS σ) N (jA σ 56) (i)))) hin_0 hl_19 rfl (by decide) rfl rfl ?_
    refine g_iload_n (pc9 := 15) C rfl 0 dX0_startJoining_14 rfl rfl ?_
    refine g_iconst (pc9 := 16) C rfl (nI (1)) dX0_startJoining_15 rfl ?_
    refine g_iload_n (pc9 := 17) C rfl 0 dX0_startJoining_16 rfl rfl ?_
    refine g_ishl (pc9 := 18) C rfl dX0_startJoining_17 ?_
    refine g_iast (pc9 := 19) C rfl (55) (i) (fillG bitI (iA σ 55) (i)) dX0_startJoining_18 (by decide) (fun _ => rfl) (ce_55 w (sJ (sI σ (55) (fillG bitI (iA σ 55) (i))) (56) (sjA (dS σ) N (jA σ 56) (i)))) rfl (by omega) (by decide) ((iA_J).trans (iA_s)) ?_
    rw [sI_sJ (a := 55) (b := 56), sI_sI (a := 55)]
    refine g_st (σ9 := sJ (sI σ (55) (fillG bitI (iA σ 55) (i + 1))) (56) (sjA (dS σ) N (jA σ 56) (i))) (by rw [← fillG_s]) ?_
    refine g_iconst (pc9 := 20) C rfl (nI (0)) dX0_startJoining_19 rfl ?_
    refine g_istore_n (pc9 := 21) C rfl [(2, .int (nI (0))), (1, .int (nI (i))), (0, .ref (w.1 (53)))] dX0_startJoining_20 rfl (by decide) rfl ?_
    refine g_sub [0, 1, 2] [(2, .int (nI (0))), (1, .int (nI (i))), (0, .ref (w.1 (53)))] rfl ?_
    refine g_lp1 (α := Nat) (fun k => k ≤ N) (fun k => N - k) (fun k => G p l e _ s m args below meth c _ w A _ (sJ (sI σ (55) (fillG bitI (iA σ 55) (i + 1))) (56) (sjC (dS σ) i (sjA (dS σ) N (jA σ 56) (i)) (k))) 0 0 21 [(2, .int (nI (k))), (1, .int (nI (i))), (0, .ref (w.1 (53)))] []) (fun k hI ih2 => ?_) (0) (Nat.zero_le _)
    obtain hk := hI
    refine g_iload_n (pc9 := 22) C rfl 0 dX0_startJoining_21 rfl rfl ?_
    refine g_aload_n (pc9 := 23) C rfl 2 dX0_startJoining_22 rfl rfl ?_
    refine g_get (v := .int (nI (N))) (pc9 := 26) C rfl (53) 0 dX0_startJoining_23 (by decide) (ce_53 w (sJ (sI σ (55) (fillG bitI (iA σ 55) (i + 1))) (56) (sjC (dS σ) i (sjA (dS σ) N (jA σ 56) (i)) (k)))) hin_0 hl_9 rfl (by decide) rfl (congrArg (fun z => some (Value.int z)) (((nF_J).trans (nF_I)).trans hN)) ?_
    refine g_icmp_ge (pc9 := 29) C rfl 56 dX0_startJoining_26 rfl (fun c_2 => ?_) (fun c_2 => ?_)
    · replace c_2 := (nI_leI (by omega) (by omega)).mp c_2
      refine g_iinc (pc9 := 59) C rfl [(1, .int (nI (i + 1))), (2, .int (nI (k))), (0, .ref (w.1 (53)))] 1 (nI (i + 1)) dX0_startJoining_56 rfl (nI_1 (i)) (by decide) rfl ?_
      refine g_goto C 2 dX0_startJoining_59 rfl ?_
      refine g_sub [0, 2] [(1, .int (nI (i + 1))), (0, .ref (w.1 (53)))] rfl ?_
      rw [show k = N by omega]
      exact ih (i + 1) (by omega) (by omega)
    · replace c_2 := (not_congr (nI_leI (by omega) (by omega))).mp c_2
      refine g_aload_n (pc9 := 30) C rfl 2 dX0_startJoining_29 rfl rfl ?_
      refine g_get (v := .ref (w.1 (56))) (pc9 := 33) C rfl (53) 3 dX0_startJoining_30 (by decide) (ce_53 w (sJ (sI σ (55) (fillG bitI (iA σ 55) (i + 1))) (56) (sjC (dS σ) i (sjA (dS σ) N (jA σ 56) (i)) (k)))) hin_0 hl_22 rfl (by decide) rfl rfl ?_
      refine g_iload_n (pc9 := 34) C rfl 1 dX0_startJoining_33 rfl rfl ?_
      refine g_bipush (pc9 := 36) C rfl (nI (12)) dX0_startJoining_34 rfl ?_
      refine g_imulN (pc9 := 37) C rfl dX0_startJoining_36 ?_
      refine g_iload_n (pc9 := 38) C rfl 0 dX0_startJoining_37 rfl rfl ?_
      refine g_iaddN (pc9 := 39) C rfl dX0_startJoining_38 ?_
      refine g_aload_n (pc9 := 40) C rfl 2 dX0_startJoining_39 rfl rfl ?_
      refine g_iload_n (pc9 := 41) C rfl 1 dX0_startJoining_40 rfl rfl ?_
      refine g_iload_n (pc9 := 42) C rfl 0 dX0_startJoining_41 rfl rfl ?_
      refine g_callVi (nn := 2) (rest := [.int (nI ((i * 12) + k)), .ref (w.1 (56))]) (pc9 := 45) C rfl (53) [.int (nI (i)), .int (nI (k))] rfl dX0_startJoining_42 (m_X0_d l w (sJ (sI σ (55) (fillG bitI (iA σ 55) (i + 1))) (56) (sjC (dS σ) i (sjA (dS σ) N (jA σ 56) (i)) (k))) (i) (k) (by omega) (by omega)) gX0_startJoining_X0_d (by decide) (ce_53 w (sJ (sI σ (55) (fillG bitI (iA σ 55) (i + 1))) (56) (sjC (dS σ) i (sjA (dS σ) N (jA σ 56) (i)) (k)))) rfl rfl rfl rfl rfl (by decide +kernel) ⟨by decide, by decide⟩ rfl (Nat.le_of_ble_eq_true rfl) ⟨by decide, by decide⟩ (fun r_3 σ_3 q_3 => ?_)
      obtain ⟨qs_3, qr_3⟩ := q_3
      replace qr_3 : r_3 = dS σ (i) (k) := qr_3
      rw [qs_3, qr_3]
      clear qs_3 qr_3
      refine g_i2l (pc9 := 46) C rfl dX0_startJoining_45 ?_
      refine g_bipush (pc9 := 48) C rfl (nI (12)) dX0_startJoining_46 rfl ?_
      refine g_lshl (pc9 := 49) C rfl (((dS σ (i) (k)).toInt64) <<< ((nI (12)).toInt64 &&& 63)) dX0_startJoining_48 rfl ?_
      refine g_last (pc9 := 50) C rfl (56) ((i * 12) + k) (sjC (dS σ) i (sjA (dS σ) N (jA σ 56) (i)) (k)) dX0_startJoining_49 (by decide) (fun _ => rfl) (ce_56 w (sJ (sI σ (55) (fillG bitI (iA σ 55) (i + 1))) (56) (sjC (dS σ) i (sjA (dS σ) N (jA σ 56) (i)) (k)))) rfl (by omega) (by decide) (jA_s) ?_
      rw [sJ_sJ (a := 56)]
      skip
      refine g_iinc (pc9 := 53) C rfl [(2, .int (nI (k + 1))), (1, .int (nI (i))), (0, .ref (w.1 (53)))] 0 (nI (k + 1)) dX0_startJoining_50 rfl (nI_1 (k)) (by decide) rfl ?_
      refine g_goto C 21 dX0_startJoining_53 rfl ?_
      exact ih2 (k + 1) (by omega) (by omega)
def sgS (c : Nat → Int32) (y : Nat → Int64) (i : Nat) : Nat → Int64
  | 0 => 0
  | k + 1 => if k = i ∨ c k = 0 then sgS c y i k else sgS c y i k + y (i * 12 + k)
theorem sgS_a {c : Nat → Int32} {y : Nat → Int64} {i k : Nat} (h : k = i) : sgS c y i (k + 1) = sgS c y i k := if_pos (Or.inl h)
theorem sgS_b {c : Nat → Int32} {y : Nat → Int64} {i k : Nat} (h : c k = 0) : sgS c y i (k + 1) = sgS c y i k := if_pos (Or.inr h)
theorem sgS_n {c : Nat → Int32} {y : Nat → Int64} {i k : Nat} (h : ¬ k = i) (h2 : ¬ c k = 0) : sgS c y i (k + 1) = sgS c y i k + y (i * 12 + k) := if_neg (fun q => q.elim h h2)
set_option maxRecDepth 100000 in
set_option maxHeartbeats 4000000 in
theorem m_X0_sumGaps (l : Launch) (w : Wd) (σ : St) (N : Nat) (hN : nF σ 53 0 = nI N) (h12 : N ≤ 12) : MV l yX0_sumGaps wsX0_sumGaps (rmL 1) w [.ref (w.1 (53))] (σ) (fun σ9 => σ9 = sJ σ 57 (fillJ (fun i => sgS (iA σ 55) (jA σ 56) i N) (jA σ 57) N)) := by
  refine MV_of (cc := cX0_sumGaps) (maxL := 3) (by decide) rfl (Nat.le_of_ble_eq_true rfl) ?_
  intro p e s m args below meth c A C hr hlk
  have C : Cx p s m args c w A cX0_sumGaps RX0 3 wsX0_sumGaps := C
  have hin_0 : ∀ u ∈ wsX00, u ∈ wsX0_sumGaps := by decide +kernel
  have hl_9 : Cond.fieldLink RX0 9 "LineageBench$Distances" "counting" "I" ∈ wsX0_sumGaps := by decide +kernel
  have hl_19 : Cond.fieldLink RX0 19 "LineageBench$Distances" "clusterAt" "[I" ∈ wsX0_sumGaps := by decide +kernel
  have hl_22 : Cond.fieldLink RX0 22 "LineageBench$Distances" "gap" "[J" ∈ wsX0_sumGaps := by decide +kernel
  have hl_26 : Cond.fieldLink RX0 26 "LineageBench$Distances" "gapSum" "[J" ∈ wsX0_sumGaps := by decide +kernel
  refine g_st (σ9 := sJ σ (57) (fillJ (fun i => sgS (iA σ 55) (jA σ 56) i N) (jA σ 57) (0))) (by rw [fillJ_0]; exact sJ_self.symm) ?_
  refine g_iconst (pc9 := 1) C rfl (nI (0)) dX0_sumGaps_0 rfl ?_
  refine g_istore_n (pc9 := 2) C rfl [(1, .int (nI (0))), (0, .ref (w.1 (53)))] dX0_sumGaps_1 rfl (by decide) rfl ?_
  refine g_sub [0, 1] [(1, .int (nI (0))), (0, .ref (w.1 (53)))] rfl ?_
  refine g_lp1 (α := Nat) (fun i => i ≤ N) (fun i => N - i) (fun i => G p l e _ s m args below meth c _ w A _ (sJ σ (57) (fillJ (fun i => sgS (iA σ 55) (jA σ 56) i N) (jA σ 57) (i))) 0 0 2 [(1, .int (nI (i))), (0, .ref (w.1 (53)))] []) (fun i hI ih => ?_) (0) (Nat.zero_le _)
  obtain hi := hI
  refine g_iload_n (pc9 := 3) C rfl 0 dX0_sumGaps_2 rfl rfl ?_
  refine g_aload_n (pc9 := 4) C rfl 1 dX0_sumGaps_3 rfl rfl ?_
  refine g_get (v := .int (nI (N))) (pc9 := 7) C rfl (53) 0 dX0_sumGaps_4 (by decide) (ce_53 w (sJ σ (57) (fillJ (fun i => sgS (iA σ 55) (jA σ 56) i N) (jA σ 57) (i)))) hin_0 hl_9 rfl (by decide) rfl (congrArg (fun z => some (Value.int z)) ((nF_J).trans hN)) ?_
  refine g_icmp_ge (pc9 := 10) C rfl 73 dX0_sumGaps_7 rfl (fun c_1 => ?_) (fun c_1 => ?_)
  · replace c_1 := (nI_leI (by omega) (by omega)).mp c_1
    exact g_return C hr hlk dX0_sumGaps_73 (by rw [show i = N by omega])
  · replace c_1 := (not_congr (nI_leI (by omega) (by omega))).mp c_1
    refine g_aload_n (pc9 := 11) C rfl 1 dX0_sumGaps_10 rfl rfl ?_
    refine g_get (v := .ref (w.1 (57))) (pc9 := 14) C rfl (53) 4 dX0_sumGaps_11 (by decide) (ce_53 w (sJ σ (57) (fillJ (fun i => sgS (iA σ 55) (jA σ 56) i N) (jA σ 57) (i)))) hin_0 hl_26 rfl (by decide) rfl rfl ?_
    refine g_iload_n (pc9 := 15) C rfl 0 dX0_sumGaps_14 rfl rfl ?_
    refine g_lconst (pc9 := 16) C rfl (0) dX0_sumGaps_15 rfl ?_
    refine g_last (pc9 := 17) C rfl (57) (i) (fillJ (fun i => sgS (iA σ 55) (jA σ 56) i N) (jA σ 57) (i)) dX0_sumGaps_16 (by decide) (fun _ => rfl) (ce_57 w (sJ σ (57) (fillJ (fun i => sgS (iA σ 55) (jA σ 56) i N) (jA σ 57) (i)))) rfl (by omega) (by decide) (jA_s) ?_
    rw [sJ_sJ (a := 57)]
    skip
    refine g_iconst (pc9 := 18) C rfl (nI (0)) dX0_sumGaps_17 rfl ?_
    refine g_istore_n (pc9 := 19) C rfl [(2, .int (nI (0))), (1, .int (nI (i))), (0, .ref (w.1 (53)))] dX0_sumGaps_18 rfl (by decide) rfl ?_
    refine g_sub [0, 1, 2] [(2, .int (nI (0))), (1, .int (nI (i))), (0, .ref (w.1 (53)))] rfl ?_
    refine g_lp1 (α := Nat) (fun k => k ≤ N) (fun k => N - k) (fun k => G p l e _ s m args below meth c _ w A _ (sJ σ (57) (vp_updL (fillJ (fun i => sgS (iA σ 55) (jA σ 56) i N) (jA σ 57) (i)) i (sgS (iA σ 55) (jA σ 56) i (k)))) 0 0 19 [(2, .int (nI (k))), (1, .int (nI (i))), (0, .ref (w.1 (53)))] []) (fun k hI ih2 => ?_) (0) (Nat.zero_le _)
    obtain hk := hI
    refine g_iload_n (pc9 := 20) C rfl 0 dX0_sumGaps_19 rfl rfl ?_
    refine g_aload_n (pc9 := 21) C rfl 2 dX0_sumGaps_20 rfl rfl ?_
    refine g_get (v := .int (nI (N))) (pc9 := 24) C rfl (53) 0 dX0_sumGaps_21 (by decide) (ce_53 w (sJ σ (57) (vp_updL (fillJ (fun i => sgS (iA σ 55) (jA σ 56) i N) (jA σ 57) (i)) i (sgS (iA σ 55) (jA σ 56) i (k))))) hin_0 hl_9 rfl (by decide) rfl (congrArg (fun z => some (Value.int z)) ((nF_J).trans hN)) ?_
    refine g_icmp_ge (pc9 := 27) C rfl 67 dX0_sumGaps_24 rfl (fun c_2 => ?_) (fun c_2 => ?_)
    · replace c_2 := (nI_leI (by omega) (by omega)).mp c_2
      refine g_iinc (pc9 := 70) C rfl [(1, .int (nI (i + 1))), (2, .int (nI (k))), (0, .ref (w.1 (53)))] 1 (nI (i + 1)) dX0_sumGaps_67 rfl (nI_1 (i)) (by decide) rfl ?_
      refine g_goto C 2 dX0_sumGaps_70 rfl ?_
      refine g_sub [0, 2] [(1, .int (nI (i + 1))), (0, .ref (w.1 (53)))] rfl ?_
      refine g_st (σ9 := sJ σ (57) (fillJ (fun i => sgS (iA σ 55) (jA σ 56) i N) (jA σ 57) (i + 1))) (by rw [show k = N by omega, ← fillJ_s]) ?_
      exact ih (i + 1) (by omega) (by omega)
    · replace c_2 := (not_congr (nI_leI (by omega) (by omega))).mp c_2
      refine g_iload_n (pc9 := 28) C rfl 0 dX0_sumGaps_27 rfl rfl ?_
      refine g_iload_n (pc9 := 29) C rfl 1 dX0_sumGaps_28 rfl rfl ?_
      refine g_icmp_eq (pc9 := 32) C rfl 61 dX0_sumGaps_29 rfl (fun c_3 => ?_) (fun c_3 => ?_)
      · replace c_3 := (nI_eq (by omega) (by omega)).mp c_3
        have hst := sgS_a (c := (iA σ 55)) (y := (jA σ 56)) c_3
        refine g_iinc (pc9 := 64) C rfl [(2, .int (nI (k + 1))), (1, .int (nI (i))), (0, .ref (w.1 (53)))] 0 (nI (k + 1)) dX0_sumGaps_61 rfl (nI_1 (k)) (by decide) rfl ?_
        refine g_goto C 19 dX0_sumGaps_64 rfl ?_
        refine g_sub [0, 1, 2] [(2, .int (nI (k + 1))), (1, .int (nI (i))), (0, .ref (w.1 (53)))] rfl ?_
        refine g_st (σ9 := sJ σ (57) (vp_updL (fillJ (fun i => sgS (iA σ 55) (jA σ 56) i N) (jA σ 57) (i)) i (sgS (iA σ 55) (jA σ 56) i (k + 1)))) (by first | (rw [hst]; done) | (rw [updL_updL, hst])) ?_
        exact ih2 (k + 1) (by omega) (by omega)
      · replace c_3 := (not_congr (nI_eq (by omega) (by omega))).mp c_3
        have hki := c_3
        refine g_aload_n (pc9 := 33) C rfl 2 dX0_sumGaps_32 rfl rfl ?_
        refine g_get (v := .ref (w.1 (55))) (pc9 := 36) C rfl (53) 2 dX0_sumGaps_33 (by decide) (ce_53 w (sJ σ (57) (vp_updL (fillJ (fun i => sgS (iA σ 55) (jA σ 56) i N) (jA σ 57) (i)) i (sgS (iA σ 55) (jA σ 56) i (k))))) hin_0 hl_19 rfl (by decide) rfl rfl ?_
        refine g_iload_n (pc9 := 37) C rfl 0 dX0_sumGaps_36 rfl rfl ?_
        refine g_iald (x := (iA σ (55)) (k)) (pc9 := 38) C rfl (55) (k) dX0_sumGaps_37 (by decide) (ce_55 w (sJ σ (57) (vp_updL (fillJ (fun i => sgS (iA σ 55) (jA σ 56) i N) (jA σ 57) (i)) i (sgS (iA σ 55) (jA σ 56) i (k))))) rfl (by omega) (by decide) (congrFun (iA_J) _) ?_
        refine g_if_eq (pc9 := 41) C rfl 61 dX0_sumGaps_38 rfl (fun c_4 => ?_) (fun c_4 => ?_)
        · have hst := sgS_b (y := (jA σ 56)) (i := i) c_4
          refine g_iinc (pc9 := 64) C rfl [(2, .int (nI (k + 1))), (1, .int (nI (i))), (0, .ref (w.1 (53)))] 0 (nI (k + 1)) dX0_sumGaps_61 rfl (nI_1 (k)) (by decide) rfl ?_
          refine g_goto C 19 dX0_sumGaps_64 rfl ?_
          refine g_sub [0, 1, 2] [(2, .int (nI (k + 1))), (1, .int (nI (i))), (0, .ref (w.1 (53)))] rfl ?_
          refine g_st (σ9 := sJ σ (57) (vp_updL (fillJ (fun i => sgS (iA σ 55) (jA σ 56) i N) (jA σ 57) (i)) i (sgS (iA σ 55) (jA σ 56) i (k + 1)))) (by first | (rw [hst]; done) | (rw [updL_updL, hst])) ?_
          exact ih2 (k + 1) (by omega) (by omega)
        · have hst := sgS_n (y := (jA σ 56)) hki c_4
          refine g_aload_n (pc9 := 42) C rfl 2 dX0_sumGaps_41 rfl rfl ?_
          refine g_get (v := .ref (w.1 (57))) (pc9 := 45) C rfl (53) 4 dX0_sumGaps_42 (by decide) (ce_53 w (sJ σ (57) (vp_updL (fillJ (fun i => sgS (iA σ 55) (jA σ 56) i N) (jA σ 57) (i)) i (sgS (iA σ 55) (jA σ 56) i (k))))) hin_0 hl_26 rfl (by decide) rfl rfl ?_
          refine g_iload_n (pc9 := 46) C rfl 1 dX0_sumGaps_45 rfl rfl ?_
          refine g_dup2 (pc9 := 47) C rfl dX0_sumGaps_46 rfl rfl ?_
          refine g_lald (x := sgS (iA σ 55) (jA σ 56) i k) (pc9 := 48) C rfl (57) (i) dX0_sumGaps_47 (by decide) (ce_57 w (sJ σ (57) (vp_updL (fillJ (fun i => sgS (iA σ 55) (jA σ 56) i N) (jA σ 57) (i)) i (sgS (iA σ 55) (jA σ 56) i (k))))) rfl (by omega) (by decide) ((congrFun (jA_s) _).trans pk_uLs) ?_
          refine g_aload_n (pc9 := 49) C rfl 2 dX0_sumGaps_48 rfl rfl ?_
          refine g_get (v := .ref (w.1 (56))) (pc9 := 52) C rfl (53) 3 dX0_sumGaps_49 (by decide) (ce_53 w (sJ σ (57) (vp_updL (fillJ (fun i => sgS (iA σ 55) (jA σ 56) i N) (jA σ 57) (i)) i (sgS (iA σ 55) (jA σ 56) i (k))))) hin_0 hl_22 rfl (by decide) rfl rfl ?_
          refine g_iload_n (pc9 := 53) C rfl 1 dX0_sumGaps_52 rfl rfl ?_
          refine g_bipush (pc9 := 55) C rfl (nI (12)) dX0_sumGaps_53 rfl ?_
          refine g_imulN (pc9 := 56) C rfl dX0_sumGaps_55 ?_
          refine g_iload_n (pc9 := 57) C rfl 0 dX0_sumGaps_56 rfl rfl ?_
          refine g_iaddN (pc9 := 58) C rfl dX0_sumGaps_57 ?_
          refine g_lald (x := (jA σ (56)) ((i * 12) + k)) (pc9 := 59) C rfl (56) ((i * 12) + k) dX0_sumGaps_58 (by decide) (ce_56 w (sJ σ (57) (vp_updL (fillJ (fun i => sgS (iA σ 55) (jA σ 56) i N) (jA σ 57) (i)) i (sgS (iA σ 55) (jA σ 56) i (k))))) rfl (by omega) (by decide) (congrFun (jA_n (by decide)) _) ?_
          refine g_ladd (pc9 := 60) C rfl dX0_sumGaps_59 ?_
          refine g_last (pc9 := 61) C rfl (57) (i) (vp_updL (fillJ (fun i => sgS (iA σ 55) (jA σ 56) i N) (jA σ 57) (i)) i (sgS (iA σ 55) (jA σ 56) i (k))) dX0_sumGaps_60 (by decide) (fun _ => rfl) (ce_57 w (sJ σ (57) (vp_updL (fillJ (fun i => sgS (iA σ 55) (jA σ 56) i N) (jA σ 57) (i)) i (sgS (iA σ 55) (jA σ 56) i (k))))) rfl (by omega) (by decide) (jA_s) ?_
          rw [sJ_sJ (a := 57)]
          refine g_iinc (pc9 := 64) C rfl [(2, .int (nI (k + 1))), (1, .int (nI (i))), (0, .ref (w.1 (53)))] 0 (nI (k + 1)) dX0_sumGaps_61 rfl (nI_1 (k)) (by decide) rfl ?_
          refine g_goto C 19 dX0_sumGaps_64 rfl ?_
          refine g_sub [0, 1, 2] [(2, .int (nI (k + 1))), (1, .int (nI (i))), (0, .ref (w.1 (53)))] rfl ?_
          refine g_st (σ9 := sJ σ (57) (vp_updL (fillJ (fun i => sgS (iA σ 55) (jA σ 56) i N) (jA σ 57) (i)) i (sgS (iA σ 55) (jA σ 56) i (k + 1)))) (by first | (rw [hst]; done) | (rw [updL_updL, hst])) ?_
          exact ih2 (k + 1) (by omega) (by omega)

/-! LineageBench: the calls that need no tree, or ask one tree -/
abbrev nn (σ : St) (j : Nat) : Nat := (tN σ j).toNatClampNeg
abbrev pp (σ : St) (j v : Nat) : Nat := (tP σ j v).toNatClampNeg
/-- what a tree's rows hold -/
def trOk (σ : St) (j : Nat) : Prop := tN σ j = nI (nn σ j) ∧ nn σ j ≤ 47 ∧ (∀ v, 0 < v → v < nn σ j → tP σ j v = nI (pp σ j v) ∧ pp σ j v < v) ∧ (0 < nn σ j → tP σ j 0 = -1) ∧ (∀ v, v < nn σ j → tK σ j v = -1 ∨ ∃ q, q < 12 ∧ tK σ j v = nI q)
def tOk (σ : St) : Prop := (∀ i, i < 9 → tS σ i < 9) ∧ ∀ j, j < 9 → trOk σ j
theorem tOk.s {σ : St} (h : tOk σ) {i : Nat} (hi : i < 8) : tS σ i < 9 := h.1 i (by omega)
theorem nn_pos {σ : St} {j : Nat} (h : trOk σ j) (h0 : ¬ tN σ j = 0) : 0 < nn σ j := by
  rcases Nat.eq_zero_or_pos (nn σ j) with q | q
  · exact absurd (h.1.trans (by rw [q]; rfl)) h0
  · exact q
def fdR (σ : St) (L : Nat) (a1 a2 a3 a4 a5 : Int32) (r : Int32) (σ9 : St) : Prop := if L + 20 ≤ 400 then σ9 = tW (tW (tW (tW (tW σ L a1) (L + 4) a2) (L + 8) a3) (L + 12) a4) (L + 16) a5 ∧ r = nI (L + 20) else σ9 = σ ∧ r = -1
set_option maxRecDepth 100000 in
set_option maxHeartbeats 4000000 in
theorem m_X10_feed (l : Launch) (w : Wd) (σ : St) (L : Nat) (hL : nF σ 32 1 = nI L) (h4 : L ≤ 400) (a1 a2 a3 a4 a5 : Int32) : MI l yX10_feed wsX10_feed (rmL 3) w [.ref (w.1 (31)), .int (a1), .int (a2), .int (a3), .int (a4), .int (a5)] (σ) (fdR σ L a1 a2 a3 a4 a5) := by
  refine MI_of (cc := cX10_feed) (maxL := 6) (ret := .int) (by decide) rfl (Nat.le_of_ble_eq_true rfl) ?_
  intro p e s m args below meth c A C hr hlk
  have C : Cx p s m args c w A cX10_feed RX10 6 wsX10_feed := C
  have hin_6 : ∀ u ∈ wsX60, u ∈ wsX10_feed := by decide +kernel
  have hin_10 : ∀ u ∈ wsX100, u ∈ wsX10_feed := by decide +kernel
  have hl_12 : Cond.fieldLink RX10 12 "LineageBench" "tape" "LLineageBench$Tape;" ∈ wsX10_feed := by decide +kernel
  have hl_95 : Cond.fieldLink RX10 95 "LineageBench$Tape" "length" "I" ∈ wsX10_feed := by decide +kernel
  refine g_aload_n (pc9 := 1) C rfl 0 dX10_feed_0 rfl rfl ?_
  refine g_get (v := .ref (w.1 (32))) (pc9 := 4) C rfl (31) 0 dX10_feed_1 (by decide) (ce_31 w (σ)) hin_10 hl_12 rfl (by decide) rfl rfl ?_
  refine g_bipush (pc9 := 6) C rfl (nI (20)) dX10_feed_4 rfl ?_
  refine g_callVi (nn := 1) (rest := []) (pc9 := 9) C rfl (32) [.int (nI (20))] rfl dX10_feed_6 (m_X6_hasRoomFor l w σ L hL h4 20 (by decide)) gX10_feed_X6_hasRoomFor (by decide) (ce_32 w (σ)) rfl rfl rfl rfl rfl (by decide +kernel) ⟨by decide, by decide⟩ rfl (Nat.le_of_ble_eq_true rfl) ⟨by decide, by decide⟩ (fun r_1 σ_1 q_1 => ?_)
  obtain ⟨qs_1, qr_1⟩ := q_1
  rw [qs_1, qr_1]
  clear qs_1 qr_1
  refine g_if_ne (pc9 := 12) C rfl 14 dX10_feed_9 rfl (fun c_2 => ?_) (fun c_2 => ?_)
  · have hy : L + 20 ≤ 400 := pI_ye c_2
    refine g_aload_n (pc9 := 15) C rfl 0 dX10_feed_14 rfl rfl ?_
    refine g_get (v := .ref (w.1 (32))) (pc9 := 18) C rfl (31) 0 dX10_feed_15 (by decide) (ce_31 w (σ)) hin_10 hl_12 rfl (by decide) rfl rfl ?_
    refine g_iload_n (pc9 := 19) C rfl 1 dX10_feed_18 rfl rfl ?_
    refine g_callVv (nn := 1) (rest := []) (pc9 := 22) C rfl (32) [.int (a1)] rfl dX10_feed_19 (m_X6_addNumber l w (σ) (L + 0) (hL) (by omega) (a1)) gX10_feed_X6_addNumber (by decide) (ce_32 w (σ)) rfl rfl rfl rfl rfl (by decide +kernel) ⟨by decide, by decide⟩ rfl (Nat.le_of_ble_eq_true rfl) ⟨by decide, by decide⟩ (fun σ_3 q_3 => ?_)
    replace q_3 : σ_3 = (tW (σ) (L + 0) (a1)) := q_3
    rw [q_3]
    clear q_3
    refine g_aload_n (pc9 := 23) C rfl 0 dX10_feed_22 rfl rfl ?_
    refine g_get (v := .ref (w.1 (32))) (pc9 := 26) C rfl (31) 0 dX10_feed_23 (by decide) (ce_31 w ((tW (σ) (L + 0) (a1)))) hin_10 hl_12 rfl (by decide) rfl rfl ?_
    refine g_iload_n (pc9 := 27) C rfl 2 dX10_feed_26 rfl rfl ?_
    refine g_callVv (nn := 1) (rest := []) (pc9 := 30) C rfl (32) [.int (a2)] rfl dX10_feed_27 (m_X6_addNumber l w (tW (σ) (L + 0) (a1)) (L + 4) (tW_L) (by omega) (a2)) gX10_feed_X6_addNumber (by decide) (ce_32 w ((tW (σ) (L + 0) (a1)))) rfl rfl rfl rfl rfl (by decide +kernel) ⟨by decide, by decide⟩ rfl (Nat.le_of_ble_eq_true rfl) ⟨by decide, by decide⟩ (fun σ_4 q_4 => ?_)
    replace q_4 : σ_4 = (tW (tW (σ) (L + 0) (a1)) (L + 4) (a2)) := q_4
    rw [q_4]
    clear q_4
    refine g_aload_n (pc9 := 31) C rfl 0 dX10_feed_30 rfl rfl ?_
    refine g_get (v := .ref (w.1 (32))) (pc9 := 34) C rfl (31) 0 dX10_feed_31 (by decide) (ce_31 w ((tW (tW (σ) (L + 0) (a1)) (L + 4) (a2)))) hin_10 hl_12 rfl (by decide) rfl rfl ?_
    refine g_iload_n (pc9 := 35) C rfl 3 dX10_feed_34 rfl rfl ?_
    refine g_callVv (nn := 1) (rest := []) (pc9 := 38) C rfl (32) [.int (a3)] rfl dX10_feed_35 (m_X6_addNumber l w (tW (tW (σ) (L + 0) (a1)) (L + 4) (a2)) (L + 8) (tW_L) (by omega) (a3)) gX10_feed_X6_addNumber (by decide) (ce_32 w ((tW (tW (σ) (L + 0) (a1)) (L + 4) (a2)))) rfl rfl rfl rfl rfl (by decide +kernel) ⟨by decide, by decide⟩ rfl (Nat.le_of_ble_eq_true rfl) ⟨by decide, by decide⟩ (fun σ_5 q_5 => ?_)
    replace q_5 : σ_5 = (tW (tW (tW (σ) (L + 0) (a1)) (L + 4) (a2)) (L + 8) (a3)) := q_5
    rw [q_5]
    clear q_5
    refine g_aload_n (pc9 := 39) C rfl 0 dX10_feed_38 rfl rfl ?_
    refine g_get (v := .ref (w.1 (32))) (pc9 := 42) C rfl (31) 0 dX10_feed_39 (by decide) (ce_31 w ((tW (tW (tW (σ) (L + 0) (a1)) (L + 4) (a2)) (L + 8) (a3)))) hin_10 hl_12 rfl (by decide) rfl rfl ?_
    refine g_iload (pc9 := 44) C rfl 4 dX10_feed_42 rfl ?_
    refine g_callVv (nn := 1) (rest := []) (pc9 := 47) C rfl (32) [.int (a4)] rfl dX10_feed_44 (m_X6_addNumber l w (tW (tW (tW (σ) (L + 0) (a1)) (L + 4) (a2)) (L + 8) (a3)) (L + 12) (tW_L) (by omega) (a4)) gX10_feed_X6_addNumber (by decide) (ce_32 w ((tW (tW (tW (σ) (L + 0) (a1)) (L + 4) (a2)) (L + 8) (a3)))) rfl rfl rfl rfl rfl (by decide +kernel) ⟨by decide, by decide⟩ rfl (Nat.le_of_ble_eq_true rfl) ⟨by decide, by decide⟩ (fun σ_6 q_6 => ?_)
    replace q_6 : σ_6 = (tW (tW (tW (tW (σ) (L + 0) (a1)) (L + 4) (a2)) (L + 8) (a3)) (L + 12) (a4)) := q_6
    rw [q_6]
    clear q_6
    refine g_aload_n (pc9 := 48) C rfl 0 dX10_feed_47 rfl rfl ?_
    refine g_get (v := .ref (w.1 (32))) (pc9 := 51) C rfl (31) 0 dX10_feed_48 (by decide) (ce_31 w ((tW (tW (tW (tW (σ) (L + 0) (a1)) (L + 4) (a2)) (L + 8) (a3)) (L + 12) (a4)))) hin_10 hl_12 rfl (by decide) rfl rfl ?_
    refine g_iload (pc9 := 53) C rfl 5 dX10_feed_51 rfl ?_
    refine g_callVv (nn := 1) (rest := []) (pc9 := 56) C rfl (32) [.int (a5)] rfl dX10_feed_53 (m_X6_addNumber l w (tW (tW (tW (tW (σ) (L + 0) (a1)) (L + 4) (a2)) (L + 8) (a3)) (L + 12) (a4)) (L + 16) (tW_L) (by omega) (a5)) gX10_feed_X6_addNumber (by decide) (ce_32 w ((tW (tW (tW (tW (σ) (L + 0) (a1)) (L + 4) (a2)) (L + 8) (a3)) (L + 12) (a4)))) rfl rfl rfl rfl rfl (by decide +kernel) ⟨by decide, by decide⟩ rfl (Nat.le_of_ble_eq_true rfl) ⟨by decide, by decide⟩ (fun σ_7 q_7 => ?_)
    replace q_7 : σ_7 = (tW (tW (tW (tW (tW (σ) (L + 0) (a1)) (L + 4) (a2)) (L + 8) (a3)) (L + 12) (a4)) (L + 16) (a5)) := q_7
    rw [q_7]
    clear q_7
    refine g_aload_n (pc9 := 57) C rfl 0 dX10_feed_56 rfl rfl ?_
    refine g_get (v := .ref (w.1 (32))) (pc9 := 60) C rfl (31) 0 dX10_feed_57 (by decide) (ce_31 w ((tW (tW (tW (tW (tW (σ) (L + 0) (a1)) (L + 4) (a2)) (L + 8) (a3)) (L + 12) (a4)) (L + 16) (a5)))) hin_10 hl_12 rfl (by decide) rfl rfl ?_
    refine g_get (v := .int (nI (L + 20))) (pc9 := 63) C rfl (32) 1 dX10_feed_60 (by decide) (ce_32 w ((tW (tW (tW (tW (tW (σ) (L + 0) (a1)) (L + 4) (a2)) (L + 8) (a3)) (L + 12) (a4)) (L + 16) (a5)))) hin_6 hl_95 rfl (by decide) rfl (congrArg (fun z => some (Value.int z)) tW_L) ?_
    exact g_ireturn C hr hlk dX10_feed_63 (by show fdR σ L a1 a2 a3 a4 a5 _ _; rw [fdR, if_pos hy]; exact ⟨rfl, rfl⟩)
  · have hy : ¬ L + 20 ≤ 400 := pI_no c_2
    refine g_iconst (pc9 := 13) C rfl ((-1)) dX10_feed_12 rfl ?_
    exact g_ireturn C hr hlk dX10_feed_13 (by show fdR σ L a1 a2 a3 a4 a5 _ _; rw [fdR, if_neg hy]; exact ⟨rfl, rfl⟩)
def enR (σ : St) (L : Nat) (x : Int32) (r : Int32) (σ9 : St) : Prop := if 0 ≤ x ∧ x ≤ nI L then σ9 = sN σ 32 1 x ∧ r = 1 else σ9 = σ ∧ r = 0
set_option maxRecDepth 100000 in
set_option maxHeartbeats 4000000 in
theorem m_X10_end (l : Launch) (w : Wd) (σ : St) (L : Nat) (hL : nF σ 32 1 = nI L) (h4 : L ≤ 400) (x : Int32) : MI l yX10_end wsX10_end (rmL 1) w [.ref (w.1 (31)), .int (x)] (σ) (enR σ L x) := by
  refine MI_of (cc := cX10_end) (maxL := 2) (ret := .boolean) (by decide) rfl (Nat.le_of_ble_eq_true rfl) ?_
  intro p e s m args below meth c A C hr hlk
  have C : Cx p s m args c w A cX10_end RX10 2 wsX10_end := C
  have hin_6 : ∀ u ∈ wsX60, u ∈ wsX10_end := by decide +kernel
  have hin_10 : ∀ u ∈ wsX100, u ∈ wsX10_end := by decide +kernel
  have hl_12 : Cond.fieldLink RX10 12 "LineageBench" "tape" "LLineageBench$Tape;" ∈ wsX10_end := by decide +kernel
  have hl_95 : Cond.fieldLink RX10 95 "LineageBench$Tape" "length" "I" ∈ wsX10_end := by decide +kernel
  refine g_iload_n (pc9 := 1) C rfl 1 dX10_end_0 rfl rfl ?_
  refine g_if_lt (pc9 := 4) C rfl 15 dX10_end_1 rfl (fun c_1 => ?_) (fun c_1 => ?_)
  · refine g_iconst (pc9 := 16) C rfl (nI (0)) dX10_end_15 rfl ?_
    exact g_zreturn C hr hlk dX10_end_16 (by decide) (by show enR σ L x _ _; rw [enR, if_neg (by first | exact fun h => absurd (by assumption) (Int32.not_lt.mpr h.1) | exact fun h => absurd h.2 (by assumption))]; exact ⟨rfl, rfl⟩)
  · refine g_iload_n (pc9 := 5) C rfl 1 dX10_end_4 rfl rfl ?_
    refine g_aload_n (pc9 := 6) C rfl 0 dX10_end_5 rfl rfl ?_
    refine g_get (v := .ref (w.1 (32))) (pc9 := 9) C rfl (31) 0 dX10_end_6 (by decide) (ce_31 w (σ)) hin_10 hl_12 rfl (by decide) rfl rfl ?_
    refine g_get (v := .int (nI (L))) (pc9 := 12) C rfl (32) 1 dX10_end_9 (by decide) (ce_32 w (σ)) hin_6 hl_95 rfl (by decide) rfl (congrArg (fun z => some (Value.int z)) hL) ?_
    refine g_icmp_le (pc9 := 15) C rfl 17 dX10_end_12 rfl (fun c_2 => ?_) (fun c_2 => ?_)
    · refine g_aload_n (pc9 := 18) C rfl 0 dX10_end_17 rfl rfl ?_
      refine g_get (v := .ref (w.1 (32))) (pc9 := 21) C rfl (31) 0 dX10_end_18 (by decide) (ce_31 w (σ)) hin_10 hl_12 rfl (by decide) rfl rfl ?_
      refine g_iload_n (pc9 := 22) C rfl 1 dX10_end_21 rfl rfl ?_
      refine g_put (pc9 := 25) C rfl (32) 1 dX10_end_22 (by decide) (ce_32 w (σ)) (rfl) hin_6 hl_95 tyX6 tyX6_ok nmX6 rfl (by decide) rfl rfl rfl (Nat.le_of_ble_eq_true rfl) ?_
      refine g_iconst (pc9 := 26) C rfl (nI (1)) dX10_end_25 rfl ?_
      exact g_zreturn C hr hlk dX10_end_26 (by decide) (by show enR σ L x _ _; rw [enR, if_pos ⟨Int32.not_lt.mp (by assumption), by assumption⟩]; exact ⟨rfl, rfl⟩)
    · refine g_iconst (pc9 := 16) C rfl (nI (0)) dX10_end_15 rfl ?_
      exact g_zreturn C hr hlk dX10_end_16 (by decide) (by show enR σ L x _ _; rw [enR, if_neg (by first | exact fun h => absurd (by assumption) (Int32.not_lt.mpr h.1) | exact fun h => absurd h.2 (by assumption))]; exact ⟨rfl, rfl⟩)
set_option maxRecDepth 100000 in
set_option maxHeartbeats 4000000 in
theorem m_X10_fault (l : Launch) (w : Wd) (σ : St) (x : Int32) : MI l yX10_fault wsX10_fault (rmL 1) w [.ref (w.1 (31)), .int (x)] (σ) (fun r σ9 => σ9 = σ ∧ r = if x = nI 0 then nF σ 34 4 else if x = nI 1 then nF σ 34 5 else -1) := by
  refine MI_of (cc := cX10_fault) (maxL := 2) (ret := .int) (by decide) rfl (Nat.le_of_ble_eq_true rfl) ?_
  intro p e s m args below meth c A C hr hlk
  have C : Cx p s m args c w A cX10_fault RX10 2 wsX10_fault := C
  have hin_3 : ∀ u ∈ wsX30, u ∈ wsX10_fault := by decide +kernel
  have hin_10 : ∀ u ∈ wsX100, u ∈ wsX10_fault := by decide +kernel
  have hl_19 : Cond.fieldLink RX10 19 "LineageBench" "reader" "LLineageBench$Reader;" ∈ wsX10_fault := by decide +kernel
  have hl_106 : Cond.fieldLink RX10 106 "LineageBench$Reader" "faultFound" "I" ∈ wsX10_fault := by decide +kernel
  have hl_126 : Cond.fieldLink RX10 126 "LineageBench$Reader" "faultPlace" "I" ∈ wsX10_fault := by decide +kernel
  refine g_iload_n (pc9 := 1) C rfl 1 dX10_fault_0 rfl rfl ?_
  refine g_if_ne (pc9 := 4) C rfl 12 dX10_fault_1 rfl (fun c_1 => ?_) (fun c_1 => ?_)
  · refine g_iload_n (pc9 := 13) C rfl 1 dX10_fault_12 rfl rfl ?_
    refine g_iconst (pc9 := 14) C rfl (nI (1)) dX10_fault_13 rfl ?_
    refine g_icmp_ne (pc9 := 17) C rfl 27 dX10_fault_14 rfl (fun c_2 => ?_) (fun c_2 => ?_)
    · refine g_iconst (pc9 := 28) C rfl ((-1)) dX10_fault_27 rfl ?_
      exact g_ireturn C hr hlk dX10_fault_28 ⟨rfl, by rw [if_neg (by assumption)]; first | rw [if_neg (by assumption)] | rw [if_pos (Classical.not_not.mp (by assumption))] | rw [if_pos (by assumption)]⟩
    · refine g_aload_n (pc9 := 18) C rfl 0 dX10_fault_17 rfl rfl ?_
      refine g_get (v := .ref (w.1 (34))) (pc9 := 21) C rfl (31) 1 dX10_fault_18 (by decide) (ce_31 w (σ)) hin_10 hl_19 rfl (by decide) rfl rfl ?_
      refine g_get (v := .int (nF σ (34) 5)) (pc9 := 24) C rfl (34) 5 dX10_fault_21 (by decide) (ce_34 w (σ)) hin_3 hl_126 rfl (by decide) rfl rfl ?_
      refine g_goto C 28 dX10_fault_24 rfl ?_
      exact g_ireturn C hr hlk dX10_fault_28 ⟨rfl, by rw [if_neg (by assumption)]; first | rw [if_neg (by assumption)] | rw [if_pos (Classical.not_not.mp (by assumption))] | rw [if_pos (by assumption)]⟩
  · refine g_aload_n (pc9 := 5) C rfl 0 dX10_fault_4 rfl rfl ?_
    refine g_get (v := .ref (w.1 (34))) (pc9 := 8) C rfl (31) 1 dX10_fault_5 (by decide) (ce_31 w (σ)) hin_10 hl_19 rfl (by decide) rfl rfl ?_
    refine g_get (v := .int (nF σ (34) 4)) (pc9 := 11) C rfl (34) 4 dX10_fault_8 (by decide) (ce_34 w (σ)) hin_3 hl_106 rfl (by decide) rfl rfl ?_
    exact g_ireturn C hr hlk dX10_fault_11 ⟨rfl, (if_pos (by assumption)).symm⟩
set_option maxRecDepth 100000 in
set_option maxHeartbeats 4000000 in
theorem m_X10_untriple (l : Launch) (w : Wd) (σ : St)  : MI l yX10_untriple wsX10_untriple (rmL 1) w [.ref (w.1 (31))] (σ) (fun r σ9 => σ9 = sN σ 43 2 (nI 0) ∧ r = nF σ 43 2) := by
  refine MI_of (cc := cX10_untriple) (maxL := 2) (ret := .int) (by decide) rfl (Nat.le_of_ble_eq_true rfl) ?_
  intro p e s m args below meth c A C hr hlk
  have C : Cx p s m args c w A cX10_untriple RX10 2 wsX10_untriple := C
  have hin_8 : ∀ u ∈ wsX80, u ∈ wsX10_untriple := by decide +kernel
  have hin_10 : ∀ u ∈ wsX100, u ∈ wsX10_untriple := by decide +kernel
  have hl_46 : Cond.fieldLink RX10 46 "LineageBench" "triples" "LLineageBench$Triples;" ∈ wsX10_untriple := by decide +kernel
  have hl_226 : Cond.fieldLink RX10 226 "LineageBench$Triples" "size" "I" ∈ wsX10_untriple := by decide +kernel
  refine g_aload_n (pc9 := 1) C rfl 0 dX10_untriple_0 rfl rfl ?_
  refine g_get (v := .ref (w.1 (43))) (pc9 := 4) C rfl (31) 5 dX10_untriple_1 (by decide) (ce_31 w (σ)) hin_10 hl_46 rfl (by decide) rfl rfl ?_
  refine g_get (v := .int (nF σ (43) 2)) (pc9 := 7) C rfl (43) 2 dX10_untriple_4 (by decide) (ce_43 w (σ)) hin_8 hl_226 rfl (by decide) rfl rfl ?_
  refine g_istore_n (pc9 := 8) C rfl [(1, .int (nF σ (43) 2)), (0, .ref (w.1 (31)))] dX10_untriple_7 rfl (by decide) rfl ?_
  refine g_aload_n (pc9 := 9) C rfl 1 dX10_untriple_8 rfl rfl ?_
  refine g_get (v := .ref (w.1 (43))) (pc9 := 12) C rfl (31) 5 dX10_untriple_9 (by decide) (ce_31 w (σ)) hin_10 hl_46 rfl (by decide) rfl rfl ?_
  refine g_iconst (pc9 := 13) C rfl (nI (0)) dX10_untriple_12 rfl ?_
  refine g_put (pc9 := 16) C rfl (43) 2 dX10_untriple_13 (by decide) (ce_43 w (σ)) (rfl) hin_8 hl_226 tyX8 tyX8_ok nmX8 rfl (by decide) rfl rfl rfl (Nat.le_of_ble_eq_true rfl) ?_
  refine g_iload_n (pc9 := 17) C rfl 0 dX10_untriple_16 rfl rfl ?_
  exact g_ireturn C hr hlk dX10_untriple_17 ⟨rfl, rfl⟩
set_option maxRecDepth 100000 in
set_option maxHeartbeats 4000000 in
theorem m_X10_unsign (l : Launch) (w : Wd) (σ : St)  : MI l yX10_unsign wsX10_unsign (rmL 1) w [.ref (w.1 (31))] (σ) (fun r σ9 => σ9 = sN σ 46 1 (nI 0) ∧ r = nF σ 46 1) := by
  refine MI_of (cc := cX10_unsign) (maxL := 2) (ret := .int) (by decide) rfl (Nat.le_of_ble_eq_true rfl) ?_
  intro p e s m args below meth c A C hr hlk
  have C : Cx p s m args c w A cX10_unsign RX10 2 wsX10_unsign := C
  have hin_4 : ∀ u ∈ wsX40, u ∈ wsX10_unsign := by decide +kernel
  have hin_10 : ∀ u ∈ wsX100, u ∈ wsX10_unsign := by decide +kernel
  have hl_53 : Cond.fieldLink RX10 53 "LineageBench" "signs" "LLineageBench$Signs;" ∈ wsX10_unsign := by decide +kernel
  have hl_250 : Cond.fieldLink RX10 250 "LineageBench$Signs" "size" "I" ∈ wsX10_unsign := by decide +kernel
  refine g_aload_n (pc9 := 1) C rfl 0 dX10_unsign_0 rfl rfl ?_
  refine g_get (v := .ref (w.1 (46))) (pc9 := 4) C rfl (31) 6 dX10_unsign_1 (by decide) (ce_31 w (σ)) hin_10 hl_53 rfl (by decide) rfl rfl ?_
  refine g_get (v := .int (nF σ (46) 1)) (pc9 := 7) C rfl (46) 1 dX10_unsign_4 (by decide) (ce_46 w (σ)) hin_4 hl_250 rfl (by decide) rfl rfl ?_
  refine g_istore_n (pc9 := 8) C rfl [(1, .int (nF σ (46) 1)), (0, .ref (w.1 (31)))] dX10_unsign_7 rfl (by decide) rfl ?_
  refine g_aload_n (pc9 := 9) C rfl 1 dX10_unsign_8 rfl rfl ?_
  refine g_get (v := .ref (w.1 (46))) (pc9 := 12) C rfl (31) 6 dX10_unsign_9 (by decide) (ce_31 w (σ)) hin_10 hl_53 rfl (by decide) rfl rfl ?_
  refine g_iconst (pc9 := 13) C rfl (nI (0)) dX10_unsign_12 rfl ?_
  refine g_put (pc9 := 16) C rfl (46) 1 dX10_unsign_13 (by decide) (ce_46 w (σ)) (rfl) hin_4 hl_250 tyX4 tyX4_ok nmX4 rfl (by decide) rfl rfl rfl (Nat.le_of_ble_eq_true rfl) ?_
  refine g_iload_n (pc9 := 17) C rfl 0 dX10_unsign_16 rfl rfl ?_
  exact g_ireturn C hr hlk dX10_unsign_17 ⟨rfl, rfl⟩
def wrR (σ : St) (M : Nat) (x : Int32) : Int32 := if 0 ≤ x ∧ x < nI M then iA σ 37 x.toNatClampNeg else -1
set_option maxRecDepth 100000 in
set_option maxHeartbeats 4000000 in
theorem m_X10_written (l : Launch) (w : Wd) (σ : St) (M : Nat) (hM : nF σ 36 1 = nI M) (hM4 : M ≤ 94) (x : Int32) : MI l yX10_written wsX10_written (rmL 1) w [.ref (w.1 (31)), .int (x)] (σ) (fun r σ9 => σ9 = σ ∧ r = wrR σ M x) := by
  refine MI_of (cc := cX10_written) (maxL := 2) (ret := .int) (by decide) rfl (Nat.le_of_ble_eq_true rfl) ?_
  intro p e s m args below meth c A C hr hlk
  have C : Cx p s m args c w A cX10_written RX10 2 wsX10_written := C
  have hin_9 : ∀ u ∈ wsX90, u ∈ wsX10_written := by decide +kernel
  have hin_10 : ∀ u ∈ wsX100, u ∈ wsX10_written := by decide +kernel
  have hl_26 : Cond.fieldLink RX10 26 "LineageBench" "writer" "LLineageBench$Writer;" ∈ wsX10_written := by decide +kernel
  have hl_137 : Cond.fieldLink RX10 137 "LineageBench$Writer" "length" "I" ∈ wsX10_written := by decide +kernel
  have hl_138 : Cond.fieldLink RX10 138 "LineageBench$Writer" "bytes" "[I" ∈ wsX10_written := by decide +kernel
  refine g_iload_n (pc9 := 1) C rfl 1 dX10_written_0 rfl rfl ?_
  refine g_if_lt (pc9 := 4) C rfl 27 dX10_written_1 rfl (fun c_1 => ?_) (fun c_1 => ?_)
  · have hq : ¬ (0 ≤ x ∧ x < nI M) := fun h => absurd c_1 (Int32.not_lt.mpr h.1)
    refine g_iconst (pc9 := 28) C rfl ((-1)) dX10_written_27 rfl ?_
    exact g_ireturn C hr hlk dX10_written_28 ⟨rfl, by unfold wrR; first | rw [if_neg hq] | rw [if_pos ⟨Int32.not_lt.mp h0, h1⟩, hcl]⟩
  · have h0 : ¬ x < 0 := c_1
    refine g_iload_n (pc9 := 5) C rfl 1 dX10_written_4 rfl rfl ?_
    refine g_aload_n (pc9 := 6) C rfl 0 dX10_written_5 rfl rfl ?_
    refine g_get (v := .ref (w.1 (36))) (pc9 := 9) C rfl (31) 2 dX10_written_6 (by decide) (ce_31 w (σ)) hin_10 hl_26 rfl (by decide) rfl rfl ?_
    refine g_get (v := .int (nI (M))) (pc9 := 12) C rfl (36) 1 dX10_written_9 (by decide) (ce_36 w (σ)) hin_9 hl_137 rfl (by decide) rfl (congrArg (fun z => some (Value.int z)) hM) ?_
    refine g_icmp_ge (pc9 := 15) C rfl 27 dX10_written_12 rfl (fun c_2 => ?_) (fun c_2 => ?_)
    · have hq : ¬ (0 ≤ x ∧ x < nI M) := fun h => absurd h.2 (Int32.not_lt.mpr c_2)
      refine g_iconst (pc9 := 28) C rfl ((-1)) dX10_written_27 rfl ?_
      exact g_ireturn C hr hlk dX10_written_28 ⟨rfl, by unfold wrR; first | rw [if_neg hq] | rw [if_pos ⟨Int32.not_lt.mp h0, h1⟩, hcl]⟩
    · have h1 : x < nI M := Int32.not_le.mp c_2
      obtain ⟨i, hi, hxi⟩ := okI_of (n := M) (by omega) h0 h1
      have hcl : x.toNatClampNeg = i := by rw [hxi]; exact nI_clamp (by omega)
      refine g_aload_n (pc9 := 16) C rfl 0 dX10_written_15 rfl rfl ?_
      refine g_get (v := .ref (w.1 (36))) (pc9 := 19) C rfl (31) 2 dX10_written_16 (by decide) (ce_31 w (σ)) hin_10 hl_26 rfl (by decide) rfl rfl ?_
      refine g_get (v := .ref (w.1 (37))) (pc9 := 22) C rfl (36) 0 dX10_written_19 (by decide) (ce_36 w (σ)) hin_9 hl_138 rfl (by decide) rfl rfl ?_
      refine g_iload_n (pc9 := 23) C rfl 1 dX10_written_22 rfl rfl ?_
      refine g_iald (x := (iA σ (37)) (i)) (pc9 := 24) C rfl (37) (i) dX10_written_23 (by decide) (ce_37 w (σ)) hxi (by omega) (by decide) rfl ?_
      refine g_goto C 28 dX10_written_24 rfl ?_
      exact g_ireturn C hr hlk dX10_written_28 ⟨rfl, by unfold wrR; first | rw [if_neg hq] | rw [if_pos ⟨Int32.not_lt.mp h0, h1⟩, hcl]⟩
/-- the first k written bytes more on the tape -/
def agB (σ : St) (L : Nat) (k : Nat) : St := match k with
  | 0 => σ
  | k + 1 => tB (agB σ L k) (L + k) (iA σ 37 k)
theorem agB_L {σ : St} {L : Nat} (h : nF σ 32 1 = nI L) : ∀ k, nF (agB σ L k) 32 1 = nI (L + k)
  | 0 => h
  | _ + 1 => tB_L
theorem agB_37 {σ : St} {L : Nat} : ∀ k, iA (agB σ L k) 37 = iA σ 37
  | 0 => rfl
  | k + 1 => by
    show iA (sN (sI (agB σ L k) 33 _) 32 1 _) 37 = _
    exact (iA_N.trans (iA_n (by decide))).trans (agB_37 k)
theorem agB_36 {σ : St} {L : Nat} : ∀ k, nF (agB σ L k) 36 1 = nF σ 36 1
  | 0 => rfl
  | k + 1 => by
    show nF (sN (sI (agB σ L k) 33 _) 32 1 _) 36 1 = _
    exact ((nF_n (by decide)).trans nF_I).trans (agB_36 k)
def aiR (σ : St) (L M : Nat) (r : Int32) (σ9 : St) : Prop := if L + M ≤ 400 then σ9 = agB σ L M ∧ r = nI (L + M) else σ9 = σ ∧ r = -1
set_option maxRecDepth 100000 in
set_option maxHeartbeats 4000000 in
theorem m_X10_again (l : Launch) (w : Wd) (σ : St) (L : Nat) (hL : nF σ 32 1 = nI L) (h4 : L ≤ 400) (M : Nat) (hM : nF σ 36 1 = nI M) (hM4 : M ≤ 94) : MI l yX10_again wsX10_again (rmL 2) w [.ref (w.1 (31))] (σ) (aiR σ L M) := by
  refine MI_of (cc := cX10_again) (maxL := 2) (ret := .int) (by decide) rfl (Nat.le_of_ble_eq_true rfl) ?_
  intro p e s m args below meth c A C hr hlk
  have C : Cx p s m args c w A cX10_again RX10 2 wsX10_again := C
  have hin_6 : ∀ u ∈ wsX60, u ∈ wsX10_again := by decide +kernel
  have hin_9 : ∀ u ∈ wsX90, u ∈ wsX10_again := by decide +kernel
  have hin_10 : ∀ u ∈ wsX100, u ∈ wsX10_again := by decide +kernel
  have hl_12 : Cond.fieldLink RX10 12 "LineageBench" "tape" "LLineageBench$Tape;" ∈ wsX10_again := by decide +kernel
  have hl_26 : Cond.fieldLink RX10 26 "LineageBench" "writer" "LLineageBench$Writer;" ∈ wsX10_again := by decide +kernel
  have hl_95 : Cond.fieldLink RX10 95 "LineageBench$Tape" "length" "I" ∈ wsX10_again := by decide +kernel
  have hl_137 : Cond.fieldLink RX10 137 "LineageBench$Writer" "length" "I" ∈ wsX10_again := by decide +kernel
  have hl_138 : Cond.fieldLink RX10 138 "LineageBench$Writer" "bytes" "[I" ∈ wsX10_again := by decide +kernel
  refine g_aload_n (pc9 := 1) C rfl 0 dX10_again_0 rfl rfl ?_
  refine g_get (v := .ref (w.1 (32))) (pc9 := 4) C rfl (31) 0 dX10_again_1 (by decide) (ce_31 w (σ)) hin_10 hl_12 rfl (by decide) rfl rfl ?_
  refine g_aload_n (pc9 := 5) C rfl 0 dX10_again_4 rfl rfl ?_
  refine g_get (v := .ref (w.1 (36))) (pc9 := 8) C rfl (31) 2 dX10_again_5 (by decide) (ce_31 w (σ)) hin_10 hl_26 rfl (by decide) rfl rfl ?_
  refine g_get (v := .int (nI (M))) (pc9 := 11) C rfl (36) 1 dX10_again_8 (by decide) (ce_36 w (σ)) hin_9 hl_137 rfl (by decide) rfl (congrArg (fun z => some (Value.int z)) hM) ?_
  refine g_callVi (nn := 1) (rest := []) (pc9 := 14) C rfl (32) [.int (nI (M))] rfl dX10_again_11 (m_X6_hasRoomFor l w σ L hL h4 M (by omega)) gX10_again_X6_hasRoomFor (by decide) (ce_32 w (σ)) rfl rfl rfl rfl rfl (by decide +kernel) ⟨by decide, by decide⟩ rfl (Nat.le_of_ble_eq_true rfl) ⟨by decide, by decide⟩ (fun r_1 σ_1 q_1 => ?_)
  obtain ⟨qs_1, qr_1⟩ := q_1
  rw [qs_1, qr_1]
  clear qs_1 qr_1
  refine g_if_ne (pc9 := 17) C rfl 19 dX10_again_14 rfl (fun c_2 => ?_) (fun c_2 => ?_)
  · have hy : L + M ≤ 400 := pI_ye c_2
    refine g_iconst (pc9 := 20) C rfl (nI (0)) dX10_again_19 rfl ?_
    refine g_istore_n (pc9 := 21) C rfl [(1, .int (nI (0))), (0, .ref (w.1 (31)))] dX10_again_20 rfl (by decide) rfl ?_
    refine g_sub [0, 1] [(1, .int (nI (0))), (0, .ref (w.1 (31)))] rfl ?_
    refine g_lp1 (α := Nat) (fun v => v ≤ M) (fun v => M - v) (fun v => G p l e _ s m args below meth c _ w A _ ((agB σ L v)) 0 0 21 [(1, .int (nI (v))), (0, .ref (w.1 (31)))] []) (fun v hI ih => ?_) (0) (Nat.zero_le _)
    obtain hv := hI
    refine g_iload_n (pc9 := 22) C rfl 0 dX10_again_21 rfl rfl ?_
    refine g_aload_n (pc9 := 23) C rfl 1 dX10_again_22 rfl rfl ?_
    refine g_get (v := .ref (w.1 (36))) (pc9 := 26) C rfl (31) 2 dX10_again_23 (by decide) (ce_31 w ((agB σ L v))) hin_10 hl_26 rfl (by decide) rfl rfl ?_
    refine g_get (v := .int (nI (M))) (pc9 := 29) C rfl (36) 1 dX10_again_26 (by decide) (ce_36 w ((agB σ L v))) hin_9 hl_137 rfl (by decide) rfl (congrArg (fun z => some (Value.int z)) ((agB_36 v).trans hM)) ?_
    refine g_icmp_ge (pc9 := 32) C rfl 54 dX10_again_29 rfl (fun c_3 => ?_) (fun c_3 => ?_)
    · replace c_3 := (nI_leI (by omega) (by omega)).mp c_3
      refine g_aload_n (pc9 := 55) C rfl 1 dX10_again_54 rfl rfl ?_
      refine g_get (v := .ref (w.1 (32))) (pc9 := 58) C rfl (31) 0 dX10_again_55 (by decide) (ce_31 w ((agB σ L v))) hin_10 hl_12 rfl (by decide) rfl rfl ?_
      refine g_get (v := .int (nI (L + v))) (pc9 := 61) C rfl (32) 1 dX10_again_58 (by decide) (ce_32 w ((agB σ L v))) hin_6 hl_95 rfl (by decide) rfl (congrArg (fun z => some (Value.int z)) (agB_L hL v)) ?_
      exact g_ireturn C hr hlk dX10_again_61 (by have hvM : v = M := (by omega); subst hvM; show aiR σ L _ _ _; rw [aiR, if_pos hy]; exact ⟨rfl, rfl⟩)
    · replace c_3 := (not_congr (nI_leI (by omega) (by omega))).mp c_3
      refine g_aload_n (pc9 := 33) C rfl 1 dX10_again_32 rfl rfl ?_
      refine g_get (v := .ref (w.1 (32))) (pc9 := 36) C rfl (31) 0 dX10_again_33 (by decide) (ce_31 w ((agB σ L v))) hin_10 hl_12 rfl (by decide) rfl rfl ?_
      refine g_aload_n (pc9 := 37) C rfl 1 dX10_again_36 rfl rfl ?_
      refine g_get (v := .ref (w.1 (36))) (pc9 := 40) C rfl (31) 2 dX10_again_37 (by decide) (ce_31 w ((agB σ L v))) hin_10 hl_26 rfl (by decide) rfl rfl ?_
      refine g_get (v := .ref (w.1 (37))) (pc9 := 43) C rfl (36) 0 dX10_again_40 (by decide) (ce_36 w ((agB σ L v))) hin_9 hl_138 rfl (by decide) rfl rfl ?_
      refine g_iload_n (pc9 := 44) C rfl 0 dX10_again_43 rfl rfl ?_
      refine g_iald (x := iA σ 37 v) (pc9 := 45) C rfl (37) (v) dX10_again_44 (by decide) (ce_37 w ((agB σ L v))) rfl (by omega) (by decide) (congrFun (agB_37 v) v) ?_
      refine g_callVv (nn := 1) (rest := []) (pc9 := 48) C rfl (32) [.int (iA σ 37 v)] rfl dX10_again_45 (m_X6_addByte l w (agB σ L v) (L + v) (agB_L hL v) (by omega) (iA σ 37 v)) gX10_again_X6_addByte (by decide) (ce_32 w ((agB σ L v))) rfl rfl rfl rfl rfl (by decide +kernel) ⟨by decide, by decide⟩ rfl (Nat.le_of_ble_eq_true rfl) ⟨by decide, by decide⟩ (fun σ_4 q_4 => ?_)
      replace q_4 : σ_4 = (agB σ L (v + 1)) := q_4
      rw [q_4]
      clear q_4
      refine g_iinc (pc9 := 51) C rfl [(1, .int (nI (v + 1))), (0, .ref (w.1 (31)))] 0 (nI (v + 1)) dX10_again_48 rfl (nI_1 (v)) (by decide) rfl ?_
      refine g_goto C 21 dX10_again_51 rfl ?_
      exact ih (v + 1) (by omega) (by omega)
  · have hy : ¬ L + M ≤ 400 := pI_no c_2
    refine g_iconst (pc9 := 18) C rfl ((-1)) dX10_again_17 rfl ?_
    exact g_ireturn C hr hlk dX10_again_18 (by show aiR σ L M _ _; rw [aiR, if_neg hy]; exact ⟨rfl, rfl⟩)
def fuU (σ : St) : Nat → Int32
  | 0 => nI 0
  | k + 1 => if tN σ (tS σ k) = 0 then fuU σ k else fuU σ k ||| (nI 1 <<< (nI k &&& 31))
set_option maxRecDepth 100000 in
set_option maxHeartbeats 4000000 in
theorem m_X10_fullShelves (l : Launch) (w : Wd) (σ : St) (hT : tOk σ) : MI l yX10_fullShelves wsX10_fullShelves (rmL 2) w [.ref (w.1 (31))] (σ) (fun r σ9 => σ9 = σ ∧ r = fuU σ 8) := by
  refine MI_of (cc := cX10_fullShelves) (maxL := 3) (ret := .int) (by decide) rfl (Nat.le_of_ble_eq_true rfl) ?_
  intro p e s m args below meth c A C hr hlk
  have C : Cx p s m args c w A cX10_fullShelves RX10 3 wsX10_fullShelves := C
  have hin_10 : ∀ u ∈ wsX100, u ∈ wsX10_fullShelves := by decide +kernel
  have hl_32 : Cond.fieldLink RX10 32 "LineageBench" "trees" "[LLineageBench$Tree;" ∈ wsX10_fullShelves := by decide +kernel
  refine g_iconst (pc9 := 1) C rfl (nI (0)) dX10_fullShelves_0 rfl ?_
  refine g_istore_n (pc9 := 2) C rfl [(1, .int (nI (0))), (0, .ref (w.1 (31)))] dX10_fullShelves_1 rfl (by decide) rfl ?_
  refine g_iconst (pc9 := 3) C rfl (nI (0)) dX10_fullShelves_2 rfl ?_
  refine g_istore_n (pc9 := 4) C rfl [(2, .int (nI (0))), (1, .int (nI (0))), (0, .ref (w.1 (31)))] dX10_fullShelves_3 rfl (by decide) rfl ?_
  refine g_sub [0, 1, 2] [(2, .int (nI (0))), (1, .int (nI (0))), (0, .ref (w.1 (31)))] rfl ?_
  refine g_lp2 (α := Nat) (β := Int32) (fun v x => v ≤ 8 ∧ x = fuU σ v) (fun v x => 8 - v) (fun v x => G p l e _ s m args below meth c _ w A _ (σ) 0 0 4 [(2, .int (nI (v))), (1, .int (x)), (0, .ref (w.1 (31)))] []) (fun v x hI ih => ?_) (0) (nI 0) ⟨Nat.zero_le _, rfl⟩
  obtain ⟨hv, hx⟩ := hI
  refine g_iload_n (pc9 := 5) C rfl 0 dX10_fullShelves_4 rfl rfl ?_
  refine g_bipush (pc9 := 7) C rfl (nI (8)) dX10_fullShelves_5 rfl ?_
  refine g_icmp_ge (pc9 := 10) C rfl 34 dX10_fullShelves_7 rfl (fun c_1 => ?_) (fun c_1 => ?_)
  · replace c_1 := (nI_leI (by omega) (by omega)).mp c_1
    refine g_iload_n (pc9 := 35) C rfl 1 dX10_fullShelves_34 rfl rfl ?_
    exact g_ireturn C hr hlk dX10_fullShelves_35 ⟨rfl, by rw [hx, show v = 8 by omega]⟩
  · replace c_1 := (not_congr (nI_leI (by omega) (by omega))).mp c_1
    have htv := hT.s (i := v) (by omega)
    refine g_aload_n (pc9 := 11) C rfl 2 dX10_fullShelves_10 rfl rfl ?_
    refine g_get (v := .ref (w.1 (40))) (pc9 := 14) C rfl (31) 3 dX10_fullShelves_11 (by decide) (ce_31 w (σ)) hin_10 hl_32 rfl (by decide) rfl rfl ?_
    refine g_iload_n (pc9 := 15) C rfl 0 dX10_fullShelves_14 rfl rfl ?_
    refine g_aald (pc9 := 16) C rfl (v) dX10_fullShelves_15 rfl (by omega) ?_
    refine g_callVi (nn := 0) (rest := []) (pc9 := 19) C rfl (64 + 5 * (tS σ (v))) [] rfl dX10_fullShelves_16 (m_X7_isNone l w σ (tS σ v) htv) gX10_fullShelves_X7_isNone (by omega) (ce_tree w (σ) ((tS σ (v)))) rfl rfl rfl rfl rfl (by decide +kernel) ⟨by decide, by decide⟩ rfl (Nat.le_of_ble_eq_true rfl) ⟨by decide, by decide⟩ (fun r_2 σ_2 q_2 => ?_)
    obtain ⟨qs_2, qr_2⟩ := q_2
    rw [qs_2, qr_2]
    clear qs_2 qr_2
    refine g_if_ne (pc9 := 22) C rfl 28 dX10_fullShelves_19 rfl (fun c_3 => ?_) (fun c_3 => ?_)
    · have hz : tN σ (tS σ v) = 0 := Classical.byContradiction (fun h => c_3 (if_neg h))
      refine g_iinc (pc9 := 31) C rfl [(2, .int (nI (v + 1))), (1, .int (x)), (0, .ref (w.1 (31)))] 0 (nI (v + 1)) dX10_fullShelves_28 rfl (nI_1 (v)) (by decide) rfl ?_
      refine g_goto C 4 dX10_fullShelves_31 rfl ?_
      exact ih (v + 1) (x) ⟨by omega, by subst hx; first | exact (if_pos hz).symm | exact (if_neg hz).symm⟩ (by omega)
    · have hz : ¬ tN σ (tS σ v) = 0 := fun h => absurd (c_3) (by rw [if_pos h]; decide)
      refine g_iload_n (pc9 := 23) C rfl 1 dX10_fullShelves_22 rfl rfl ?_
      refine g_iconst (pc9 := 24) C rfl (nI (1)) dX10_fullShelves_23 rfl ?_
      refine g_iload_n (pc9 := 25) C rfl 0 dX10_fullShelves_24 rfl rfl ?_
      refine g_ishl (pc9 := 26) C rfl dX10_fullShelves_25 ?_
      refine g_ior (pc9 := 27) C rfl dX10_fullShelves_26 ?_
      refine g_istore_n (pc9 := 28) C rfl [(1, .int ((x) ||| ((nI (1)) <<< ((nI (v)) &&& 31)))), (2, .int (nI (v))), (0, .ref (w.1 (31)))] dX10_fullShelves_27 rfl (by decide) rfl ?_
      refine g_iinc (pc9 := 31) C rfl [(2, .int (nI (v + 1))), (1, .int ((x) ||| ((nI (1)) <<< ((nI (v)) &&& 31)))), (0, .ref (w.1 (31)))] 1 (nI (v + 1)) dX10_fullShelves_28 rfl (nI_1 (v)) (by decide) rfl ?_
      refine g_goto C 4 dX10_fullShelves_31 rfl ?_
      exact ih (v + 1) ((x) ||| ((nI (1)) <<< ((nI (v)) &&& 31))) ⟨by omega, by subst hx; first | exact (if_pos hz).symm | exact (if_neg hz).symm⟩ (by omega)
def ctR (σ : St) (x : Int32) : Int32 := if x = nI 0 then fuU σ 8 else if x = nI 1 then nF σ 43 2 else if x = nI 2 then nF σ 46 1 else if x = nI 3 then nF σ 53 0 else if x = nI 4 then nF σ 32 1 else if x = nI 5 then nF σ 36 1 else -1
theorem sw_no {x : Int32} {n i : Nat} (h : x.toInt < 0 ∨ (n : Int) - 1 < x.toInt) (hi : i < n) (hn : n < 2 ^ 31) : ¬ x = nI i := by
  intro q
  rw [q, nI_toInt (by omega)] at h
  omega
set_option maxRecDepth 100000 in
set_option maxHeartbeats 4000000 in
theorem m_X10_count (l : Launch) (w : Wd) (σ : St) (hT : tOk σ) (x : Int32) : MI l yX10_count wsX10_count (rmL 3) w [.ref (w.1 (31)), .int (x)] (σ) (fun r σ9 => σ9 = σ ∧ r = ctR σ x) := by
  refine MI_of (cc := cX10_count) (maxL := 2) (ret := .int) (by decide) rfl (Nat.le_of_ble_eq_true rfl) ?_
  intro p e s m args below meth c A C hr hlk
  have C : Cx p s m args c w A cX10_count RX10 2 wsX10_count := C
  have hin_0 : ∀ u ∈ wsX00, u ∈ wsX10_count := by decide +kernel
  have hin_4 : ∀ u ∈ wsX40, u ∈ wsX10_count := by decide +kernel
  have hin_6 : ∀ u ∈ wsX60, u ∈ wsX10_count := by decide +kernel
  have hin_8 : ∀ u ∈ wsX80, u ∈ wsX10_count := by decide +kernel
  have hin_9 : ∀ u ∈ wsX90, u ∈ wsX10_count := by decide +kernel
  have hin_10 : ∀ u ∈ wsX100, u ∈ wsX10_count := by decide +kernel
  have hl_12 : Cond.fieldLink RX10 12 "LineageBench" "tape" "LLineageBench$Tape;" ∈ wsX10_count := by decide +kernel
  have hl_26 : Cond.fieldLink RX10 26 "LineageBench" "writer" "LLineageBench$Writer;" ∈ wsX10_count := by decide +kernel
  have hl_46 : Cond.fieldLink RX10 46 "LineageBench" "triples" "LLineageBench$Triples;" ∈ wsX10_count := by decide +kernel
  have hl_53 : Cond.fieldLink RX10 53 "LineageBench" "signs" "LLineageBench$Signs;" ∈ wsX10_count := by decide +kernel
  have hl_71 : Cond.fieldLink RX10 71 "LineageBench" "distances" "LLineageBench$Distances;" ∈ wsX10_count := by decide +kernel
  have hl_95 : Cond.fieldLink RX10 95 "LineageBench$Tape" "length" "I" ∈ wsX10_count := by decide +kernel
  have hl_137 : Cond.fieldLink RX10 137 "LineageBench$Writer" "length" "I" ∈ wsX10_count := by decide +kernel
  have hl_226 : Cond.fieldLink RX10 226 "LineageBench$Triples" "size" "I" ∈ wsX10_count := by decide +kernel
  have hl_250 : Cond.fieldLink RX10 250 "LineageBench$Signs" "size" "I" ∈ wsX10_count := by decide +kernel
  have hl_277 : Cond.fieldLink RX10 277 "LineageBench$Distances" "counting" "I" ∈ wsX10_count := by decide +kernel
  refine g_iload_n (pc9 := 1) C rfl 1 dX10_count_0 rfl rfl ?_
  rcases sw_in (x) (n := 6) (by decide) with ⟨i_1, hi_1, hx_1⟩ | hx_1
  · rcases (show i_1 = 0 ∨ i_1 = 1 ∨ i_1 = 2 ∨ i_1 = 3 ∨ i_1 = 4 ∨ i_1 = 5 by omega) with h_1 | h_1 | h_1 | h_1 | h_1 | h_1
    · subst h_1
      subst hx_1
      refine g_tableIn C 40 (off := 39) dX10_count_1 (by decide) (by decide) (by decide) rfl ?_
      refine g_aload_n (pc9 := 41) C rfl 0 dX10_count_40 rfl rfl ?_
      refine g_callVi (nn := 0) (rest := []) (pc9 := 44) C rfl (31) [] rfl dX10_count_41 (m_X10_fullShelves l w σ hT) gX10_count_X10_fullShelves (by decide) (ce_31 w (σ)) rfl rfl rfl rfl rfl (by decide +kernel) ⟨by decide, by decide⟩ rfl (Nat.le_of_ble_eq_true rfl) ⟨by decide, by decide⟩ (fun r_2 σ_2 q_2 => ?_)
      obtain ⟨qs_2, qr_2⟩ := q_2
      rw [qs_2, qr_2]
      clear qs_2 qr_2
      exact g_ireturn C hr hlk dX10_count_44 ⟨rfl, rfl⟩
    · subst h_1
      subst hx_1
      refine g_tableIn C 45 (off := 44) dX10_count_1 (by decide) (by decide) (by decide) rfl ?_
      refine g_aload_n (pc9 := 46) C rfl 0 dX10_count_45 rfl rfl ?_
      refine g_get (v := .ref (w.1 (43))) (pc9 := 49) C rfl (31) 5 dX10_count_46 (by decide) (ce_31 w (σ)) hin_10 hl_46 rfl (by decide) rfl rfl ?_
      refine g_get (v := .int (nF σ (43) 2)) (pc9 := 52) C rfl (43) 2 dX10_count_49 (by decide) (ce_43 w (σ)) hin_8 hl_226 rfl (by decide) rfl rfl ?_
      exact g_ireturn C hr hlk dX10_count_52 ⟨rfl, rfl⟩
    · subst h_1
      subst hx_1
      refine g_tableIn C 53 (off := 52) dX10_count_1 (by decide) (by decide) (by decide) rfl ?_
      refine g_aload_n (pc9 := 54) C rfl 0 dX10_count_53 rfl rfl ?_
      refine g_get (v := .ref (w.1 (46))) (pc9 := 57) C rfl (31) 6 dX10_count_54 (by decide) (ce_31 w (σ)) hin_10 hl_53 rfl (by decide) rfl rfl ?_
      refine g_get (v := .int (nF σ (46) 1)) (pc9 := 60) C rfl (46) 1 dX10_count_57 (by decide) (ce_46 w (σ)) hin_4 hl_250 rfl (by decide) rfl rfl ?_
      exact g_ireturn C hr hlk dX10_count_60 ⟨rfl, rfl⟩
    · subst h_1
      subst hx_1
      refine g_tableIn C 61 (off := 60) dX10_count_1 (by decide) (by decide) (by decide) rfl ?_
      refine g_aload_n (pc9 := 62) C rfl 0 dX10_count_61 rfl rfl ?_
      refine g_get (v := .ref (w.1 (53))) (pc9 := 65) C rfl (31) 9 dX10_count_62 (by decide) (ce_31 w (σ)) hin_10 hl_71 rfl (by decide) rfl rfl ?_
      refine g_get (v := .int (nF σ (53) 0)) (pc9 := 68) C rfl (53) 0 dX10_count_65 (by decide) (ce_53 w (σ)) hin_0 hl_277 rfl (by decide) rfl rfl ?_
      exact g_ireturn C hr hlk dX10_count_68 ⟨rfl, rfl⟩
    · subst h_1
      subst hx_1
      refine g_tableIn C 69 (off := 68) dX10_count_1 (by decide) (by decide) (by decide) rfl ?_
      refine g_aload_n (pc9 := 70) C rfl 0 dX10_count_69 rfl rfl ?_
      refine g_get (v := .ref (w.1 (32))) (pc9 := 73) C rfl (31) 0 dX10_count_70 (by decide) (ce_31 w (σ)) hin_10 hl_12 rfl (by decide) rfl rfl ?_
      refine g_get (v := .int (nF σ (32) 1)) (pc9 := 76) C rfl (32) 1 dX10_count_73 (by decide) (ce_32 w (σ)) hin_6 hl_95 rfl (by decide) rfl rfl ?_
      exact g_ireturn C hr hlk dX10_count_76 ⟨rfl, rfl⟩
    · subst h_1
      subst hx_1
      refine g_tableIn C 77 (off := 76) dX10_count_1 (by decide) (by decide) (by decide) rfl ?_
      refine g_aload_n (pc9 := 78) C rfl 0 dX10_count_77 rfl rfl ?_
      refine g_get (v := .ref (w.1 (36))) (pc9 := 81) C rfl (31) 2 dX10_count_78 (by decide) (ce_31 w (σ)) hin_10 hl_26 rfl (by decide) rfl rfl ?_
      refine g_get (v := .int (nF σ (36) 1)) (pc9 := 84) C rfl (36) 1 dX10_count_81 (by decide) (ce_36 w (σ)) hin_9 hl_137 rfl (by decide) rfl rfl ?_
      exact g_ireturn C hr hlk dX10_count_84 ⟨rfl, rfl⟩
  · refine g_tableOut C 85 dX10_count_1 hx_1 rfl ?_
    have ho : ∀ i, i < 6 → ¬ x = nI i := fun i hi => sw_no (n := 6) hx_1 hi (by decide)
    refine g_iconst (pc9 := 86) C rfl ((-1)) dX10_count_85 rfl ?_
    exact g_ireturn C hr hlk dX10_count_86 ⟨rfl, by unfold ctR; rw [if_neg (ho 0 (by decide)), if_neg (ho 1 (by decide)), if_neg (ho 2 (by decide)), if_neg (ho 3 (by decide)), if_neg (ho 4 (by decide)), if_neg (ho 5 (by decide))]⟩
set_option maxRecDepth 100000 in
set_option maxHeartbeats 4000000 in
theorem m_X10_fourPoints (l : Launch) (w : Wd) (σ : St) (N : Nat) (hN : nF σ 53 0 = nI N) (h12 : N ≤ 12) : MI l yX10_fourPoints wsX10_fourPoints (rmL 4) w [.ref (w.1 (31))] (σ) (fun r σ9 => σ9 = σ ∧ r = pI (∀ i j k t, i ≤ j → j ≤ k → k ≤ t → t < N → fpP σ i j k t)) := by
  refine MI_of (cc := cX10_fourPoints) (maxL := 1) (ret := .boolean) (by decide) rfl (Nat.le_of_ble_eq_true rfl) ?_
  intro p e s m args below meth c A C hr hlk
  have C : Cx p s m args c w A cX10_fourPoints RX10 1 wsX10_fourPoints := C
  have hin_10 : ∀ u ∈ wsX100, u ∈ wsX10_fourPoints := by decide +kernel
  have hl_71 : Cond.fieldLink RX10 71 "LineageBench" "distances" "LLineageBench$Distances;" ∈ wsX10_fourPoints := by decide +kernel
  refine g_aload_n (pc9 := 1) C rfl 0 dX10_fourPoints_0 rfl rfl ?_
  refine g_get (v := .ref (w.1 (53))) (pc9 := 4) C rfl (31) 9 dX10_fourPoints_1 (by decide) (ce_31 w (σ)) hin_10 hl_71 rfl (by decide) rfl rfl ?_
  refine g_callVi (nn := 0) (rest := []) (pc9 := 7) C rfl (53) [] rfl dX10_fourPoints_4 (m_X0_fourPointsHold l w σ N hN h12) gX10_fourPoints_X0_fourPointsHold (by decide) (ce_53 w (σ)) rfl rfl rfl rfl rfl (by decide +kernel) ⟨by decide, by decide⟩ rfl (Nat.le_of_ble_eq_true rfl) ⟨by decide, by decide⟩ (fun r_1 σ_1 q_1 => ?_)
  obtain ⟨qs_1, qr_1⟩ := q_1
  rw [qs_1, qr_1]
  clear qs_1 qr_1
  exact g_zreturn C hr hlk dX10_fourPoints_7 (pI_01 _) ⟨rfl, rfl⟩

/-! The reference: feed, end, read, fault, written, again, clear; heights -/
set_option maxRecDepth 100000 in
set_option maxHeartbeats 4000000 in
theorem m_throwsP (l : Launch) (w : Wd) (σ : St) (P9 : Prop) (k : Nat) : MI l yX11_throwsIf wsX11_throwsIf (rmL 1) w [.ref (w.1 (0)), .int (pI P9), .int (nI (k))] (σ) (fun r σ9 => r = pI P9 ∧ (P9 → σ9 = mT σ k) ∧ (¬ P9 → σ9 = σ)) := by
  refine MI_of (cc := cX11_throwsIf) (maxL := 3) (ret := .boolean) (by decide) rfl (Nat.le_of_ble_eq_true rfl) ?_
  intro p e s m args below meth c A C hr hlk
  have C : Cx p s m args c w A cX11_throwsIf RX11 3 wsX11_throwsIf := C
  have hin_11 : ∀ u ∈ wsX110, u ∈ wsX11_throwsIf := by decide +kernel
  have hl_107 : Cond.fieldLink RX11 107 "LineageBenchModel" "thrown" "I" ∈ wsX11_throwsIf := by decide +kernel
  refine g_iload_n (pc9 := 1) C rfl 1 dX11_throwsIf_0 rfl rfl ?_
  refine g_if_eq (pc9 := 4) C rfl 9 dX11_throwsIf_1 rfl (fun c_1 => ?_) (fun c_1 => ?_)
  · have hP := pI_no c_1
    refine g_iload_n (pc9 := 10) C rfl 1 dX11_throwsIf_9 rfl rfl ?_
    exact g_zreturn C hr hlk dX11_throwsIf_10 (pI_01 _) (by first | exact ⟨rfl, fun h => absurd h hP, fun _ => rfl⟩ | exact ⟨rfl, fun _ => rfl, fun n => absurd hP n⟩)
  · have hP := pI_ye c_1
    refine g_aload_n (pc9 := 5) C rfl 0 dX11_throwsIf_4 rfl rfl ?_
    refine g_iload_n (pc9 := 6) C rfl 2 dX11_throwsIf_5 rfl rfl ?_
    refine g_put (pc9 := 9) C rfl (0) 0 dX11_throwsIf_6 (by decide) (ce_0 w (σ)) (rfl) hin_11 hl_107 tyX11 tyX11_ok nmX11 rfl (by decide) rfl rfl rfl (Nat.le_of_ble_eq_true rfl) ?_
    refine g_iload_n (pc9 := 10) C rfl 1 dX11_throwsIf_9 rfl rfl ?_
    exact g_zreturn C hr hlk dX11_throwsIf_10 (pI_01 _) (by first | exact ⟨rfl, fun h => absurd h hP, fun _ => rfl⟩ | exact ⟨rfl, fun _ => rfl, fun n => absurd hP n⟩)
def menR (σ : St) (L : Nat) (x : Int32) (r : Int32) (σ9 : St) : Prop := if 0 ≤ x ∧ x ≤ nI L then σ9 = sN (mT σ 0) 0 2 x ∧ r = 1 else σ9 = mT σ 0 ∧ r = 0
set_option maxRecDepth 100000 in
set_option maxHeartbeats 4000000 in
theorem m_X11_end (l : Launch) (w : Wd) (σ : St) (L : Nat) (hL : nF σ 0 2 = nI L) (h4 : L ≤ 400) (x : Int32) : MI l yX11_end wsX11_end (rmL 1) w [.ref (w.1 (0)), .int (x)] (σ) (menR σ L x) := by
  refine MI_of (cc := cX11_end) (maxL := 2) (ret := .boolean) (by decide) rfl (Nat.le_of_ble_eq_true rfl) ?_
  intro p e s m args below meth c A C hr hlk
  have C : Cx p s m args c w A cX11_end RX11 2 wsX11_end := C
  have hin_11 : ∀ u ∈ wsX110, u ∈ wsX11_end := by decide +kernel
  have hl_107 : Cond.fieldLink RX11 107 "LineageBenchModel" "thrown" "I" ∈ wsX11_end := by decide +kernel
  have hl_161 : Cond.fieldLink RX11 161 "LineageBenchModel" "taped" "I" ∈ wsX11_end := by decide +kernel
  refine g_aload_n (pc9 := 1) C rfl 0 dX11_end_0 rfl rfl ?_
  refine g_iconst (pc9 := 2) C rfl (nI (0)) dX11_end_1 rfl ?_
  refine g_put (pc9 := 5) C rfl (0) 0 dX11_end_2 (by decide) (ce_0 w (σ)) (rfl) hin_11 hl_107 tyX11 tyX11_ok nmX11 rfl (by decide) rfl rfl rfl (Nat.le_of_ble_eq_true rfl) ?_
  refine g_iload_n (pc9 := 6) C rfl 1 dX11_end_5 rfl rfl ?_
  refine g_if_lt (pc9 := 9) C rfl 17 dX11_end_6 rfl (fun c_1 => ?_) (fun c_1 => ?_)
  · refine g_iconst (pc9 := 18) C rfl (nI (0)) dX11_end_17 rfl ?_
    exact g_zreturn C hr hlk dX11_end_18 (by decide) (by show menR σ L x _ _; rw [menR, if_neg (by first | exact fun h => absurd (by assumption) (Int32.not_lt.mpr h.1) | exact fun h => absurd h.2 (by assumption))]; exact ⟨rfl, rfl⟩)
  · refine g_iload_n (pc9 := 10) C rfl 1 dX11_end_9 rfl rfl ?_
    refine g_aload_n (pc9 := 11) C rfl 0 dX11_end_10 rfl rfl ?_
    refine g_get (v := .int (nI (L))) (pc9 := 14) C rfl (0) 2 dX11_end_11 (by decide) (ce_0 w (sN σ (0) 0 (nI (0)))) hin_11 hl_161 rfl (by decide) rfl (congrArg (fun z => some (Value.int z)) ((nF_k (k := 0) (k9 := 2) (by decide)).trans hL)) ?_
    refine g_icmp_le (pc9 := 17) C rfl 19 dX11_end_14 rfl (fun c_2 => ?_) (fun c_2 => ?_)
    · refine g_aload_n (pc9 := 20) C rfl 0 dX11_end_19 rfl rfl ?_
      refine g_iload_n (pc9 := 21) C rfl 1 dX11_end_20 rfl rfl ?_
      refine g_put (pc9 := 24) C rfl (0) 2 dX11_end_21 (by decide) (ce_0 w (sN σ (0) 0 (nI (0)))) (rfl) hin_11 hl_161 tyX11 tyX11_ok nmX11 rfl (by decide) rfl rfl rfl (Nat.le_of_ble_eq_true rfl) ?_
      refine g_iconst (pc9 := 25) C rfl (nI (1)) dX11_end_24 rfl ?_
      exact g_zreturn C hr hlk dX11_end_25 (by decide) (by show menR σ L x _ _; rw [menR, if_pos ⟨Int32.not_lt.mp (by assumption), by assumption⟩]; exact ⟨rfl, rfl⟩)
    · refine g_iconst (pc9 := 18) C rfl (nI (0)) dX11_end_17 rfl ?_
      exact g_zreturn C hr hlk dX11_end_18 (by decide) (by show menR σ L x _ _; rw [menR, if_neg (by first | exact fun h => absurd (by assumption) (Int32.not_lt.mpr h.1) | exact fun h => absurd h.2 (by assumption))]; exact ⟨rfl, rfl⟩)
set_option maxRecDepth 100000 in
set_option maxHeartbeats 4000000 in
theorem m_X11_fault (l : Launch) (w : Wd) (σ : St) (x : Int32) : MI l yX11_fault wsX11_fault (rmL 1) w [.ref (w.1 (0)), .int (x)] (σ) (fun r σ9 => σ9 = mT σ 0 ∧ r = if x = nI 0 then nF σ 0 3 else if x = nI 1 then nF σ 0 4 else -1) := by
  refine MI_of (cc := cX11_fault) (maxL := 2) (ret := .int) (by decide) rfl (Nat.le_of_ble_eq_true rfl) ?_
  intro p e s m args below meth c A C hr hlk
  have C : Cx p s m args c w A cX11_fault RX11 2 wsX11_fault := C
  have hin_11 : ∀ u ∈ wsX110, u ∈ wsX11_fault := by decide +kernel
  have hl_13 : Cond.fieldLink RX11 13 "LineageBenchModel" "faultPlace" "I" ∈ wsX11_fault := by decide +kernel
  have hl_107 : Cond.fieldLink RX11 107 "LineageBenchModel" "thrown" "I" ∈ wsX11_fault := by decide +kernel
  have hl_138 : Cond.fieldLink RX11 138 "LineageBenchModel" "faultKind" "I" ∈ wsX11_fault := by decide +kernel
  refine g_aload_n (pc9 := 1) C rfl 0 dX11_fault_0 rfl rfl ?_
  refine g_iconst (pc9 := 2) C rfl (nI (0)) dX11_fault_1 rfl ?_
  refine g_put (pc9 := 5) C rfl (0) 0 dX11_fault_2 (by decide) (ce_0 w (σ)) (rfl) hin_11 hl_107 tyX11 tyX11_ok nmX11 rfl (by decide) rfl rfl rfl (Nat.le_of_ble_eq_true rfl) ?_
  refine g_iload_n (pc9 := 6) C rfl 1 dX11_fault_5 rfl rfl ?_
  refine g_if_ne (pc9 := 9) C rfl 16 dX11_fault_6 rfl (fun c_1 => ?_) (fun c_1 => ?_)
  · have h0 : ¬ x = nI 0 := c_1
    refine g_iload_n (pc9 := 17) C rfl 1 dX11_fault_16 rfl rfl ?_
    refine g_iconst (pc9 := 18) C rfl (nI (1)) dX11_fault_17 rfl ?_
    refine g_icmp_ne (pc9 := 21) C rfl 28 dX11_fault_18 rfl (fun c_2 => ?_) (fun c_2 => ?_)
    · have h1 : ¬ x = nI 1 := c_2
      refine g_iconst (pc9 := 29) C rfl ((-1)) dX11_fault_28 rfl ?_
      exact g_ireturn C hr hlk dX11_fault_29 ⟨rfl, by first | rw [if_pos h0] | rw [if_neg h0, if_pos h1] | rw [if_neg h0, if_neg h1]⟩
    · have h1 : x = nI 1 := c_2
      refine g_aload_n (pc9 := 22) C rfl 0 dX11_fault_21 rfl rfl ?_
      refine g_get (v := .int (nF σ (0) 4)) (pc9 := 25) C rfl (0) 4 dX11_fault_22 (by decide) (ce_0 w (sN σ (0) 0 (nI (0)))) hin_11 hl_13 rfl (by decide) rfl (congrArg (fun z => some (Value.int z)) (nF_k (k := 0) (k9 := 4) (by decide))) ?_
      refine g_goto C 29 dX11_fault_25 rfl ?_
      exact g_ireturn C hr hlk dX11_fault_29 ⟨rfl, by first | rw [if_pos h0] | rw [if_neg h0, if_pos h1] | rw [if_neg h0, if_neg h1]⟩
  · have h0 : x = nI 0 := c_1
    refine g_aload_n (pc9 := 10) C rfl 0 dX11_fault_9 rfl rfl ?_
    refine g_get (v := .int (nF σ (0) 3)) (pc9 := 13) C rfl (0) 3 dX11_fault_10 (by decide) (ce_0 w (sN σ (0) 0 (nI (0)))) hin_11 hl_138 rfl (by decide) rfl (congrArg (fun z => some (Value.int z)) (nF_k (k := 0) (k9 := 3) (by decide))) ?_
    refine g_goto C 29 dX11_fault_13 rfl ?_
    exact g_ireturn C hr hlk dX11_fault_29 ⟨rfl, by first | rw [if_pos h0] | rw [if_neg h0, if_pos h1] | rw [if_neg h0, if_neg h1]⟩
set_option maxRecDepth 100000 in
set_option maxHeartbeats 4000000 in
theorem m_X11_untriple (l : Launch) (w : Wd) (σ : St)  : MI l yX11_untriple wsX11_untriple (rmL 1) w [.ref (w.1 (0))] (σ) (fun r σ9 => σ9 = sN (mT σ 0) 0 11 (nI 0) ∧ r = nF σ 0 11) := by
  refine MI_of (cc := cX11_untriple) (maxL := 2) (ret := .int) (by decide) rfl (Nat.le_of_ble_eq_true rfl) ?_
  intro p e s m args below meth c A C hr hlk
  have C : Cx p s m args c w A cX11_untriple RX11 2 wsX11_untriple := C
  have hin_11 : ∀ u ∈ wsX110, u ∈ wsX11_untriple := by decide +kernel
  have hl_107 : Cond.fieldLink RX11 107 "LineageBenchModel" "thrown" "I" ∈ wsX11_untriple := by decide +kernel
  have hl_222 : Cond.fieldLink RX11 222 "LineageBenchModel" "triples" "I" ∈ wsX11_untriple := by decide +kernel
  refine g_aload_n (pc9 := 1) C rfl 0 dX11_untriple_0 rfl rfl ?_
  refine g_iconst (pc9 := 2) C rfl (nI (0)) dX11_untriple_1 rfl ?_
  refine g_put (pc9 := 5) C rfl (0) 0 dX11_untriple_2 (by decide) (ce_0 w (σ)) (rfl) hin_11 hl_107 tyX11 tyX11_ok nmX11 rfl (by decide) rfl rfl rfl (Nat.le_of_ble_eq_true rfl) ?_
  refine g_aload_n (pc9 := 6) C rfl 0 dX11_untriple_5 rfl rfl ?_
  refine g_get (v := .int (nF σ (0) 11)) (pc9 := 9) C rfl (0) 11 dX11_untriple_6 (by decide) (ce_0 w (sN σ (0) 0 (nI (0)))) hin_11 hl_222 rfl (by decide) rfl (congrArg (fun z => some (Value.int z)) (nF_k (k := 0) (k9 := 11) (by decide))) ?_
  refine g_istore_n (pc9 := 10) C rfl [(1, .int (nF σ (0) 11)), (0, .ref (w.1 (0)))] dX11_untriple_9 rfl (by decide) rfl ?_
  refine g_aload_n (pc9 := 11) C rfl 1 dX11_untriple_10 rfl rfl ?_
  refine g_iconst (pc9 := 12) C rfl (nI (0)) dX11_untriple_11 rfl ?_
  refine g_put (pc9 := 15) C rfl (0) 11 dX11_untriple_12 (by decide) (ce_0 w (sN σ (0) 0 (nI (0)))) (rfl) hin_11 hl_222 tyX11 tyX11_ok nmX11 rfl (by decide) rfl rfl rfl (Nat.le_of_ble_eq_true rfl) ?_
  refine g_iload_n (pc9 := 16) C rfl 0 dX11_untriple_15 rfl rfl ?_
  exact g_ireturn C hr hlk dX11_untriple_16 ⟨rfl, rfl⟩
set_option maxRecDepth 100000 in
set_option maxHeartbeats 4000000 in
theorem m_X11_unsign (l : Launch) (w : Wd) (σ : St)  : MI l yX11_unsign wsX11_unsign (rmL 1) w [.ref (w.1 (0))] (σ) (fun r σ9 => σ9 = sN (mT σ 0) 0 13 (nI 0) ∧ r = nF σ 0 13) := by
  refine MI_of (cc := cX11_unsign) (maxL := 2) (ret := .int) (by decide) rfl (Nat.le_of_ble_eq_true rfl) ?_
  intro p e s m args below meth c A C hr hlk
  have C : Cx p s m args c w A cX11_unsign RX11 2 wsX11_unsign := C
  have hin_11 : ∀ u ∈ wsX110, u ∈ wsX11_unsign := by decide +kernel
  have hl_107 : Cond.fieldLink RX11 107 "LineageBenchModel" "thrown" "I" ∈ wsX11_unsign := by decide +kernel
  have hl_231 : Cond.fieldLink RX11 231 "LineageBenchModel" "signMany" "I" ∈ wsX11_unsign := by decide +kernel
  refine g_aload_n (pc9 := 1) C rfl 0 dX11_unsign_0 rfl rfl ?_
  refine g_iconst (pc9 := 2) C rfl (nI (0)) dX11_unsign_1 rfl ?_
  refine g_put (pc9 := 5) C rfl (0) 0 dX11_unsign_2 (by decide) (ce_0 w (σ)) (rfl) hin_11 hl_107 tyX11 tyX11_ok nmX11 rfl (by decide) rfl rfl rfl (Nat.le_of_ble_eq_true rfl) ?_
  refine g_aload_n (pc9 := 6) C rfl 0 dX11_unsign_5 rfl rfl ?_
  refine g_get (v := .int (nF σ (0) 13)) (pc9 := 9) C rfl (0) 13 dX11_unsign_6 (by decide) (ce_0 w (sN σ (0) 0 (nI (0)))) hin_11 hl_231 rfl (by decide) rfl (congrArg (fun z => some (Value.int z)) (nF_k (k := 0) (k9 := 13) (by decide))) ?_
  refine g_istore_n (pc9 := 10) C rfl [(1, .int (nF σ (0) 13)), (0, .ref (w.1 (0)))] dX11_unsign_9 rfl (by decide) rfl ?_
  refine g_aload_n (pc9 := 11) C rfl 1 dX11_unsign_10 rfl rfl ?_
  refine g_iconst (pc9 := 12) C rfl (nI (0)) dX11_unsign_11 rfl ?_
  refine g_put (pc9 := 15) C rfl (0) 13 dX11_unsign_12 (by decide) (ce_0 w (sN σ (0) 0 (nI (0)))) (rfl) hin_11 hl_231 tyX11 tyX11_ok nmX11 rfl (by decide) rfl rfl rfl (Nat.le_of_ble_eq_true rfl) ?_
  refine g_iload_n (pc9 := 16) C rfl 0 dX11_unsign_15 rfl rfl ?_
  exact g_ireturn C hr hlk dX11_unsign_16 ⟨rfl, rfl⟩
def mwrR (σ : St) (M : Nat) (x : Int32) : Int32 := if 0 ≤ x ∧ x < nI M then iA σ 11 x.toNatClampNeg else -1
set_option maxRecDepth 100000 in
set_option maxHeartbeats 4000000 in
theorem m_X11_written (l : Launch) (w : Wd) (σ : St) (M : Nat) (hM : nF σ 0 18 = nI M) (hM4 : M ≤ 94) (x : Int32) : MI l yX11_written wsX11_written (rmL 1) w [.ref (w.1 (0)), .int (x)] (σ) (fun r σ9 => σ9 = mT σ 0 ∧ r = mwrR σ M x) := by
  refine MI_of (cc := cX11_written) (maxL := 2) (ret := .int) (by decide) rfl (Nat.le_of_ble_eq_true rfl) ?_
  intro p e s m args below meth c A C hr hlk
  have C : Cx p s m args c w A cX11_written RX11 2 wsX11_written := C
  have hin_11 : ∀ u ∈ wsX110, u ∈ wsX11_written := by decide +kernel
  have hl_48 : Cond.fieldLink RX11 48 "LineageBenchModel" "written" "[B" ∈ wsX11_written := by decide +kernel
  have hl_107 : Cond.fieldLink RX11 107 "LineageBenchModel" "thrown" "I" ∈ wsX11_written := by decide +kernel
  have hl_181 : Cond.fieldLink RX11 181 "LineageBenchModel" "writtenMany" "I" ∈ wsX11_written := by decide +kernel
  refine g_aload_n (pc9 := 1) C rfl 0 dX11_written_0 rfl rfl ?_
  refine g_iconst (pc9 := 2) C rfl (nI (0)) dX11_written_1 rfl ?_
  refine g_put (pc9 := 5) C rfl (0) 0 dX11_written_2 (by decide) (ce_0 w (σ)) (rfl) hin_11 hl_107 tyX11 tyX11_ok nmX11 rfl (by decide) rfl rfl rfl (Nat.le_of_ble_eq_true rfl) ?_
  refine g_iload_n (pc9 := 6) C rfl 1 dX11_written_5 rfl rfl ?_
  refine g_if_lt (pc9 := 9) C rfl 17 dX11_written_6 rfl (fun c_1 => ?_) (fun c_1 => ?_)
  · have hq : ¬ (0 ≤ x ∧ x < nI M) := fun h => absurd c_1 (Int32.not_lt.mpr h.1)
    refine g_iconst (pc9 := 18) C rfl ((-1)) dX11_written_17 rfl ?_
    refine g_goto C 27 dX11_written_18 rfl ?_
    exact g_ireturn C hr hlk dX11_written_27 ⟨rfl, by unfold mwrR; first | rw [if_neg hq] | rw [if_pos ⟨Int32.not_lt.mp h0, h1⟩, hcl]⟩
  · have h0 : ¬ x < 0 := c_1
    refine g_iload_n (pc9 := 10) C rfl 1 dX11_written_9 rfl rfl ?_
    refine g_aload_n (pc9 := 11) C rfl 0 dX11_written_10 rfl rfl ?_
    refine g_get (v := .int (nI (M))) (pc9 := 14) C rfl (0) 18 dX11_written_11 (by decide) (ce_0 w (sN σ (0) 0 (nI (0)))) hin_11 hl_181 rfl (by decide) rfl (congrArg (fun z => some (Value.int z)) ((nF_k (k := 0) (k9 := 18) (by decide)).trans hM)) ?_
    refine g_icmp_lt (pc9 := 17) C rfl 21 dX11_written_14 rfl (fun c_2 => ?_) (fun c_2 => ?_)
    · have h1 : x < nI M := c_2
      obtain ⟨i, hi, hxi⟩ := okI_of (n := M) (by omega) h0 h1
      have hcl : x.toNatClampNeg = i := by rw [hxi]; exact nI_clamp (by omega)
      refine g_aload_n (pc9 := 22) C rfl 0 dX11_written_21 rfl rfl ?_
      refine g_get (v := .ref (w.1 (11))) (pc9 := 25) C rfl (0) 17 dX11_written_22 (by decide) (ce_0 w (sN σ (0) 0 (nI (0)))) hin_11 hl_48 rfl (by decide) rfl rfl ?_
      refine g_iload_n (pc9 := 26) C rfl 1 dX11_written_25 rfl rfl ?_
      refine g_bald (x := (iA σ (11)) (i)) (pc9 := 27) C rfl (11) (i) dX11_written_26 (by decide) (ce_11 w (sN σ (0) 0 (nI (0)))) hxi (by omega) (by decide) (congrFun (iA_N) _) ?_
      exact g_ireturn C hr hlk dX11_written_27 ⟨rfl, by unfold mwrR; first | rw [if_neg hq] | rw [if_pos ⟨Int32.not_lt.mp h0, h1⟩, hcl]⟩
    · have hq : ¬ (0 ≤ x ∧ x < nI M) := fun h => c_2 h.2
      refine g_iconst (pc9 := 18) C rfl ((-1)) dX11_written_17 rfl ?_
      refine g_goto C 27 dX11_written_18 rfl ?_
      exact g_ireturn C hr hlk dX11_written_27 ⟨rfl, by unfold mwrR; first | rw [if_neg hq] | rw [if_pos ⟨Int32.not_lt.mp h0, h1⟩, hcl]⟩
/-- k bytes of g behind L bytes of f -/
def apB (g f : Nat → Int32) (L k : Nat) : Nat → Int32 := fun q => if L ≤ q ∧ q < L + k then g (q - L) else f q
theorem apB_0 (g f : Nat → Int32) (L : Nat) : apB g f L 0 = f := by funext q; exact if_neg (by omega)
theorem apB_s (g f : Nat → Int32) (L k : Nat) : upd (apB g f L k) (L + k) (g k) = apB g f L (k + 1) := by
  funext q
  unfold upd apB
  by_cases e : q = L + k
  · rw [if_pos e, if_pos (by omega), e, show L + k - L = k by omega]
  · rw [if_neg e]
    by_cases e2 : L ≤ q ∧ q < L + k
    · rw [if_pos e2, if_pos (by omega)]
    · rw [if_neg e2, if_neg (by omega)]
abbrev wB (x : Int32) : Int32 := vp_nar .byte x
def maiR (σ : St) (L M : Nat) (r : Int32) (σ9 : St) : Prop := if L + M ≤ 400 then σ9 = sN (sI (mT σ 0) 1 (apB (fun k => wB (iA σ 11 k)) (iA σ 1) L M)) 0 2 (nI (L + M)) ∧ r = nI (L + M) else σ9 = mT σ 0 ∧ r = -1
set_option maxRecDepth 100000 in
set_option maxHeartbeats 4000000 in
theorem m_X11_again (l : Launch) (w : Wd) (σ : St) (L : Nat) (hL : nF σ 0 2 = nI L) (h4 : L ≤ 400) (M : Nat) (hM : nF σ 0 18 = nI M) (hM4 : M ≤ 94) : MI l yX11_again wsX11_again (rmL 1) w [.ref (w.1 (0))] (σ) (maiR σ L M) := by
  refine MI_of (cc := cX11_again) (maxL := 2) (ret := .int) (by decide) rfl (Nat.le_of_ble_eq_true rfl) ?_
  intro p e s m args below meth c A C hr hlk
  have C : Cx p s m args c w A cX11_again RX11 2 wsX11_again := C
  have hin_11 : ∀ u ∈ wsX110, u ∈ wsX11_again := by decide +kernel
  have hl_9 : Cond.fieldLink RX11 9 "LineageBenchModel" "tape" "[B" ∈ wsX11_again := by decide +kernel
  have hl_48 : Cond.fieldLink RX11 48 "LineageBenchModel" "written" "[B" ∈ wsX11_again := by decide +kernel
  have hl_107 : Cond.fieldLink RX11 107 "LineageBenchModel" "thrown" "I" ∈ wsX11_again := by decide +kernel
  have hl_161 : Cond.fieldLink RX11 161 "LineageBenchModel" "taped" "I" ∈ wsX11_again := by decide +kernel
  have hl_181 : Cond.fieldLink RX11 181 "LineageBenchModel" "writtenMany" "I" ∈ wsX11_again := by decide +kernel
  refine g_aload_n (pc9 := 1) C rfl 0 dX11_again_0 rfl rfl ?_
  refine g_iconst (pc9 := 2) C rfl (nI (0)) dX11_again_1 rfl ?_
  refine g_put (pc9 := 5) C rfl (0) 0 dX11_again_2 (by decide) (ce_0 w (σ)) (rfl) hin_11 hl_107 tyX11 tyX11_ok nmX11 rfl (by decide) rfl rfl rfl (Nat.le_of_ble_eq_true rfl) ?_
  refine g_aload_n (pc9 := 6) C rfl 0 dX11_again_5 rfl rfl ?_
  refine g_get (v := .int (nI (L))) (pc9 := 9) C rfl (0) 2 dX11_again_6 (by decide) (ce_0 w (sN σ (0) 0 (nI (0)))) hin_11 hl_161 rfl (by decide) rfl (congrArg (fun z => some (Value.int z)) ((nF_k (k := 0) (k9 := 2) (by decide)).trans hL)) ?_
  refine g_aload_n (pc9 := 10) C rfl 0 dX11_again_9 rfl rfl ?_
  refine g_get (v := .int (nI (M))) (pc9 := 13) C rfl (0) 18 dX11_again_10 (by decide) (ce_0 w (sN σ (0) 0 (nI (0)))) hin_11 hl_181 rfl (by decide) rfl (congrArg (fun z => some (Value.int z)) ((nF_k (k := 0) (k9 := 18) (by decide)).trans hM)) ?_
  refine g_iaddN (pc9 := 14) C rfl dX11_again_13 ?_
  refine g_sipush (pc9 := 17) C rfl (nI (400)) dX11_again_14 rfl ?_
  refine g_icmp_le (pc9 := 20) C rfl 22 dX11_again_17 rfl (fun c_1 => ?_) (fun c_1 => ?_)
  · replace c_1 := (nI_leI (by omega) (by omega)).mp c_1
    refine g_iconst (pc9 := 23) C rfl (nI (0)) dX11_again_22 rfl ?_
    refine g_istore_n (pc9 := 24) C rfl [(1, .int (nI (0))), (0, .ref (w.1 (0)))] dX11_again_23 rfl (by decide) rfl ?_
    refine g_sub [0, 1] [(1, .int (nI (0))), (0, .ref (w.1 (0)))] rfl ?_
    refine g_st (σ9 := sI (sN σ (0) 0 (nI (0))) (1) (apB (fun k => wB (iA σ 11 k)) (iA σ 1) L 0)) (by rw [apB_0]; exact (show sI (mT σ 0) 1 (iA (mT σ 0) 1) = mT σ 0 from sI_self).symm) ?_
    refine g_lp1 (α := Nat) (fun v => v ≤ M) (fun v => M - v) (fun v => G p l e _ s m args below meth c _ w A _ (sI (sN σ (0) 0 (nI (0))) (1) (apB (fun k => wB (iA σ 11 k)) (iA σ 1) L v)) 0 0 24 [(1, .int (nI (v))), (0, .ref (w.1 (0)))] []) (fun v hI ih => ?_) (0) (Nat.zero_le _)
    obtain hv := hI
    refine g_iload_n (pc9 := 25) C rfl 0 dX11_again_24 rfl rfl ?_
    refine g_aload_n (pc9 := 26) C rfl 1 dX11_again_25 rfl rfl ?_
    refine g_get (v := .int (nI (M))) (pc9 := 29) C rfl (0) 18 dX11_again_26 (by decide) (ce_0 w (sI (sN σ (0) 0 (nI (0))) (1) (apB (fun k => wB (iA σ 11 k)) (iA σ 1) L v))) hin_11 hl_181 rfl (by decide) rfl (congrArg (fun z => some (Value.int z)) (((nF_I).trans (nF_k (k := 0) (k9 := 18) (by decide))).trans hM)) ?_
    refine g_icmp_ge (pc9 := 32) C rfl 55 dX11_again_29 rfl (fun c_2 => ?_) (fun c_2 => ?_)
    · replace c_2 := (nI_leI (by omega) (by omega)).mp c_2
      refine g_aload_n (pc9 := 56) C rfl 1 dX11_again_55 rfl rfl ?_
      refine g_dup (pc9 := 57) C rfl dX11_again_56 rfl ?_
      refine g_get (v := .int (nI (L))) (pc9 := 60) C rfl (0) 2 dX11_again_57 (by decide) (ce_0 w (sI (sN σ (0) 0 (nI (0))) (1) (apB (fun k => wB (iA σ 11 k)) (iA σ 1) L v))) hin_11 hl_161 rfl (by decide) rfl (congrArg (fun z => some (Value.int z)) (((nF_I).trans (nF_k (k := 0) (k9 := 2) (by decide))).trans hL)) ?_
      refine g_aload_n (pc9 := 61) C rfl 1 dX11_again_60 rfl rfl ?_
      refine g_get (v := .int (nI (M))) (pc9 := 64) C rfl (0) 18 dX11_again_61 (by decide) (ce_0 w (sI (sN σ (0) 0 (nI (0))) (1) (apB (fun k => wB (iA σ 11 k)) (iA σ 1) L v))) hin_11 hl_181 rfl (by decide) rfl (congrArg (fun z => some (Value.int z)) (((nF_I).trans (nF_k (k := 0) (k9 := 18) (by decide))).trans hM)) ?_
      refine g_iaddN (pc9 := 65) C rfl dX11_again_64 ?_
      refine g_put (pc9 := 68) C rfl (0) 2 dX11_again_65 (by decide) (ce_0 w (sI (sN σ (0) 0 (nI (0))) (1) (apB (fun k => wB (iA σ 11 k)) (iA σ 1) L v))) (rfl) hin_11 hl_161 tyX11 tyX11_ok nmX11 rfl (by decide) rfl rfl rfl (Nat.le_of_ble_eq_true rfl) ?_
      refine g_aload_n (pc9 := 69) C rfl 1 dX11_again_68 rfl rfl ?_
      refine g_get (v := .int (nI (L + M))) (pc9 := 72) C rfl (0) 2 dX11_again_69 (by decide) (ce_0 w (sN (sI (sN σ (0) 0 (nI (0))) (1) (apB (fun k => wB (iA σ 11 k)) (iA σ 1) L v)) (0) 2 (nI (L + M)))) hin_11 hl_161 rfl (by decide) rfl (congrArg (fun z => some (Value.int z)) (nF_s)) ?_
      exact g_ireturn C hr hlk dX11_again_72 (by have hvM : v = M := (by omega); subst hvM; show maiR σ L _ _ _; rw [maiR, if_pos (by omega)]; exact ⟨rfl, rfl⟩)
    · replace c_2 := (not_congr (nI_leI (by omega) (by omega))).mp c_2
      refine g_aload_n (pc9 := 33) C rfl 1 dX11_again_32 rfl rfl ?_
      refine g_get (v := .ref (w.1 (1))) (pc9 := 36) C rfl (0) 1 dX11_again_33 (by decide) (ce_0 w (sI (sN σ (0) 0 (nI (0))) (1) (apB (fun k => wB (iA σ 11 k)) (iA σ 1) L v))) hin_11 hl_9 rfl (by decide) rfl rfl ?_
      refine g_aload_n (pc9 := 37) C rfl 1 dX11_again_36 rfl rfl ?_
      refine g_get (v := .int (nI (L))) (pc9 := 40) C rfl (0) 2 dX11_again_37 (by decide) (ce_0 w (sI (sN σ (0) 0 (nI (0))) (1) (apB (fun k => wB (iA σ 11 k)) (iA σ 1) L v))) hin_11 hl_161 rfl (by decide) rfl (congrArg (fun z => some (Value.int z)) (((nF_I).trans (nF_k (k := 0) (k9 := 2) (by decide))).trans hL)) ?_
      refine g_iload_n (pc9 := 41) C rfl 0 dX11_again_40 rfl rfl ?_
      refine g_iaddN (pc9 := 42) C rfl dX11_again_41 ?_
      refine g_aload_n (pc9 := 43) C rfl 1 dX11_again_42 rfl rfl ?_
      refine g_get (v := .ref (w.1 (11))) (pc9 := 46) C rfl (0) 17 dX11_again_43 (by decide) (ce_0 w (sI (sN σ (0) 0 (nI (0))) (1) (apB (fun k => wB (iA σ 11 k)) (iA σ 1) L v))) hin_11 hl_48 rfl (by decide) rfl rfl ?_
      refine g_iload_n (pc9 := 47) C rfl 0 dX11_again_46 rfl rfl ?_
      refine g_bald (x := (iA σ (11)) (v)) (pc9 := 48) C rfl (11) (v) dX11_again_47 (by decide) (ce_11 w (sI (sN σ (0) 0 (nI (0))) (1) (apB (fun k => wB (iA σ 11 k)) (iA σ 1) L v))) rfl (by omega) (by decide) (congrFun ((iA_n (by decide)).trans (iA_N)) _) ?_
      refine g_bast (pc9 := 49) C rfl (1) (L + v) (apB (fun k => wB (iA σ 11 k)) (iA σ 1) L v) dX11_again_48 (by decide) (fun _ => rfl) (ce_1 w (sI (sN σ (0) 0 (nI (0))) (1) (apB (fun k => wB (iA σ 11 k)) (iA σ 1) L v))) rfl (by omega) (by decide) (iA_s) ?_
      rw [sI_sI (a := 1)]
      refine g_iinc (pc9 := 52) C rfl [(1, .int (nI (v + 1))), (0, .ref (w.1 (0)))] 0 (nI (v + 1)) dX11_again_49 rfl (nI_1 (v)) (by decide) rfl ?_
      refine g_goto C 24 dX11_again_52 rfl ?_
      refine g_sub [0, 1] [(1, .int (nI (v + 1))), (0, .ref (w.1 (0)))] rfl ?_
      refine g_st (σ9 := sI (sN σ (0) 0 (nI (0))) (1) (apB (fun k => wB (iA σ 11 k)) (iA σ 1) L (v + 1))) (by rw [← apB_s]) ?_
      exact ih (v + 1) (by omega) (by omega)
  · replace c_1 := (not_congr (nI_leI (by omega) (by omega))).mp c_1
    refine g_iconst (pc9 := 21) C rfl ((-1)) dX11_again_20 rfl ?_
    exact g_ireturn C hr hlk dX11_again_21 (by show maiR σ L M _ _; rw [maiR, if_neg (by omega)]; exact ⟨rfl, rfl⟩)
set_option maxRecDepth 100000 in
set_option maxHeartbeats 4000000 in
theorem m_X11_clear (l : Launch) (w : Wd) (σ : St) (hM : ∀ i, i < 8 → mtOk σ i) (x : Int32) : MI l yX11_clear wsX11_clear (rmL 2) w [.ref (w.1 (0)), .int (x)] (σ) (fun r σ9 => (¬ okI 8 x ∧ σ9 = mT σ 1) ∨ (∃ i, i < 8 ∧ x = nI i ∧ σ9 = sI (mT σ 0) 2 (upd (iA σ 2) i (nI 0)) ∧ r = pI (0 < mN σ i))) := by
  refine MI_of (cc := cX11_clear) (maxL := 3) (ret := .boolean) (by decide) rfl (Nat.le_of_ble_eq_true rfl) ?_
  intro p e s m args below meth c A C hr hlk
  have C : Cx p s m args c w A cX11_clear RX11 3 wsX11_clear := C
  have hin_11 : ∀ u ∈ wsX110, u ∈ wsX11_clear := by decide +kernel
  have hl_17 : Cond.fieldLink RX11 17 "LineageBenchModel" "many" "[I" ∈ wsX11_clear := by decide +kernel
  have hl_107 : Cond.fieldLink RX11 107 "LineageBenchModel" "thrown" "I" ∈ wsX11_clear := by decide +kernel
  refine g_aload_n (pc9 := 1) C rfl 0 dX11_clear_0 rfl rfl ?_
  refine g_iconst (pc9 := 2) C rfl (nI (0)) dX11_clear_1 rfl ?_
  refine g_put (pc9 := 5) C rfl (0) 0 dX11_clear_2 (by decide) (ce_0 w (σ)) (rfl) hin_11 hl_107 tyX11 tyX11_ok nmX11 rfl (by decide) rfl rfl rfl (Nat.le_of_ble_eq_true rfl) ?_
  refine g_aload_n (pc9 := 6) C rfl 0 dX11_clear_5 rfl rfl ?_
  refine g_iload_n (pc9 := 7) C rfl 1 dX11_clear_6 rfl rfl ?_
  refine g_callSi (nn := 1) (rest := [.ref (w.1 (0))]) (pc9 := 10) C rfl [.int (x)] rfl dX11_clear_7 (m_X11_noShelf l w (sN σ (0) 0 (nI (0))) x) gX11_clear_X11_noShelf rfl rfl rfl (by decide +kernel) ⟨by decide, by decide⟩ rfl (Nat.le_of_ble_eq_true rfl) ⟨by decide, by decide⟩ (fun r_1 σ_1 q_1 => ?_)
  obtain ⟨qs_1, qr_1⟩ := q_1
  rw [qs_1, qr_1]
  clear qs_1 qr_1
  refine g_iconst (pc9 := 11) C rfl (nI (1)) dX11_clear_10 rfl ?_
  refine g_callVi (nn := 2) (rest := []) (pc9 := 14) C rfl (0) [.int (pI (¬ okI 8 x)), .int (nI (1))] rfl dX11_clear_11 (m_throwsP l w (sN σ (0) 0 (nI (0))) (¬ okI 8 x) 1) gX11_clear_X11_throwsIf (by decide) (ce_0 w (sN σ (0) 0 (nI (0)))) rfl rfl rfl rfl rfl (by decide +kernel) ⟨by decide, by decide⟩ rfl (Nat.le_of_ble_eq_true rfl) ⟨by decide, by decide⟩ (fun r_2 σ_2 q_2 => ?_)
  obtain ⟨qr_2, qt_2, qf_2⟩ := q_2
  rw [qr_2]
  refine g_if_eq (pc9 := 17) C rfl 19 dX11_clear_14 rfl (fun c_3 => ?_) (fun c_3 => ?_)
  · have hns : ¬ (¬ okI 8 x) := pI_no c_3
    rw [qf_2 hns]
    obtain ⟨i, hb_i, hx_i⟩ := Classical.not_not.mp hns
    subst hx_i
    refine g_aload_n (pc9 := 20) C rfl 0 dX11_clear_19 rfl rfl ?_
    refine g_get (v := .ref (w.1 (2))) (pc9 := 23) C rfl (0) 5 dX11_clear_20 (by decide) (ce_0 w (sN σ (0) 0 (nI (0)))) hin_11 hl_17 rfl (by decide) rfl rfl ?_
    refine g_iload_n (pc9 := 24) C rfl 1 dX11_clear_23 rfl rfl ?_
    refine g_iald (x := nI (mN σ (i))) (pc9 := 25) C rfl (2) (i) dX11_clear_24 (by decide) (ce_2 w (sN σ (0) 0 (nI (0)))) rfl (by omega) (by decide) ((congrFun (iA_N) _).trans (hM i hb_i).1) ?_
    have h47 := (hM i hb_i).2.1
    refine g_if_le (pc9 := 28) C rfl 32 dX11_clear_25 rfl (fun c_4 => ?_) (fun c_4 => ?_)
    · replace c_4 := (z_le (by omega)).mp c_4
      refine g_iconst (pc9 := 33) C rfl (nI (0)) dX11_clear_32 rfl ?_
      refine g_istore_n (pc9 := 34) C rfl [(2, .int (nI (0))), (0, .ref (w.1 (0))), (1, .int (nI (i)))] dX11_clear_33 rfl (by decide) rfl ?_
      refine g_aload_n (pc9 := 35) C rfl 1 dX11_clear_34 rfl rfl ?_
      refine g_get (v := .ref (w.1 (2))) (pc9 := 38) C rfl (0) 5 dX11_clear_35 (by decide) (ce_0 w (sN σ (0) 0 (nI (0)))) hin_11 hl_17 rfl (by decide) rfl rfl ?_
      refine g_iload_n (pc9 := 39) C rfl 2 dX11_clear_38 rfl rfl ?_
      refine g_iconst (pc9 := 40) C rfl (nI (0)) dX11_clear_39 rfl ?_
      refine g_iast (pc9 := 41) C rfl (2) (i) (iA σ (2)) dX11_clear_40 (by decide) (fun _ => rfl) (ce_2 w (sN σ (0) 0 (nI (0)))) rfl (by omega) (by decide) (iA_N) ?_
      refine g_iload_n (pc9 := 42) C rfl 0 dX11_clear_41 rfl rfl ?_
      exact g_zreturn C hr hlk dX11_clear_42 (by decide) (Or.inr ⟨i, hb_i, rfl, rfl, by first | exact (pI_t (by omega)).symm | exact (pI_f (by omega)).symm⟩)
    · replace c_4 := (not_congr (z_le (by omega))).mp c_4
      refine g_iconst (pc9 := 29) C rfl (nI (1)) dX11_clear_28 rfl ?_
      refine g_goto C 33 dX11_clear_29 rfl ?_
      refine g_istore_n (pc9 := 34) C rfl [(2, .int (nI (1))), (0, .ref (w.1 (0))), (1, .int (nI (i)))] dX11_clear_33 rfl (by decide) rfl ?_
      refine g_aload_n (pc9 := 35) C rfl 1 dX11_clear_34 rfl rfl ?_
      refine g_get (v := .ref (w.1 (2))) (pc9 := 38) C rfl (0) 5 dX11_clear_35 (by decide) (ce_0 w (sN σ (0) 0 (nI (0)))) hin_11 hl_17 rfl (by decide) rfl rfl ?_
      refine g_iload_n (pc9 := 39) C rfl 2 dX11_clear_38 rfl rfl ?_
      refine g_iconst (pc9 := 40) C rfl (nI (0)) dX11_clear_39 rfl ?_
      refine g_iast (pc9 := 41) C rfl (2) (i) (iA σ (2)) dX11_clear_40 (by decide) (fun _ => rfl) (ce_2 w (sN σ (0) 0 (nI (0)))) rfl (by omega) (by decide) (iA_N) ?_
      refine g_iload_n (pc9 := 42) C rfl 0 dX11_clear_41 rfl rfl ?_
      exact g_zreturn C hr hlk dX11_clear_42 (by decide) (Or.inr ⟨i, hb_i, rfl, rfl, by first | exact (pI_t (by omega)).symm | exact (pI_f (by omega)).symm⟩)
  · have hns : ¬ okI 8 x := pI_ye c_3
    refine g_st (σ9 := sN σ (0) 0 (nI (1))) ((qt_2 hns).trans (by show sN (sN σ (0) 0 (nI (0))) (0) 0 (nI (1)) = sN σ (0) 0 (nI (1)); rw [sN_sN])) ?_
    refine g_iconst (pc9 := 18) C rfl (nI (0)) dX11_clear_17 rfl ?_
    exact g_zreturn C hr hlk dX11_clear_18 (by decide) (Or.inl ⟨hns, rfl⟩)

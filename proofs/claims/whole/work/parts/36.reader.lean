/-! Reader: commas at 35, open 34.1, leaves 34.2, phase 34.3; a reading is (open, leaves, phase, commas) -/
abbrev letP (x : Int32) : Prop := ¬ x < nI 97 ∧ ¬ nI 109 ≤ x
abbrev RdS : Type := Nat × Nat × Nat × (Nat → Int32)
abbrev rdSt (σ : St) (r : RdS) : St := sN (sN (sN (sI σ 35 r.2.2.2) 34 1 (nI r.1)) 34 2 (nI r.2.1)) 34 3 (nI r.2.2.1)
def rdN (x : Int32) (o lf ph : Nat) (c : Nat → Int32) : Int32 × RdS := if x = nI 40 then (if o < 23 then (nI 0, o + 1, lf, ph, upd c o (nI 0)) else (nI 2, o, lf, ph, c)) else if letP x then (if lf < 24 then (nI 0, o, lf + 1, 1, c) else (nI 2, o, lf, ph, c)) else (nI 1, o, lf, ph, c)
def rdE (x : Int32) (o lf ph : Nat) (c : Nat → Int32) : Int32 × RdS := if x = nI 59 then (nI 0, o, lf, 2, c) else (nI 1, o, lf, ph, c)
def rdB (x : Int32) (o lf ph : Nat) (c : Nat → Int32) : Int32 × RdS := if x = nI 44 then (nI 0, o, lf, 0, upd c (o - 1) (c (o - 1) + nI 1)) else if x = nI 41 then (if c (o - 1) ≤ 0 then (nI 1, o, lf, ph, c) else (nI 0, o - 1, lf, ph, c)) else (nI 1, o, lf, ph, c)
def rdA (x : Int32) (o lf ph : Nat) (c : Nat → Int32) : Int32 × RdS := if x = nI 32 then (nI 0, o, lf, ph, c) else if ph = 0 then rdN x o lf ph c else if ph = 1 then (if o = 0 then rdE x o lf ph c else rdB x o lf ph c) else (nI 1, o, lf, ph, c)
set_option maxRecDepth 100000 in
set_option maxHeartbeats 4000000 in
theorem m_X3_isKindLetter (l : Launch) (w : Wd) (σ : St) (x : Int32) : MI l yX3_isKindLetter wsX3_isKindLetter (rmL 1) w [.int (x)] (σ) (fun r σ9 => σ9 = σ ∧ r = pI (letP x)) := by
  refine MI_of (cc := cX3_isKindLetter) (maxL := 1) (ret := .boolean) (by decide) rfl (Nat.le_of_ble_eq_true rfl) ?_
  intro p e s m args below meth c A C hr hlk
  have C : Cx p s m args c w A cX3_isKindLetter RX3 1 wsX3_isKindLetter := C
  refine g_iload_n (pc9 := 1) C rfl 0 dX3_isKindLetter_0 rfl rfl ?_
  refine g_bipush (pc9 := 3) C rfl (nI (97)) dX3_isKindLetter_1 rfl ?_
  refine g_icmp_lt (pc9 := 6) C rfl 16 dX3_isKindLetter_3 rfl (fun c_1 => ?_) (fun c_1 => ?_)
  · refine g_iconst (pc9 := 17) C rfl (nI (0)) dX3_isKindLetter_16 rfl ?_
    exact g_zreturn C hr hlk dX3_isKindLetter_17 (by decide) ⟨rfl, by first | exact (pI_t ⟨by assumption, by assumption⟩).symm | exact (pI_f (fun h => by first | exact h.1 (by assumption) | exact h.2 (by assumption))).symm⟩
  · refine g_iload_n (pc9 := 7) C rfl 0 dX3_isKindLetter_6 rfl rfl ?_
    refine g_bipush (pc9 := 9) C rfl (nI (109)) dX3_isKindLetter_7 rfl ?_
    refine g_icmp_ge (pc9 := 12) C rfl 16 dX3_isKindLetter_9 rfl (fun c_2 => ?_) (fun c_2 => ?_)
    · refine g_iconst (pc9 := 17) C rfl (nI (0)) dX3_isKindLetter_16 rfl ?_
      exact g_zreturn C hr hlk dX3_isKindLetter_17 (by decide) ⟨rfl, by first | exact (pI_t ⟨by assumption, by assumption⟩).symm | exact (pI_f (fun h => by first | exact h.1 (by assumption) | exact h.2 (by assumption))).symm⟩
    · refine g_iconst (pc9 := 13) C rfl (nI (1)) dX3_isKindLetter_12 rfl ?_
      refine g_goto C 17 dX3_isKindLetter_13 rfl ?_
      exact g_zreturn C hr hlk dX3_isKindLetter_17 (by decide) ⟨rfl, by first | exact (pI_t ⟨by assumption, by assumption⟩).symm | exact (pI_f (fun h => by first | exact h.1 (by assumption) | exact h.2 (by assumption))).symm⟩
set_option maxRecDepth 100000 in
set_option maxHeartbeats 4000000 in
theorem m_X3_faultOfNode (l : Launch) (w : Wd) (σ : St) (c9 : Nat → Int32) (o lf ph : Nat) (ho : o ≤ 23) (hlf : lf ≤ 24) (hph : ph ≤ 2) (x : Int32) : MI l yX3_faultOfNode wsX3_faultOfNode (rmL 2) w [.ref (w.1 (34)), .int (x)] (sN (sN (sN (sI σ (35) (c9)) (34) 1 (nI (o))) (34) 2 (nI (lf))) (34) 3 (nI (ph))) (fun r σ9 => σ9 = rdSt σ (rdN x o lf ph c9).2 ∧ r = (rdN x o lf ph c9).1) := by
  refine MI_of (cc := cX3_faultOfNode) (maxL := 2) (ret := .int) (by decide) rfl (Nat.le_of_ble_eq_true rfl) ?_
  intro p e s m args below meth c A C hr hlk
  have C : Cx p s m args c w A cX3_faultOfNode RX3 2 wsX3_faultOfNode := C
  have hin_3 : ∀ u ∈ wsX30, u ∈ wsX3_faultOfNode := by decide +kernel
  have hl_9 : Cond.fieldLink RX3 9 "LineageBench$Reader" "commas" "[I" ∈ wsX3_faultOfNode := by decide +kernel
  have hl_19 : Cond.fieldLink RX3 19 "LineageBench$Reader" "open" "I" ∈ wsX3_faultOfNode := by decide +kernel
  have hl_22 : Cond.fieldLink RX3 22 "LineageBench$Reader" "leaves" "I" ∈ wsX3_faultOfNode := by decide +kernel
  have hl_25 : Cond.fieldLink RX3 25 "LineageBench$Reader" "phase" "I" ∈ wsX3_faultOfNode := by decide +kernel
  refine g_iload_n (pc9 := 1) C rfl 1 dX3_faultOfNode_0 rfl rfl ?_
  refine g_bipush (pc9 := 3) C rfl (nI (40)) dX3_faultOfNode_1 rfl ?_
  refine g_icmp_ne (pc9 := 6) C rfl 39 dX3_faultOfNode_3 rfl (fun c_1 => ?_) (fun c_1 => ?_)
  · refine g_iload_n (pc9 := 40) C rfl 1 dX3_faultOfNode_39 rfl rfl ?_
    refine g_callSi (nn := 1) (rest := []) (pc9 := 43) C rfl [.int (x)] rfl dX3_faultOfNode_40 (m_X3_isKindLetter l w (sN (sN (sN (sI σ (35) (c9)) (34) 1 (nI (o))) (34) 2 (nI (lf))) (34) 3 (nI (ph))) x) gX3_faultOfNode_X3_isKindLetter rfl rfl rfl (by decide +kernel) ⟨by decide, by decide⟩ rfl (Nat.le_of_ble_eq_true rfl) ⟨by decide, by decide⟩ (fun r_2 σ_2 q_2 => ?_)
    obtain ⟨qs_2, qr_2⟩ := q_2
    rw [qs_2, qr_2]
    clear qs_2 qr_2
    refine g_if_ne (pc9 := 46) C rfl 48 dX3_faultOfNode_43 rfl (fun c_3 => ?_) (fun c_3 => ?_)
    · have hle : letP x := pI_ye c_3
      refine g_aload_n (pc9 := 49) C rfl 0 dX3_faultOfNode_48 rfl rfl ?_
      refine g_get (v := .int (nI (lf))) (pc9 := 52) C rfl (34) 2 dX3_faultOfNode_49 (by decide) (ce_34 w (sN (sN (sN (sI σ (35) (c9)) (34) 1 (nI (o))) (34) 2 (nI (lf))) (34) 3 (nI (ph)))) hin_3 hl_22 rfl (by decide) rfl (congrArg (fun z => some (Value.int z)) ((nF_k (k := 3) (k9 := 2) (by decide)).trans (nF_s))) ?_
      refine g_bipush (pc9 := 54) C rfl (nI (24)) dX3_faultOfNode_52 rfl ?_
      refine g_icmp_lt (pc9 := 57) C rfl 59 dX3_faultOfNode_54 rfl (fun c_4 => ?_) (fun c_4 => ?_)
      · replace c_4 := (nI_ltI (by omega) (by omega)).mp c_4
        refine g_aload_n (pc9 := 60) C rfl 0 dX3_faultOfNode_59 rfl rfl ?_
        refine g_dup (pc9 := 61) C rfl dX3_faultOfNode_60 rfl ?_
        refine g_get (v := .int (nI (lf))) (pc9 := 64) C rfl (34) 2 dX3_faultOfNode_61 (by decide) (ce_34 w (sN (sN (sN (sI σ (35) (c9)) (34) 1 (nI (o))) (34) 2 (nI (lf))) (34) 3 (nI (ph)))) hin_3 hl_22 rfl (by decide) rfl (congrArg (fun z => some (Value.int z)) ((nF_k (k := 3) (k9 := 2) (by decide)).trans (nF_s))) ?_
        refine g_iconst (pc9 := 65) C rfl (nI (1)) dX3_faultOfNode_64 rfl ?_
        refine g_iaddN (pc9 := 66) C rfl dX3_faultOfNode_65 ?_
        refine g_put (pc9 := 69) C rfl (34) 2 dX3_faultOfNode_66 (by decide) (ce_34 w (sN (sN (sN (sI σ (35) (c9)) (34) 1 (nI (o))) (34) 2 (nI (lf))) (34) 3 (nI (ph)))) (rfl) hin_3 hl_22 tyX3 tyX3_ok nmX3 rfl (by decide) rfl rfl rfl (Nat.le_of_ble_eq_true rfl) ?_
        rw [sN_cm (a := 34) (k := 3) (b := 34) (k9 := 2) (Or.inr (by decide)), sN_sN]
        refine g_aload_n (pc9 := 70) C rfl 0 dX3_faultOfNode_69 rfl rfl ?_
        refine g_iconst (pc9 := 71) C rfl (nI (1)) dX3_faultOfNode_70 rfl ?_
        refine g_put (pc9 := 74) C rfl (34) 3 dX3_faultOfNode_71 (by decide) (ce_34 w (sN (sN (sN (sI σ (35) (c9)) (34) 1 (nI (o))) (34) 2 (nI (lf + 1))) (34) 3 (nI (ph)))) (rfl) hin_3 hl_25 tyX3 tyX3_ok nmX3 rfl (by decide) rfl rfl rfl (Nat.le_of_ble_eq_true rfl) ?_
        rw [sN_sN]
        refine g_iconst (pc9 := 75) C rfl (nI (0)) dX3_faultOfNode_74 rfl ?_
        exact g_ireturn C hr hlk dX3_faultOfNode_75 ⟨by unfold rdN; (repeat' split) <;> first | rfl | contradiction | (exfalso; omega), by unfold rdN; (repeat' split) <;> first | rfl | contradiction | (exfalso; omega)⟩
      · replace c_4 := (not_congr (nI_ltI (by omega) (by omega))).mp c_4
        refine g_iconst (pc9 := 58) C rfl (nI (2)) dX3_faultOfNode_57 rfl ?_
        exact g_ireturn C hr hlk dX3_faultOfNode_58 ⟨by unfold rdN; (repeat' split) <;> first | rfl | contradiction | (exfalso; omega), by unfold rdN; (repeat' split) <;> first | rfl | contradiction | (exfalso; omega)⟩
    · have hle : ¬ letP x := pI_no c_3
      refine g_iconst (pc9 := 47) C rfl (nI (1)) dX3_faultOfNode_46 rfl ?_
      exact g_ireturn C hr hlk dX3_faultOfNode_47 ⟨by unfold rdN; (repeat' split) <;> first | rfl | contradiction | (exfalso; omega), by unfold rdN; (repeat' split) <;> first | rfl | contradiction | (exfalso; omega)⟩
  · refine g_aload_n (pc9 := 7) C rfl 0 dX3_faultOfNode_6 rfl rfl ?_
    refine g_get (v := .int (nI (o))) (pc9 := 10) C rfl (34) 1 dX3_faultOfNode_7 (by decide) (ce_34 w (sN (sN (sN (sI σ (35) (c9)) (34) 1 (nI (o))) (34) 2 (nI (lf))) (34) 3 (nI (ph)))) hin_3 hl_19 rfl (by decide) rfl (congrArg (fun z => some (Value.int z)) (((nF_k (k := 3) (k9 := 1) (by decide)).trans (nF_k (k := 2) (k9 := 1) (by decide))).trans (nF_s))) ?_
    refine g_bipush (pc9 := 12) C rfl (nI (23)) dX3_faultOfNode_10 rfl ?_
    refine g_icmp_lt (pc9 := 15) C rfl 17 dX3_faultOfNode_12 rfl (fun c_5 => ?_) (fun c_5 => ?_)
    · replace c_5 := (nI_ltI (by omega) (by omega)).mp c_5
      refine g_aload_n (pc9 := 18) C rfl 0 dX3_faultOfNode_17 rfl rfl ?_
      refine g_get (v := .ref (w.1 (35))) (pc9 := 21) C rfl (34) 0 dX3_faultOfNode_18 (by decide) (ce_34 w (sN (sN (sN (sI σ (35) (c9)) (34) 1 (nI (o))) (34) 2 (nI (lf))) (34) 3 (nI (ph)))) hin_3 hl_9 rfl (by decide) rfl rfl ?_
      refine g_aload_n (pc9 := 22) C rfl 0 dX3_faultOfNode_21 rfl rfl ?_
      refine g_get (v := .int (nI (o))) (pc9 := 25) C rfl (34) 1 dX3_faultOfNode_22 (by decide) (ce_34 w (sN (sN (sN (sI σ (35) (c9)) (34) 1 (nI (o))) (34) 2 (nI (lf))) (34) 3 (nI (ph)))) hin_3 hl_19 rfl (by decide) rfl (congrArg (fun z => some (Value.int z)) (((nF_k (k := 3) (k9 := 1) (by decide)).trans (nF_k (k := 2) (k9 := 1) (by decide))).trans (nF_s))) ?_
      refine g_iconst (pc9 := 26) C rfl (nI (0)) dX3_faultOfNode_25 rfl ?_
      refine g_iast (pc9 := 27) C rfl (35) (o) (c9) dX3_faultOfNode_26 (by decide) (fun _ => rfl) (ce_35 w (sN (sN (sN (sI σ (35) (c9)) (34) 1 (nI (o))) (34) 2 (nI (lf))) (34) 3 (nI (ph)))) rfl (by omega) (by decide) ((((iA_N).trans (iA_N)).trans (iA_N)).trans (iA_s)) ?_
      rw [sI_sN (a := 34) (k := 3) (b := 35), sI_sN (a := 34) (k := 2) (b := 35), sI_sN (a := 34) (k := 1) (b := 35), sI_sI (a := 35)]
      refine g_aload_n (pc9 := 28) C rfl 0 dX3_faultOfNode_27 rfl rfl ?_
      refine g_dup (pc9 := 29) C rfl dX3_faultOfNode_28 rfl ?_
      refine g_get (v := .int (nI (o))) (pc9 := 32) C rfl (34) 1 dX3_faultOfNode_29 (by decide) (ce_34 w (sN (sN (sN (sI σ (35) (upd (c9) (o) (nI (0)))) (34) 1 (nI (o))) (34) 2 (nI (lf))) (34) 3 (nI (ph)))) hin_3 hl_19 rfl (by decide) rfl (congrArg (fun z => some (Value.int z)) (((nF_k (k := 3) (k9 := 1) (by decide)).trans (nF_k (k := 2) (k9 := 1) (by decide))).trans (nF_s))) ?_
      refine g_iconst (pc9 := 33) C rfl (nI (1)) dX3_faultOfNode_32 rfl ?_
      refine g_iaddN (pc9 := 34) C rfl dX3_faultOfNode_33 ?_
      refine g_put (pc9 := 37) C rfl (34) 1 dX3_faultOfNode_34 (by decide) (ce_34 w (sN (sN (sN (sI σ (35) (upd (c9) (o) (nI (0)))) (34) 1 (nI (o))) (34) 2 (nI (lf))) (34) 3 (nI (ph)))) (rfl) hin_3 hl_19 tyX3 tyX3_ok nmX3 rfl (by decide) rfl rfl rfl (Nat.le_of_ble_eq_true rfl) ?_
      rw [sN_cm (a := 34) (k := 3) (b := 34) (k9 := 1) (Or.inr (by decide)), sN_cm (a := 34) (k := 2) (b := 34) (k9 := 1) (Or.inr (by decide)), sN_sN]
      refine g_iconst (pc9 := 38) C rfl (nI (0)) dX3_faultOfNode_37 rfl ?_
      exact g_ireturn C hr hlk dX3_faultOfNode_38 ⟨by unfold rdN; (repeat' split) <;> first | rfl | contradiction | (exfalso; omega), by unfold rdN; (repeat' split) <;> first | rfl | contradiction | (exfalso; omega)⟩
    · replace c_5 := (not_congr (nI_ltI (by omega) (by omega))).mp c_5
      refine g_iconst (pc9 := 16) C rfl (nI (2)) dX3_faultOfNode_15 rfl ?_
      exact g_ireturn C hr hlk dX3_faultOfNode_16 ⟨by unfold rdN; (repeat' split) <;> first | rfl | contradiction | (exfalso; omega), by unfold rdN; (repeat' split) <;> first | rfl | contradiction | (exfalso; omega)⟩
set_option maxRecDepth 100000 in
set_option maxHeartbeats 4000000 in
theorem m_X3_faultOfEnding (l : Launch) (w : Wd) (σ : St) (c9 : Nat → Int32) (o lf ph : Nat) (ho : o ≤ 23) (hlf : lf ≤ 24) (hph : ph ≤ 2) (x : Int32) : MI l yX3_faultOfEnding wsX3_faultOfEnding (rmL 1) w [.ref (w.1 (34)), .int (x)] (sN (sN (sN (sI σ (35) (c9)) (34) 1 (nI (o))) (34) 2 (nI (lf))) (34) 3 (nI (ph))) (fun r σ9 => σ9 = rdSt σ (rdE x o lf ph c9).2 ∧ r = (rdE x o lf ph c9).1) := by
  refine MI_of (cc := cX3_faultOfEnding) (maxL := 2) (ret := .int) (by decide) rfl (Nat.le_of_ble_eq_true rfl) ?_
  intro p e s m args below meth c A C hr hlk
  have C : Cx p s m args c w A cX3_faultOfEnding RX3 2 wsX3_faultOfEnding := C
  have hin_3 : ∀ u ∈ wsX30, u ∈ wsX3_faultOfEnding := by decide +kernel
  have hl_25 : Cond.fieldLink RX3 25 "LineageBench$Reader" "phase" "I" ∈ wsX3_faultOfEnding := by decide +kernel
  refine g_iload_n (pc9 := 1) C rfl 1 dX3_faultOfEnding_0 rfl rfl ?_
  refine g_bipush (pc9 := 3) C rfl (nI (59)) dX3_faultOfEnding_1 rfl ?_
  refine g_icmp_eq (pc9 := 6) C rfl 8 dX3_faultOfEnding_3 rfl (fun c_1 => ?_) (fun c_1 => ?_)
  · refine g_aload_n (pc9 := 9) C rfl 0 dX3_faultOfEnding_8 rfl rfl ?_
    refine g_iconst (pc9 := 10) C rfl (nI (2)) dX3_faultOfEnding_9 rfl ?_
    refine g_put (pc9 := 13) C rfl (34) 3 dX3_faultOfEnding_10 (by decide) (ce_34 w (sN (sN (sN (sI σ (35) (c9)) (34) 1 (nI (o))) (34) 2 (nI (lf))) (34) 3 (nI (ph)))) (rfl) hin_3 hl_25 tyX3 tyX3_ok nmX3 rfl (by decide) rfl rfl rfl (Nat.le_of_ble_eq_true rfl) ?_
    rw [sN_sN]
    refine g_iconst (pc9 := 14) C rfl (nI (0)) dX3_faultOfEnding_13 rfl ?_
    exact g_ireturn C hr hlk dX3_faultOfEnding_14 ⟨by unfold rdE; (repeat' split) <;> first | rfl | contradiction | (exfalso; omega), by unfold rdE; (repeat' split) <;> first | rfl | contradiction | (exfalso; omega)⟩
  · refine g_iconst (pc9 := 7) C rfl (nI (1)) dX3_faultOfEnding_6 rfl ?_
    exact g_ireturn C hr hlk dX3_faultOfEnding_7 ⟨by unfold rdE; (repeat' split) <;> first | rfl | contradiction | (exfalso; omega), by unfold rdE; (repeat' split) <;> first | rfl | contradiction | (exfalso; omega)⟩
set_option maxRecDepth 100000 in
set_option maxHeartbeats 4000000 in
theorem m_X3_faultInBrackets (l : Launch) (w : Wd) (σ : St) (c9 : Nat → Int32) (o lf ph : Nat) (ho : o ≤ 23) (hlf : lf ≤ 24) (hph : ph ≤ 2) (h0 : 0 < o) (x : Int32) : MI l yX3_faultInBrackets wsX3_faultInBrackets (rmL 1) w [.ref (w.1 (34)), .int (x)] (sN (sN (sN (sI σ (35) (c9)) (34) 1 (nI (o))) (34) 2 (nI (lf))) (34) 3 (nI (ph))) (fun r σ9 => σ9 = rdSt σ (rdB x o lf ph c9).2 ∧ r = (rdB x o lf ph c9).1) := by
  refine MI_of (cc := cX3_faultInBrackets) (maxL := 2) (ret := .int) (by decide) rfl (Nat.le_of_ble_eq_true rfl) ?_
  intro p e s m args below meth c A C hr hlk
  have C : Cx p s m args c w A cX3_faultInBrackets RX3 2 wsX3_faultInBrackets := C
  have hin_3 : ∀ u ∈ wsX30, u ∈ wsX3_faultInBrackets := by decide +kernel
  have hl_9 : Cond.fieldLink RX3 9 "LineageBench$Reader" "commas" "[I" ∈ wsX3_faultInBrackets := by decide +kernel
  have hl_19 : Cond.fieldLink RX3 19 "LineageBench$Reader" "open" "I" ∈ wsX3_faultInBrackets := by decide +kernel
  have hl_25 : Cond.fieldLink RX3 25 "LineageBench$Reader" "phase" "I" ∈ wsX3_faultInBrackets := by decide +kernel
  refine g_iload_n (pc9 := 1) C rfl 1 dX3_faultInBrackets_0 rfl rfl ?_
  refine g_bipush (pc9 := 3) C rfl (nI (44)) dX3_faultInBrackets_1 rfl ?_
  refine g_icmp_ne (pc9 := 6) C rfl 28 dX3_faultInBrackets_3 rfl (fun c_1 => ?_) (fun c_1 => ?_)
  · refine g_iload_n (pc9 := 29) C rfl 1 dX3_faultInBrackets_28 rfl rfl ?_
    refine g_bipush (pc9 := 31) C rfl (nI (41)) dX3_faultInBrackets_29 rfl ?_
    refine g_icmp_ne (pc9 := 34) C rfl 60 dX3_faultInBrackets_31 rfl (fun c_2 => ?_) (fun c_2 => ?_)
    · refine g_iconst (pc9 := 61) C rfl (nI (1)) dX3_faultInBrackets_60 rfl ?_
      exact g_ireturn C hr hlk dX3_faultInBrackets_61 ⟨by unfold rdB; (repeat' split) <;> first | rfl | contradiction | (exfalso; omega), by unfold rdB; (repeat' split) <;> first | rfl | contradiction | (exfalso; omega)⟩
    · refine g_aload_n (pc9 := 35) C rfl 0 dX3_faultInBrackets_34 rfl rfl ?_
      refine g_get (v := .ref (w.1 (35))) (pc9 := 38) C rfl (34) 0 dX3_faultInBrackets_35 (by decide) (ce_34 w (sN (sN (sN (sI σ (35) (c9)) (34) 1 (nI (o))) (34) 2 (nI (lf))) (34) 3 (nI (ph)))) hin_3 hl_9 rfl (by decide) rfl rfl ?_
      refine g_aload_n (pc9 := 39) C rfl 0 dX3_faultInBrackets_38 rfl rfl ?_
      refine g_get (v := .int (nI (o))) (pc9 := 42) C rfl (34) 1 dX3_faultInBrackets_39 (by decide) (ce_34 w (sN (sN (sN (sI σ (35) (c9)) (34) 1 (nI (o))) (34) 2 (nI (lf))) (34) 3 (nI (ph)))) hin_3 hl_19 rfl (by decide) rfl (congrArg (fun z => some (Value.int z)) (((nF_k (k := 3) (k9 := 1) (by decide)).trans (nF_k (k := 2) (k9 := 1) (by decide))).trans (nF_s))) ?_
      refine g_iconst (pc9 := 43) C rfl (nI (1)) dX3_faultInBrackets_42 rfl ?_
      refine g_isubN (pc9 := 44) C rfl dX3_faultInBrackets_43 (by omega) ?_
      refine g_iald (x := c9 (o - (1))) (pc9 := 45) C rfl (35) (o - (1)) dX3_faultInBrackets_44 (by decide) (ce_35 w (sN (sN (sN (sI σ (35) (c9)) (34) 1 (nI (o))) (34) 2 (nI (lf))) (34) 3 (nI (ph)))) rfl (by omega) (by decide) (congrFun ((((iA_N).trans (iA_N)).trans (iA_N)).trans (iA_s)) _) ?_
      refine g_if_le (pc9 := 48) C rfl 60 dX3_faultInBrackets_45 rfl (fun c_3 => ?_) (fun c_3 => ?_)
      · refine g_iconst (pc9 := 61) C rfl (nI (1)) dX3_faultInBrackets_60 rfl ?_
        exact g_ireturn C hr hlk dX3_faultInBrackets_61 ⟨by unfold rdB; (repeat' split) <;> first | rfl | contradiction | (exfalso; omega), by unfold rdB; (repeat' split) <;> first | rfl | contradiction | (exfalso; omega)⟩
      · refine g_aload_n (pc9 := 49) C rfl 0 dX3_faultInBrackets_48 rfl rfl ?_
        refine g_dup (pc9 := 50) C rfl dX3_faultInBrackets_49 rfl ?_
        refine g_get (v := .int (nI (o))) (pc9 := 53) C rfl (34) 1 dX3_faultInBrackets_50 (by decide) (ce_34 w (sN (sN (sN (sI σ (35) (c9)) (34) 1 (nI (o))) (34) 2 (nI (lf))) (34) 3 (nI (ph)))) hin_3 hl_19 rfl (by decide) rfl (congrArg (fun z => some (Value.int z)) (((nF_k (k := 3) (k9 := 1) (by decide)).trans (nF_k (k := 2) (k9 := 1) (by decide))).trans (nF_s))) ?_
        refine g_iconst (pc9 := 54) C rfl (nI (1)) dX3_faultInBrackets_53 rfl ?_
        refine g_isubN (pc9 := 55) C rfl dX3_faultInBrackets_54 (by omega) ?_
        refine g_put (pc9 := 58) C rfl (34) 1 dX3_faultInBrackets_55 (by decide) (ce_34 w (sN (sN (sN (sI σ (35) (c9)) (34) 1 (nI (o))) (34) 2 (nI (lf))) (34) 3 (nI (ph)))) (rfl) hin_3 hl_19 tyX3 tyX3_ok nmX3 rfl (by decide) rfl rfl rfl (Nat.le_of_ble_eq_true rfl) ?_
        rw [sN_cm (a := 34) (k := 3) (b := 34) (k9 := 1) (Or.inr (by decide)), sN_cm (a := 34) (k := 2) (b := 34) (k9 := 1) (Or.inr (by decide)), sN_sN]
        refine g_iconst (pc9 := 59) C rfl (nI (0)) dX3_faultInBrackets_58 rfl ?_
        exact g_ireturn C hr hlk dX3_faultInBrackets_59 ⟨by unfold rdB; (repeat' split) <;> first | rfl | contradiction | (exfalso; omega), by unfold rdB; (repeat' split) <;> first | rfl | contradiction | (exfalso; omega)⟩
  · refine g_aload_n (pc9 := 7) C rfl 0 dX3_faultInBrackets_6 rfl rfl ?_
    refine g_get (v := .ref (w.1 (35))) (pc9 := 10) C rfl (34) 0 dX3_faultInBrackets_7 (by decide) (ce_34 w (sN (sN (sN (sI σ (35) (c9)) (34) 1 (nI (o))) (34) 2 (nI (lf))) (34) 3 (nI (ph)))) hin_3 hl_9 rfl (by decide) rfl rfl ?_
    refine g_aload_n (pc9 := 11) C rfl 0 dX3_faultInBrackets_10 rfl rfl ?_
    refine g_get (v := .int (nI (o))) (pc9 := 14) C rfl (34) 1 dX3_faultInBrackets_11 (by decide) (ce_34 w (sN (sN (sN (sI σ (35) (c9)) (34) 1 (nI (o))) (34) 2 (nI (lf))) (34) 3 (nI (ph)))) hin_3 hl_19 rfl (by decide) rfl (congrArg (fun z => some (Value.int z)) (((nF_k (k := 3) (k9 := 1) (by decide)).trans (nF_k (k := 2) (k9 := 1) (by decide))).trans (nF_s))) ?_
    refine g_iconst (pc9 := 15) C rfl (nI (1)) dX3_faultInBrackets_14 rfl ?_
    refine g_isubN (pc9 := 16) C rfl dX3_faultInBrackets_15 (by omega) ?_
    refine g_dup2 (pc9 := 17) C rfl dX3_faultInBrackets_16 rfl rfl ?_
    refine g_iald (x := c9 (o - (1))) (pc9 := 18) C rfl (35) (o - (1)) dX3_faultInBrackets_17 (by decide) (ce_35 w (sN (sN (sN (sI σ (35) (c9)) (34) 1 (nI (o))) (34) 2 (nI (lf))) (34) 3 (nI (ph)))) rfl (by omega) (by decide) (congrFun ((((iA_N).trans (iA_N)).trans (iA_N)).trans (iA_s)) _) ?_
    refine g_iconst (pc9 := 19) C rfl (nI (1)) dX3_faultInBrackets_18 rfl ?_
    refine g_iadd (pc9 := 20) C rfl dX3_faultInBrackets_19 ?_
    refine g_iast (pc9 := 21) C rfl (35) (o - (1)) (c9) dX3_faultInBrackets_20 (by decide) (fun _ => rfl) (ce_35 w (sN (sN (sN (sI σ (35) (c9)) (34) 1 (nI (o))) (34) 2 (nI (lf))) (34) 3 (nI (ph)))) rfl (by omega) (by decide) ((((iA_N).trans (iA_N)).trans (iA_N)).trans (iA_s)) ?_
    rw [sI_sN (a := 34) (k := 3) (b := 35), sI_sN (a := 34) (k := 2) (b := 35), sI_sN (a := 34) (k := 1) (b := 35), sI_sI (a := 35)]
    refine g_aload_n (pc9 := 22) C rfl 0 dX3_faultInBrackets_21 rfl rfl ?_
    refine g_iconst (pc9 := 23) C rfl (nI (0)) dX3_faultInBrackets_22 rfl ?_
    refine g_put (pc9 := 26) C rfl (34) 3 dX3_faultInBrackets_23 (by decide) (ce_34 w (sN (sN (sN (sI σ (35) (upd (c9) (o - (1)) ((c9 (o - (1))) + (nI (1))))) (34) 1 (nI (o))) (34) 2 (nI (lf))) (34) 3 (nI (ph)))) (rfl) hin_3 hl_25 tyX3 tyX3_ok nmX3 rfl (by decide) rfl rfl rfl (Nat.le_of_ble_eq_true rfl) ?_
    rw [sN_sN]
    refine g_iconst (pc9 := 27) C rfl (nI (0)) dX3_faultInBrackets_26 rfl ?_
    exact g_ireturn C hr hlk dX3_faultInBrackets_27 ⟨by unfold rdB; (repeat' split) <;> first | rfl | contradiction | (exfalso; omega), by unfold rdB; (repeat' split) <;> first | rfl | contradiction | (exfalso; omega)⟩
set_option maxRecDepth 100000 in
set_option maxHeartbeats 4000000 in
theorem m_X3_faultAt (l : Launch) (w : Wd) (σ : St) (c9 : Nat → Int32) (o lf ph : Nat) (ho : o ≤ 23) (hlf : lf ≤ 24) (hph : ph ≤ 2) (x : Int32) : MI l yX3_faultAt wsX3_faultAt (rmL 3) w [.ref (w.1 (34)), .int (x)] (sN (sN (sN (sI σ (35) (c9)) (34) 1 (nI (o))) (34) 2 (nI (lf))) (34) 3 (nI (ph))) (fun r σ9 => σ9 = rdSt σ (rdA x o lf ph c9).2 ∧ r = (rdA x o lf ph c9).1) := by
  refine MI_of (cc := cX3_faultAt) (maxL := 2) (ret := .int) (by decide) rfl (Nat.le_of_ble_eq_true rfl) ?_
  intro p e s m args below meth c A C hr hlk
  have C : Cx p s m args c w A cX3_faultAt RX3 2 wsX3_faultAt := C
  have hin_3 : ∀ u ∈ wsX30, u ∈ wsX3_faultAt := by decide +kernel
  have hl_19 : Cond.fieldLink RX3 19 "LineageBench$Reader" "open" "I" ∈ wsX3_faultAt := by decide +kernel
  have hl_25 : Cond.fieldLink RX3 25 "LineageBench$Reader" "phase" "I" ∈ wsX3_faultAt := by decide +kernel
  refine g_iload_n (pc9 := 1) C rfl 1 dX3_faultAt_0 rfl rfl ?_
  refine g_bipush (pc9 := 3) C rfl (nI (32)) dX3_faultAt_1 rfl ?_
  refine g_icmp_ne (pc9 := 6) C rfl 8 dX3_faultAt_3 rfl (fun c_1 => ?_) (fun c_1 => ?_)
  · refine g_aload_n (pc9 := 9) C rfl 0 dX3_faultAt_8 rfl rfl ?_
    refine g_get (v := .int (nI (ph))) (pc9 := 12) C rfl (34) 3 dX3_faultAt_9 (by decide) (ce_34 w (sN (sN (sN (sI σ (35) (c9)) (34) 1 (nI (o))) (34) 2 (nI (lf))) (34) 3 (nI (ph)))) hin_3 hl_25 rfl (by decide) rfl (congrArg (fun z => some (Value.int z)) (nF_s)) ?_
    refine g_if_ne (pc9 := 15) C rfl 21 dX3_faultAt_12 rfl (fun c_2 => ?_) (fun c_2 => ?_)
    · replace c_2 := (not_congr (z_eq (by omega))).mp c_2
      refine g_aload_n (pc9 := 22) C rfl 0 dX3_faultAt_21 rfl rfl ?_
      refine g_get (v := .int (nI (ph))) (pc9 := 25) C rfl (34) 3 dX3_faultAt_22 (by decide) (ce_34 w (sN (sN (sN (sI σ (35) (c9)) (34) 1 (nI (o))) (34) 2 (nI (lf))) (34) 3 (nI (ph)))) hin_3 hl_25 rfl (by decide) rfl (congrArg (fun z => some (Value.int z)) (nF_s)) ?_
      refine g_iconst (pc9 := 26) C rfl (nI (1)) dX3_faultAt_25 rfl ?_
      refine g_icmp_ne (pc9 := 29) C rfl 50 dX3_faultAt_26 rfl (fun c_3 => ?_) (fun c_3 => ?_)
      · replace c_3 := (not_congr (nI_eq (by omega) (by omega))).mp c_3
        refine g_iconst (pc9 := 51) C rfl (nI (1)) dX3_faultAt_50 rfl ?_
        exact g_ireturn C hr hlk dX3_faultAt_51 ⟨by unfold rdA; (repeat' split) <;> first | rfl | contradiction | (exfalso; omega), by unfold rdA; (repeat' split) <;> first | rfl | contradiction | (exfalso; omega)⟩
      · replace c_3 := (nI_eq (by omega) (by omega)).mp c_3
        refine g_aload_n (pc9 := 30) C rfl 0 dX3_faultAt_29 rfl rfl ?_
        refine g_get (v := .int (nI (o))) (pc9 := 33) C rfl (34) 1 dX3_faultAt_30 (by decide) (ce_34 w (sN (sN (sN (sI σ (35) (c9)) (34) 1 (nI (o))) (34) 2 (nI (lf))) (34) 3 (nI (ph)))) hin_3 hl_19 rfl (by decide) rfl (congrArg (fun z => some (Value.int z)) (((nF_k (k := 3) (k9 := 1) (by decide)).trans (nF_k (k := 2) (k9 := 1) (by decide))).trans (nF_s))) ?_
        refine g_if_ne (pc9 := 36) C rfl 44 dX3_faultAt_33 rfl (fun c_4 => ?_) (fun c_4 => ?_)
        · replace c_4 := (not_congr (z_eq (by omega))).mp c_4
          refine g_aload_n (pc9 := 45) C rfl 0 dX3_faultAt_44 rfl rfl ?_
          refine g_iload_n (pc9 := 46) C rfl 1 dX3_faultAt_45 rfl rfl ?_
          refine g_callVi (nn := 1) (rest := []) (pc9 := 49) C rfl (34) [.int (x)] rfl dX3_faultAt_46 (m_X3_faultInBrackets l w σ c9 o lf ph ho hlf hph (by omega) x) gX3_faultAt_X3_faultInBrackets (by decide) (ce_34 w (sN (sN (sN (sI σ (35) (c9)) (34) 1 (nI (o))) (34) 2 (nI (lf))) (34) 3 (nI (ph)))) rfl rfl rfl rfl rfl (by decide +kernel) ⟨by decide, by decide⟩ rfl (Nat.le_of_ble_eq_true rfl) ⟨by decide, by decide⟩ (fun r_5 σ_5 q_5 => ?_)
          obtain ⟨qs_5, qr_5⟩ := q_5
          rw [qs_5, qr_5]
          clear qs_5 qr_5
          exact g_ireturn C hr hlk dX3_faultAt_49 ⟨by unfold rdA; (repeat' split) <;> first | rfl | contradiction | (exfalso; omega), by unfold rdA; (repeat' split) <;> first | rfl | contradiction | (exfalso; omega)⟩
        · replace c_4 := (z_eq (by omega)).mp c_4
          refine g_aload_n (pc9 := 37) C rfl 0 dX3_faultAt_36 rfl rfl ?_
          refine g_iload_n (pc9 := 38) C rfl 1 dX3_faultAt_37 rfl rfl ?_
          refine g_callVi (nn := 1) (rest := []) (pc9 := 41) C rfl (34) [.int (x)] rfl dX3_faultAt_38 (m_X3_faultOfEnding l w σ c9 o lf ph ho hlf hph x) gX3_faultAt_X3_faultOfEnding (by decide) (ce_34 w (sN (sN (sN (sI σ (35) (c9)) (34) 1 (nI (o))) (34) 2 (nI (lf))) (34) 3 (nI (ph)))) rfl rfl rfl rfl rfl (by decide +kernel) ⟨by decide, by decide⟩ rfl (Nat.le_of_ble_eq_true rfl) ⟨by decide, by decide⟩ (fun r_6 σ_6 q_6 => ?_)
          obtain ⟨qs_6, qr_6⟩ := q_6
          rw [qs_6, qr_6]
          clear qs_6 qr_6
          refine g_goto C 49 dX3_faultAt_41 rfl ?_
          exact g_ireturn C hr hlk dX3_faultAt_49 ⟨by unfold rdA; (repeat' split) <;> first | rfl | contradiction | (exfalso; omega), by unfold rdA; (repeat' split) <;> first | rfl | contradiction | (exfalso; omega)⟩
    · replace c_2 := (z_eq (by omega)).mp c_2
      refine g_aload_n (pc9 := 16) C rfl 0 dX3_faultAt_15 rfl rfl ?_
      refine g_iload_n (pc9 := 17) C rfl 1 dX3_faultAt_16 rfl rfl ?_
      refine g_callVi (nn := 1) (rest := []) (pc9 := 20) C rfl (34) [.int (x)] rfl dX3_faultAt_17 (m_X3_faultOfNode l w σ c9 o lf ph ho hlf hph x) gX3_faultAt_X3_faultOfNode (by decide) (ce_34 w (sN (sN (sN (sI σ (35) (c9)) (34) 1 (nI (o))) (34) 2 (nI (lf))) (34) 3 (nI (ph)))) rfl rfl rfl rfl rfl (by decide +kernel) ⟨by decide, by decide⟩ rfl (Nat.le_of_ble_eq_true rfl) ⟨by decide, by decide⟩ (fun r_7 σ_7 q_7 => ?_)
      obtain ⟨qs_7, qr_7⟩ := q_7
      rw [qs_7, qr_7]
      clear qs_7 qr_7
      exact g_ireturn C hr hlk dX3_faultAt_20 ⟨by unfold rdA; (repeat' split) <;> first | rfl | contradiction | (exfalso; omega), by unfold rdA; (repeat' split) <;> first | rfl | contradiction | (exfalso; omega)⟩
  · refine g_iconst (pc9 := 7) C rfl (nI (0)) dX3_faultAt_6 rfl ?_
    exact g_ireturn C hr hlk dX3_faultAt_7 ⟨by unfold rdA; (repeat' split) <;> first | rfl | contradiction | (exfalso; omega), by unfold rdA; (repeat' split) <;> first | rfl | contradiction | (exfalso; omega)⟩

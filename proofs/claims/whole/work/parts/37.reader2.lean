/-! Reader: examine -/
def rdOk (r : RdS) : Prop := r.1 ≤ 23 ∧ r.2.1 ≤ 24 ∧ r.2.2.1 ≤ 2
abbrev rdR (x : Int32) (r : RdS) : Int32 × RdS := rdA x r.1 r.2.1 r.2.2.1 r.2.2.2
theorem rdR_ok {x : Int32} {r : RdS} (h : rdOk r) : rdOk (rdR x r).2 := by
  obtain ⟨o, lf, ph, c⟩ := r
  obtain ⟨h1, h2, h3⟩ := h
  dsimp only at h1 h2 h3
  unfold rdR rdA rdN rdE rdB rdOk
  (repeat' split) <;> ((try dsimp only at *); omega)
/-- the fault of the bytes from i on, its place, the reading at the end -/
def exF (f : Nat → Int32) (L : Nat) : Nat → Nat → RdS → Int32 × Int32 × RdS
  | 0, _, r => if r.2.2.1 = 2 then (nI 0, -1, r) else (nI 1, nI L, r)
  | k + 1, i, r => if (rdR (f i) r).1 = 0 then exF f L k (i + 1) (rdR (f i) r).2 else ((rdR (f i) r).1, nI i, (rdR (f i) r).2)
theorem exF_s {f : Nat → Int32} {L i : Nat} {r : RdS} (h : i < L) : exF f L (L - i) i r = if (rdR (f i) r).1 = 0 then exF f L (L - (i + 1)) (i + 1) (rdR (f i) r).2 else ((rdR (f i) r).1, nI i, (rdR (f i) r).2) := by
  rw [show L - i = (L - (i + 1)) + 1 by omega]
  rfl
abbrev rd0 (σ : St) : RdS := (0, 0, 0, iA σ 35)
abbrev exS (σ : St) (q : Int32 × Int32 × RdS) : St := sN (sN (rdSt σ q.2.2) 34 4 q.1) 34 5 q.2.1
theorem exS_cm {σ : St} (r : RdS) (a b : Int32) : rdSt (sN (sN σ 34 4 a) 34 5 b) r = sN (sN (rdSt σ r) 34 4 a) 34 5 b := by
  unfold rdSt
  rw [sI_sN, sI_sN, sN_cm (a := 34) (k := 5) (b := 34) (k9 := 1) (Or.inr (by decide)), sN_cm (a := 34) (k := 4) (b := 34) (k9 := 1) (Or.inr (by decide)), sN_cm (a := 34) (k := 5) (b := 34) (k9 := 2) (Or.inr (by decide)), sN_cm (a := 34) (k := 4) (b := 34) (k9 := 2) (Or.inr (by decide)), sN_cm (a := 34) (k := 5) (b := 34) (k9 := 3) (Or.inr (by decide)), sN_cm (a := 34) (k := 4) (b := 34) (k9 := 3) (Or.inr (by decide))]
set_option maxRecDepth 100000 in
set_option maxHeartbeats 4000000 in
theorem m_X3_examine (l : Launch) (w : Wd) (σ : St) (L : Nat) (hL : L ≤ 400) : MV l yX3_examine wsX3_examine (rmL 4) w [.ref (w.1 (34)), .ref (w.1 (32)), .int (nI (L))] (σ) (fun σ9 => σ9 = exS σ (exF (iA σ 33) L L 0 (rd0 σ))) := by
  refine MV_of (cc := cX3_examine) (maxL := 4) (by decide) rfl (Nat.le_of_ble_eq_true rfl) ?_
  intro p e s m args below meth c A C hr hlk
  have C : Cx p s m args c w A cX3_examine RX3 4 wsX3_examine := C
  have hin_3 : ∀ u ∈ wsX30, u ∈ wsX3_examine := by decide +kernel
  have hin_6 : ∀ u ∈ wsX60, u ∈ wsX3_examine := by decide +kernel
  have hl_15 : Cond.fieldLink RX3 15 "LineageBench$Reader" "faultPlace" "I" ∈ wsX3_examine := by decide +kernel
  have hl_19 : Cond.fieldLink RX3 19 "LineageBench$Reader" "open" "I" ∈ wsX3_examine := by decide +kernel
  have hl_22 : Cond.fieldLink RX3 22 "LineageBench$Reader" "leaves" "I" ∈ wsX3_examine := by decide +kernel
  have hl_25 : Cond.fieldLink RX3 25 "LineageBench$Reader" "phase" "I" ∈ wsX3_examine := by decide +kernel
  have hl_28 : Cond.fieldLink RX3 28 "LineageBench$Reader" "faultFound" "I" ∈ wsX3_examine := by decide +kernel
  have hl_31 : Cond.fieldLink RX3 31 "LineageBench$Tape" "bytes" "[I" ∈ wsX3_examine := by decide +kernel
  refine g_st (σ9 := sI σ 35 (iA σ 35)) sI_self.symm ?_
  refine g_aload_n (pc9 := 1) C rfl 0 dX3_examine_0 rfl rfl ?_
  refine g_iconst (pc9 := 2) C rfl (nI (0)) dX3_examine_1 rfl ?_
  refine g_put (pc9 := 5) C rfl (34) 1 dX3_examine_2 (by decide) (ce_34 w (sI σ (35) (iA σ 35))) (rfl) hin_3 hl_19 tyX3 tyX3_ok nmX3 rfl (by decide) rfl rfl rfl (Nat.le_of_ble_eq_true rfl) ?_
  refine g_aload_n (pc9 := 6) C rfl 0 dX3_examine_5 rfl rfl ?_
  refine g_iconst (pc9 := 7) C rfl (nI (0)) dX3_examine_6 rfl ?_
  refine g_put (pc9 := 10) C rfl (34) 2 dX3_examine_7 (by decide) (ce_34 w (sN (sI σ (35) (iA σ 35)) (34) 1 (nI (0)))) (rfl) hin_3 hl_22 tyX3 tyX3_ok nmX3 rfl (by decide) rfl rfl rfl (Nat.le_of_ble_eq_true rfl) ?_
  refine g_aload_n (pc9 := 11) C rfl 0 dX3_examine_10 rfl rfl ?_
  refine g_iconst (pc9 := 12) C rfl (nI (0)) dX3_examine_11 rfl ?_
  refine g_put (pc9 := 15) C rfl (34) 3 dX3_examine_12 (by decide) (ce_34 w (sN (sN (sI σ (35) (iA σ 35)) (34) 1 (nI (0))) (34) 2 (nI (0)))) (rfl) hin_3 hl_25 tyX3 tyX3_ok nmX3 rfl (by decide) rfl rfl rfl (Nat.le_of_ble_eq_true rfl) ?_
  refine g_aload_n (pc9 := 16) C rfl 0 dX3_examine_15 rfl rfl ?_
  refine g_iconst (pc9 := 17) C rfl (nI (0)) dX3_examine_16 rfl ?_
  refine g_put (pc9 := 20) C rfl (34) 4 dX3_examine_17 (by decide) (ce_34 w (sN (sN (sN (sI σ (35) (iA σ 35)) (34) 1 (nI (0))) (34) 2 (nI (0))) (34) 3 (nI (0)))) (rfl) hin_3 hl_28 tyX3 tyX3_ok nmX3 rfl (by decide) rfl rfl rfl (Nat.le_of_ble_eq_true rfl) ?_
  refine g_aload_n (pc9 := 21) C rfl 0 dX3_examine_20 rfl rfl ?_
  refine g_iconst (pc9 := 22) C rfl ((-1)) dX3_examine_21 rfl ?_
  refine g_put (pc9 := 25) C rfl (34) 5 dX3_examine_22 (by decide) (ce_34 w (sN (sN (sN (sN (sI σ (35) (iA σ 35)) (34) 1 (nI (0))) (34) 2 (nI (0))) (34) 3 (nI (0))) (34) 4 (nI (0)))) (rfl) hin_3 hl_15 tyX3 tyX3_ok nmX3 rfl (by decide) rfl rfl rfl (Nat.le_of_ble_eq_true rfl) ?_
  refine g_iconst (pc9 := 26) C rfl (nI (0)) dX3_examine_25 rfl ?_
  refine g_istore_n (pc9 := 27) C rfl [(3, .int (nI (0))), (0, .ref (w.1 (34))), (1, .ref (w.1 (32))), (2, .int (nI (L)))] dX3_examine_26 rfl (by decide) rfl ?_
  refine g_sub [0, 1, 2, 3] [(3, .int (nI (0))), (0, .ref (w.1 (34))), (1, .ref (w.1 (32))), (2, .int (nI (L)))] rfl ?_
  show G p l e _ s m args below meth c _ w A _ (sN (sN (sN (sN (sN (sI σ (35) ((rd0 σ).2.2.2)) (34) 1 (nI ((rd0 σ).1))) (34) 2 (nI ((rd0 σ).2.1))) (34) 3 (nI ((rd0 σ).2.2.1))) (34) 4 (nI 0)) (34) 5 (-1)) 0 0 27 _ []
  refine g_lp2 (α := Nat) (β := RdS) (fun i r9 => i ≤ L ∧ rdOk r9 ∧ exF (iA σ 33) L (L - i) i r9 = exF (iA σ 33) L L 0 (rd0 σ)) (fun i r9 => L - i) (fun i r9 => G p l e _ s m args below meth c _ w A _ (sN (sN (sN (sN (sN (sI σ (35) ((r9).2.2.2)) (34) 1 (nI ((r9).1))) (34) 2 (nI ((r9).2.1))) (34) 3 (nI ((r9).2.2.1))) (34) 4 (nI (0))) (34) 5 (-1)) 0 0 27 [(3, .int (nI (i))), (0, .ref (w.1 (34))), (1, .ref (w.1 (32))), (2, .int (nI (L)))] []) (fun i r9 hI ih => ?_) (0) (rd0 σ) ⟨Nat.zero_le _, ⟨Nat.zero_le _, Nat.zero_le _, Nat.zero_le _⟩, rfl⟩
  obtain ⟨hi, hok, hx⟩ := hI
  refine g_iload_n (pc9 := 28) C rfl 0 dX3_examine_27 rfl rfl ?_
  refine g_iload_n (pc9 := 29) C rfl 3 dX3_examine_28 rfl rfl ?_
  refine g_icmp_ge (pc9 := 32) C rfl 75 dX3_examine_29 rfl (fun c_1 => ?_) (fun c_1 => ?_)
  · replace c_1 := (nI_leI (by omega) (by omega)).mp c_1
    rw [show L - i = 0 by omega] at hx
    refine g_aload_n (pc9 := 76) C rfl 1 dX3_examine_75 rfl rfl ?_
    refine g_get (v := .int (nI (0))) (pc9 := 79) C rfl (34) 4 dX3_examine_76 (by decide) (ce_34 w (sN (sN (sN (sN (sN (sI σ (35) ((r9).2.2.2)) (34) 1 (nI ((r9).1))) (34) 2 (nI ((r9).2.1))) (34) 3 (nI ((r9).2.2.1))) (34) 4 (nI (0))) (34) 5 (-1))) hin_3 hl_28 rfl (by decide) rfl (congrArg (fun z => some (Value.int z)) ((nF_k (k := 5) (k9 := 4) (by decide)).trans (nF_s))) ?_
    refine g_if_ne (pc9 := 82) C rfl 100 dX3_examine_79 rfl (fun c_2 => ?_) (fun c_2 => ?_)
    · exact absurd c_2 (by decide)
    · have hk3 := hok.2.2
      refine g_aload_n (pc9 := 83) C rfl 1 dX3_examine_82 rfl rfl ?_
      refine g_get (v := .int (nI ((r9).2.2.1))) (pc9 := 86) C rfl (34) 3 dX3_examine_83 (by decide) (ce_34 w (sN (sN (sN (sN (sN (sI σ (35) ((r9).2.2.2)) (34) 1 (nI ((r9).1))) (34) 2 (nI ((r9).2.1))) (34) 3 (nI ((r9).2.2.1))) (34) 4 (nI (0))) (34) 5 (-1))) hin_3 hl_25 rfl (by decide) rfl (congrArg (fun z => some (Value.int z)) (((nF_k (k := 5) (k9 := 3) (by decide)).trans (nF_k (k := 4) (k9 := 3) (by decide))).trans (nF_s))) ?_
      refine g_iconst (pc9 := 87) C rfl (nI (2)) dX3_examine_86 rfl ?_
      refine g_icmp_eq (pc9 := 90) C rfl 100 dX3_examine_87 rfl (fun c_3 => ?_) (fun c_3 => ?_)
      · replace c_3 := (nI_eq (by omega) (by omega)).mp c_3
        have hph := c_3
        exact g_return C hr hlk dX3_examine_100 (by rw [← hx]; unfold exF; first | (rw [if_pos hph]; done) | (rw [if_neg hph]; done))
      · replace c_3 := (not_congr (nI_eq (by omega) (by omega))).mp c_3
        have hph := c_3
        refine g_aload_n (pc9 := 91) C rfl 1 dX3_examine_90 rfl rfl ?_
        refine g_iconst (pc9 := 92) C rfl (nI (1)) dX3_examine_91 rfl ?_
        refine g_put (pc9 := 95) C rfl (34) 4 dX3_examine_92 (by decide) (ce_34 w (sN (sN (sN (sN (sN (sI σ (35) ((r9).2.2.2)) (34) 1 (nI ((r9).1))) (34) 2 (nI ((r9).2.1))) (34) 3 (nI ((r9).2.2.1))) (34) 4 (nI (0))) (34) 5 (-1))) (rfl) hin_3 hl_28 tyX3 tyX3_ok nmX3 rfl (by decide) rfl rfl rfl (Nat.le_of_ble_eq_true rfl) ?_
        rw [sN_cm (a := 34) (k := 5) (b := 34) (k9 := 4) (Or.inr (by decide)), sN_sN]
        refine g_aload_n (pc9 := 96) C rfl 1 dX3_examine_95 rfl rfl ?_
        refine g_iload_n (pc9 := 97) C rfl 3 dX3_examine_96 rfl rfl ?_
        refine g_put (pc9 := 100) C rfl (34) 5 dX3_examine_97 (by decide) (ce_34 w (sN (sN (sN (sN (sN (sI σ (35) ((r9).2.2.2)) (34) 1 (nI ((r9).1))) (34) 2 (nI ((r9).2.1))) (34) 3 (nI ((r9).2.2.1))) (34) 4 (nI (1))) (34) 5 (-1))) (rfl) hin_3 hl_15 tyX3 tyX3_ok nmX3 rfl (by decide) rfl rfl rfl (Nat.le_of_ble_eq_true rfl) ?_
        rw [sN_sN]
        exact g_return C hr hlk dX3_examine_100 (by rw [← hx]; unfold exF; first | (rw [if_pos hph]; done) | (rw [if_neg hph]; done))
  · replace c_1 := (not_congr (nI_leI (by omega) (by omega))).mp c_1
    refine g_aload_n (pc9 := 33) C rfl 1 dX3_examine_32 rfl rfl ?_
    refine g_get (v := .int (nI (0))) (pc9 := 36) C rfl (34) 4 dX3_examine_33 (by decide) (ce_34 w (sN (sN (sN (sN (sN (sI σ (35) ((r9).2.2.2)) (34) 1 (nI ((r9).1))) (34) 2 (nI ((r9).2.1))) (34) 3 (nI ((r9).2.2.1))) (34) 4 (nI (0))) (34) 5 (-1))) hin_3 hl_28 rfl (by decide) rfl (congrArg (fun z => some (Value.int z)) ((nF_k (k := 5) (k9 := 4) (by decide)).trans (nF_s))) ?_
    refine g_if_ne (pc9 := 39) C rfl 75 dX3_examine_36 rfl (fun c_4 => ?_) (fun c_4 => ?_)
    · exact absurd c_4 (by decide)
    · refine g_aload_n (pc9 := 40) C rfl 1 dX3_examine_39 rfl rfl ?_
      refine g_aload_n (pc9 := 41) C rfl 1 dX3_examine_40 rfl rfl ?_
      refine g_aload_n (pc9 := 42) C rfl 2 dX3_examine_41 rfl rfl ?_
      refine g_get (v := .ref (w.1 (33))) (pc9 := 45) C rfl (32) 0 dX3_examine_42 (by decide) (ce_32 w (sN (sN (sN (sN (sN (sI σ (35) ((r9).2.2.2)) (34) 1 (nI ((r9).1))) (34) 2 (nI ((r9).2.1))) (34) 3 (nI ((r9).2.2.1))) (34) 4 (nI (0))) (34) 5 (-1))) hin_6 hl_31 rfl (by decide) rfl rfl ?_
      refine g_iload_n (pc9 := 46) C rfl 0 dX3_examine_45 rfl rfl ?_
      refine g_iald (x := (iA σ (33)) (i)) (pc9 := 47) C rfl (33) (i) dX3_examine_46 (by decide) (ce_33 w (sN (sN (sN (sN (sN (sI σ (35) ((r9).2.2.2)) (34) 1 (nI ((r9).1))) (34) 2 (nI ((r9).2.1))) (34) 3 (nI ((r9).2.2.1))) (34) 4 (nI (0))) (34) 5 (-1))) rfl (by omega) (by decide) (congrFun ((((((iA_N).trans (iA_N)).trans (iA_N)).trans (iA_N)).trans (iA_N)).trans (iA_n (by decide))) _) ?_
      refine g_st (exS_cm r9 (nI 0) (-1)).symm ?_
      refine g_callVi (nn := 1) (rest := [.ref (w.1 (34))]) (pc9 := 50) C rfl (34) [.int ((iA σ (33)) (i))] rfl dX3_examine_47 (m_X3_faultAt l w (sN (sN σ 34 4 (nI 0)) 34 5 (-1)) (r9.2.2.2) r9.1 r9.2.1 r9.2.2.1 hok.1 hok.2.1 hok.2.2 ((iA σ (33)) (i))) gX3_examine_X3_faultAt (by decide) (ce_34 w (sN (sN (sN (sN (sN (sI σ (35) ((r9).2.2.2)) (34) 1 (nI ((r9).1))) (34) 2 (nI ((r9).2.1))) (34) 3 (nI ((r9).2.2.1))) (34) 4 (nI (0))) (34) 5 (-1))) rfl rfl rfl rfl rfl (by decide +kernel) ⟨by decide, by decide⟩ rfl (Nat.le_of_ble_eq_true rfl) ⟨by decide, by decide⟩ (fun r_5 σ_5 q_5 => ?_)
      obtain ⟨qs_5, qr_5⟩ := q_5
      replace qs_5 : σ_5 = sN (sN (sN (sN (sN (sI σ (35) (((rdR (iA σ 33 i) r9).2).2.2.2)) (34) 1 (nI (((rdR (iA σ 33 i) r9).2).1))) (34) 2 (nI (((rdR (iA σ 33 i) r9).2).2.1))) (34) 3 (nI (((rdR (iA σ 33 i) r9).2).2.2.1))) (34) 4 (nI (0))) (34) 5 (-1) := qs_5.trans (exS_cm _ _ _)
      rw [qs_5, qr_5]
      clear qs_5 qr_5
      refine g_put (pc9 := 53) C rfl (34) 4 dX3_examine_50 (by decide) (ce_34 w (sN (sN (sN (sN (sN (sI σ (35) (((rdR (iA σ 33 i) r9).2).2.2.2)) (34) 1 (nI (((rdR (iA σ 33 i) r9).2).1))) (34) 2 (nI (((rdR (iA σ 33 i) r9).2).2.1))) (34) 3 (nI (((rdR (iA σ 33 i) r9).2).2.2.1))) (34) 4 (nI (0))) (34) 5 (-1))) (rfl) hin_3 hl_28 tyX3 tyX3_ok nmX3 rfl (by decide) rfl rfl rfl (Nat.le_of_ble_eq_true rfl) ?_
      rw [sN_cm (a := 34) (k := 5) (b := 34) (k9 := 4) (Or.inr (by decide)), sN_sN]
      refine g_aload_n (pc9 := 54) C rfl 1 dX3_examine_53 rfl rfl ?_
      refine g_aload_n (pc9 := 55) C rfl 1 dX3_examine_54 rfl rfl ?_
      refine g_get (v := .int ((rdR (iA σ 33 i) r9).1)) (pc9 := 58) C rfl (34) 4 dX3_examine_55 (by decide) (ce_34 w (sN (sN (sN (sN (sN (sI σ (35) (((rdR (iA σ 33 i) r9).2).2.2.2)) (34) 1 (nI (((rdR (iA σ 33 i) r9).2).1))) (34) 2 (nI (((rdR (iA σ 33 i) r9).2).2.1))) (34) 3 (nI (((rdR (iA σ 33 i) r9).2).2.2.1))) (34) 4 ((rdR (iA σ 33 i) r9).1)) (34) 5 (-1))) hin_3 hl_28 rfl (by decide) rfl (congrArg (fun z => some (Value.int z)) ((nF_k (k := 5) (k9 := 4) (by decide)).trans (nF_s))) ?_
      refine g_if_ne (pc9 := 61) C rfl 65 dX3_examine_58 rfl (fun c_6 => ?_) (fun c_6 => ?_)
      · have c_Z := c_6
        refine g_iload_n (pc9 := 66) C rfl 0 dX3_examine_65 rfl rfl ?_
        refine g_put (pc9 := 69) C rfl (34) 5 dX3_examine_66 (by decide) (ce_34 w (sN (sN (sN (sN (sN (sI σ (35) (((rdR (iA σ 33 i) r9).2).2.2.2)) (34) 1 (nI (((rdR (iA σ 33 i) r9).2).1))) (34) 2 (nI (((rdR (iA σ 33 i) r9).2).2.1))) (34) 3 (nI (((rdR (iA σ 33 i) r9).2).2.2.1))) (34) 4 ((rdR (iA σ 33 i) r9).1)) (34) 5 (-1))) (rfl) hin_3 hl_15 tyX3 tyX3_ok nmX3 rfl (by decide) rfl rfl rfl (Nat.le_of_ble_eq_true rfl) ?_
        rw [sN_sN]
        refine g_iinc (pc9 := 72) C rfl [(3, .int (nI (i + 1))), (0, .ref (w.1 (34))), (1, .ref (w.1 (32))), (2, .int (nI (L)))] 0 (nI (i + 1)) dX3_examine_69 rfl (nI_1 (i)) (by decide) rfl ?_
        refine g_goto C 27 dX3_examine_72 rfl ?_
        refine g_sub [0, 1, 2, 3] [(3, .int (nI (i + 1))), (0, .ref (w.1 (34))), (1, .ref (w.1 (32))), (2, .int (nI (L)))] rfl ?_
        rw [exF_s (by omega), if_neg c_Z] at hx
        refine g_iload_n (pc9 := 28) C rfl 0 dX3_examine_27 rfl rfl ?_
        refine g_iload_n (pc9 := 29) C rfl 3 dX3_examine_28 rfl rfl ?_
        refine g_icmp_ge (pc9 := 32) C rfl 75 dX3_examine_29 rfl (fun c_7 => ?_) (fun c_7 => ?_)
        · replace c_7 := (nI_leI (by omega) (by omega)).mp c_7
          refine g_aload_n (pc9 := 76) C rfl 1 dX3_examine_75 rfl rfl ?_
          refine g_get (v := .int ((rdR (iA σ 33 i) r9).1)) (pc9 := 79) C rfl (34) 4 dX3_examine_76 (by decide) (ce_34 w (sN (sN (sN (sN (sN (sI σ (35) (((rdR (iA σ 33 i) r9).2).2.2.2)) (34) 1 (nI (((rdR (iA σ 33 i) r9).2).1))) (34) 2 (nI (((rdR (iA σ 33 i) r9).2).2.1))) (34) 3 (nI (((rdR (iA σ 33 i) r9).2).2.2.1))) (34) 4 ((rdR (iA σ 33 i) r9).1)) (34) 5 (nI (i)))) hin_3 hl_28 rfl (by decide) rfl (congrArg (fun z => some (Value.int z)) ((nF_k (k := 5) (k9 := 4) (by decide)).trans (nF_s))) ?_
          refine g_if_ne (pc9 := 82) C rfl 100 dX3_examine_79 rfl (fun c_8 => ?_) (fun c_8 => ?_)
          · exact g_return C hr hlk dX3_examine_100 (by rw [← hx])
          · exact absurd c_8 c_Z
        · replace c_7 := (not_congr (nI_leI (by omega) (by omega))).mp c_7
          refine g_aload_n (pc9 := 33) C rfl 1 dX3_examine_32 rfl rfl ?_
          refine g_get (v := .int ((rdR (iA σ 33 i) r9).1)) (pc9 := 36) C rfl (34) 4 dX3_examine_33 (by decide) (ce_34 w (sN (sN (sN (sN (sN (sI σ (35) (((rdR (iA σ 33 i) r9).2).2.2.2)) (34) 1 (nI (((rdR (iA σ 33 i) r9).2).1))) (34) 2 (nI (((rdR (iA σ 33 i) r9).2).2.1))) (34) 3 (nI (((rdR (iA σ 33 i) r9).2).2.2.1))) (34) 4 ((rdR (iA σ 33 i) r9).1)) (34) 5 (nI (i)))) hin_3 hl_28 rfl (by decide) rfl (congrArg (fun z => some (Value.int z)) ((nF_k (k := 5) (k9 := 4) (by decide)).trans (nF_s))) ?_
          refine g_if_ne (pc9 := 39) C rfl 75 dX3_examine_36 rfl (fun c_9 => ?_) (fun c_9 => ?_)
          · refine g_aload_n (pc9 := 76) C rfl 1 dX3_examine_75 rfl rfl ?_
            refine g_get (v := .int ((rdR (iA σ 33 i) r9).1)) (pc9 := 79) C rfl (34) 4 dX3_examine_76 (by decide) (ce_34 w (sN (sN (sN (sN (sN (sI σ (35) (((rdR (iA σ 33 i) r9).2).2.2.2)) (34) 1 (nI (((rdR (iA σ 33 i) r9).2).1))) (34) 2 (nI (((rdR (iA σ 33 i) r9).2).2.1))) (34) 3 (nI (((rdR (iA σ 33 i) r9).2).2.2.1))) (34) 4 ((rdR (iA σ 33 i) r9).1)) (34) 5 (nI (i)))) hin_3 hl_28 rfl (by decide) rfl (congrArg (fun z => some (Value.int z)) ((nF_k (k := 5) (k9 := 4) (by decide)).trans (nF_s))) ?_
            refine g_if_ne (pc9 := 82) C rfl 100 dX3_examine_79 rfl (fun c_10 => ?_) (fun c_10 => ?_)
            · exact g_return C hr hlk dX3_examine_100 (by rw [← hx])
            · exact absurd c_10 c_9
          · exact absurd c_9 c_Z
      · have c_Z := c_6
        refine g_iconst (pc9 := 62) C rfl ((-1)) dX3_examine_61 rfl ?_
        refine g_goto C 66 dX3_examine_62 rfl ?_
        refine g_put (pc9 := 69) C rfl (34) 5 dX3_examine_66 (by decide) (ce_34 w (sN (sN (sN (sN (sN (sI σ (35) (((rdR (iA σ 33 i) r9).2).2.2.2)) (34) 1 (nI (((rdR (iA σ 33 i) r9).2).1))) (34) 2 (nI (((rdR (iA σ 33 i) r9).2).2.1))) (34) 3 (nI (((rdR (iA σ 33 i) r9).2).2.2.1))) (34) 4 ((rdR (iA σ 33 i) r9).1)) (34) 5 (-1))) (rfl) hin_3 hl_15 tyX3 tyX3_ok nmX3 rfl (by decide) rfl rfl rfl (Nat.le_of_ble_eq_true rfl) ?_
        rw [sN_sN]
        refine g_iinc (pc9 := 72) C rfl [(3, .int (nI (i + 1))), (0, .ref (w.1 (34))), (1, .ref (w.1 (32))), (2, .int (nI (L)))] 0 (nI (i + 1)) dX3_examine_69 rfl (nI_1 (i)) (by decide) rfl ?_
        refine g_goto C 27 dX3_examine_72 rfl ?_
        refine g_sub [0, 1, 2, 3] [(3, .int (nI (i + 1))), (0, .ref (w.1 (34))), (1, .ref (w.1 (32))), (2, .int (nI (L)))] rfl ?_
        rw [exF_s (by omega), if_pos c_Z] at hx
        refine g_st (σ9 := sN (sN (sN (sN (sN (sI σ (35) (((rdR (iA σ 33 i) r9).2).2.2.2)) (34) 1 (nI (((rdR (iA σ 33 i) r9).2).1))) (34) 2 (nI (((rdR (iA σ 33 i) r9).2).2.1))) (34) 3 (nI (((rdR (iA σ 33 i) r9).2).2.2.1))) (34) 4 (nI (0))) (34) 5 (-1)) (by rw [show (rdR (iA σ 33 i) r9).1 = nI 0 from c_Z]) ?_
        exact ih (i + 1) _ ⟨by omega, rdR_ok hok, hx⟩ (by omega)

/-! LineageBench: read -/
theorem exF_no {f : Nat → Int32} {r : RdS} {L : Nat} : ∀ (k i : Nat), i + k = L → (exF f L k i (rdU f r i)).1 = 0 → (∀ j, i ≤ j → j < L → (rdR (f j) (rdU f r j)).1 = 0) ∧ (rdU f r L).2.2.1 = 2
  | 0, i, hi, h => by
    have e : i = L := by omega
    subst e
    refine ⟨fun j h1 h2 => absurd h2 (by omega), Classical.byContradiction (fun hn => ?_)⟩
    unfold exF at h
    rw [if_neg hn] at h
    exact absurd (show nI 1 = 0 from h) (by decide)
  | k + 1, i, hi, h => by
    unfold exF at h
    by_cases hc : (rdR (f i) (rdU f r i)).1 = 0
    · rw [if_pos hc] at h
      obtain ⟨h1, h2⟩ := exF_no k (i + 1) (by omega) h
      refine ⟨fun j h3 h4 => ?_, h2⟩
      by_cases hj : j = i
      · rw [hj]; exact hc
      · exact h1 j (by omega) h4
    · rw [if_neg hc] at h
      exact absurd h hc
theorem exF_noF {f : Nat → Int32} {r : RdS} {L : Nat} (h : (exF f L L 0 r).1 = 0) : noF f r L := by
  obtain ⟨h1, h2⟩ := exF_no (f := f) (r := r) L 0 (by omega) h
  exact ⟨fun i hi => h1 i (Nat.zero_le _) hi, h2⟩
abbrev rX (σ : St) (L : Nat) : Int32 × Int32 × RdS := exF (iA σ 33) L L 0 (rd0 σ)
abbrev rS1 (σ : St) : St := sN σ 32 1 (nI 0)
abbrev rS2 (σ : St) (L : Nat) : St := exS (rS1 σ) (rX σ L)
def rS3 (σ : St) (L : Nat) : St := rgS (rS2 σ L) (tS σ 8) (gwU (iA σ 33) (gq0 (rS2 σ L) (tS σ 8)) L)
theorem rS3_t {σ : St} {L : Nat} : tS (rS3 σ L) = tS σ := rfl
def rS4 (σ : St) (L i : Nat) : St := sT (sT (rS3 σ L) i (tS σ 8)) 8 (tS σ i)
theorem rS4_t {σ : St} {L i : Nat} (hi : i < 8) : tS (rS4 σ L i) i = tS σ 8 := by
  unfold rS4
  rw [tS_n (by omega), tS_s]
def rdX (σ : St) (L : Nat) (x : Int32) (E : String) (σ9 : St) : Prop := (E = xIOB ∧ ¬ okI 8 x ∧ σ9 = rS1 σ) ∨ (E = xIAE ∧ okI 8 x ∧ ¬ (rX σ L).1 = 0 ∧ σ9 = rS2 σ L)
set_option maxRecDepth 100000 in
set_option maxHeartbeats 4000000 in
theorem m_X10_read (l : Launch) (hst : l.stackTraces = false) (w : Wd) (sA : Nat → Nat) (σ : St) (hT : tOk σ) (L : Nat) (hLL : nF σ 32 1 = nI L) (hL : L ≤ 400) (x : Int32) : MXI l yX10_read wsX10_read 7 2 w sA [.ref (w.1 (31)), .int (x)] (σ) (fun r σ9 => ∃ i, i < 8 ∧ x = nI i ∧ (rX σ L).1 = 0 ∧ σ9 = rS4 σ L i ∧ r = tL σ9 (tS σ9 i)) (fun E σ9 => rdX σ L x E σ9) := by
  refine MXI_of hst (cc := cX10_read) (maxL := 3) (ret := .int) (by decide) rfl (Nat.le_of_ble_eq_true rfl) ?_
  intro p e s m args below meth c A X hr hlk
  have X : CX p l s m args c w sA A cX10_read RX10 3 wsX10_read := X
  have C := X.1
  have hin_3 : ∀ u ∈ wsX30, u ∈ wsX10_read := by decide +kernel
  have hin_6 : ∀ u ∈ wsX60, u ∈ wsX10_read := by decide +kernel
  have hin_7 : ∀ u ∈ wsX70, u ∈ wsX10_read := by decide +kernel
  have hin_10 : ∀ u ∈ wsX100, u ∈ wsX10_read := by decide +kernel
  have hl_12 : Cond.fieldLink RX10 12 "LineageBench" "tape" "LLineageBench$Tape;" ∈ wsX10_read := by decide +kernel
  have hl_19 : Cond.fieldLink RX10 19 "LineageBench" "reader" "LLineageBench$Reader;" ∈ wsX10_read := by decide +kernel
  have hl_32 : Cond.fieldLink RX10 32 "LineageBench" "trees" "[LLineageBench$Tree;" ∈ wsX10_read := by decide +kernel
  have hl_83 : Cond.fieldLink RX10 83 "LineageBench" "spare" "LLineageBench$Tree;" ∈ wsX10_read := by decide +kernel
  have hl_95 : Cond.fieldLink RX10 95 "LineageBench$Tape" "length" "I" ∈ wsX10_read := by decide +kernel
  have hl_106 : Cond.fieldLink RX10 106 "LineageBench$Reader" "faultFound" "I" ∈ wsX10_read := by decide +kernel
  have hl_123 : Cond.fieldLink RX10 123 "LineageBench$Tree" "leaves" "I" ∈ wsX10_read := by decide +kernel
  refine g_aload_n (pc9 := 1) C rfl 0 dX10_read_0 rfl rfl ?_
  refine g_get (v := .ref (w.1 (32))) (pc9 := 4) C rfl (31) 0 dX10_read_1 (by decide) (ce_31 w (σ)) hin_10 hl_12 rfl (by decide) rfl rfl ?_
  refine g_get (v := .int (nI (L))) (pc9 := 7) C rfl (32) 1 dX10_read_4 (by decide) (ce_32 w (σ)) hin_6 hl_95 rfl (by decide) rfl (congrArg (fun z => some (Value.int z)) hLL) ?_
  refine g_istore_n (pc9 := 8) C rfl [(2, .int (nI (L))), (0, .ref (w.1 (31))), (1, .int (x))] dX10_read_7 rfl (by decide) rfl ?_
  refine g_aload_n (pc9 := 9) C rfl 1 dX10_read_8 rfl rfl ?_
  refine g_get (v := .ref (w.1 (32))) (pc9 := 12) C rfl (31) 0 dX10_read_9 (by decide) (ce_31 w (σ)) hin_10 hl_12 rfl (by decide) rfl rfl ?_
  refine g_iconst (pc9 := 13) C rfl (nI (0)) dX10_read_12 rfl ?_
  refine g_put (pc9 := 16) C rfl (32) 1 dX10_read_13 (by decide) (ce_32 w (σ)) (rfl) hin_6 hl_95 tyX6 tyX6_ok nmX6 rfl (by decide) rfl rfl rfl (Nat.le_of_ble_eq_true rfl) ?_
  refine g_iload_n (pc9 := 17) C rfl 2 dX10_read_16 rfl rfl ?_
  refine x_callSv (rest := []) X hlk (pc9 := 20) rfl [.int (x)] (nn := 1) rfl dX10_read_17 (m_X10_needShelf l hst w sA (rS1 σ) x) gX10_read_X10_needShelf rfl (by decide +kernel) ⟨by decide, by decide⟩ rfl (Nat.le_of_ble_eq_true rfl) ⟨by decide, by decide⟩ ⟨by decide, by decide⟩ (fun E σ9 h => Or.inl ⟨h.2.1, h.2.2, h.1⟩) (fun σ_1 q_1 => ?_)
  obtain ⟨qs_1, i, hb_i, hx_1⟩ := q_1
  rw [qs_1]
  clear qs_1
  subst hx_1
  refine g_aload_n (pc9 := 21) C rfl 1 dX10_read_20 rfl rfl ?_
  refine g_get (v := .ref (w.1 (34))) (pc9 := 24) C rfl (31) 1 dX10_read_21 (by decide) (ce_31 w (sN σ (32) 1 (nI (0)))) hin_10 hl_19 rfl (by decide) rfl rfl ?_
  refine g_aload_n (pc9 := 25) C rfl 1 dX10_read_24 rfl rfl ?_
  refine g_get (v := .ref (w.1 (32))) (pc9 := 28) C rfl (31) 0 dX10_read_25 (by decide) (ce_31 w (sN σ (32) 1 (nI (0)))) hin_10 hl_12 rfl (by decide) rfl rfl ?_
  refine g_iload_n (pc9 := 29) C rfl 0 dX10_read_28 rfl rfl ?_
  refine g_callVv (nn := 2) (rest := []) (pc9 := 32) C rfl (34) [.ref (w.1 (32)), .int (nI (L))] rfl dX10_read_29 (m_X3_examine l w (rS1 σ) L hL) gX10_read_X3_examine (by decide) (ce_34 w (sN σ (32) 1 (nI (0)))) rfl rfl rfl rfl rfl (by decide +kernel) ⟨by decide, by decide⟩ rfl (Nat.le_of_ble_eq_true rfl) ⟨by decide, by decide⟩ (fun σ_2 q_2 => ?_)
  replace q_2 : σ_2 = (rS2 σ L) := q_2
  rw [q_2]
  clear q_2
  refine g_aload_n (pc9 := 33) C rfl 1 dX10_read_32 rfl rfl ?_
  refine g_get (v := .ref (w.1 (34))) (pc9 := 36) C rfl (31) 1 dX10_read_33 (by decide) (ce_31 w ((rS2 σ L))) hin_10 hl_19 rfl (by decide) rfl rfl ?_
  refine g_get (v := .int ((rX σ L).1)) (pc9 := 39) C rfl (34) 4 dX10_read_36 (by decide) (ce_34 w ((rS2 σ L))) hin_3 hl_106 rfl (by decide) rfl (congrArg (fun z => some (Value.int z)) ((nF_k (k := 5) (k9 := 4) (by decide)).trans nF_s)) ?_
  refine g_if_eq (pc9 := 42) C rfl 52 dX10_read_39 rfl (fun c_3 => ?_) (fun c_3 => ?_)
  · have hz : (rX σ L).1 = 0 := c_3
    refine g_aload_n (pc9 := 53) C rfl 1 dX10_read_52 rfl rfl ?_
    refine g_get (v := .ref (w.1 (34))) (pc9 := 56) C rfl (31) 1 dX10_read_53 (by decide) (ce_31 w ((rS2 σ L))) hin_10 hl_19 rfl (by decide) rfl rfl ?_
    refine g_aload_n (pc9 := 57) C rfl 1 dX10_read_56 rfl rfl ?_
    refine g_get (v := .ref (w.1 (32))) (pc9 := 60) C rfl (31) 0 dX10_read_57 (by decide) (ce_31 w ((rS2 σ L))) hin_10 hl_12 rfl (by decide) rfl rfl ?_
    refine g_iload_n (pc9 := 61) C rfl 0 dX10_read_60 rfl rfl ?_
    refine g_aload_n (pc9 := 62) C rfl 1 dX10_read_61 rfl rfl ?_
    refine g_get (v := .ref (w.1 (64 + 5 * (tS σ 8)))) (pc9 := 65) C rfl (31) 11 dX10_read_62 (by decide) (ce_31 w ((rS2 σ L))) hin_10 hl_83 rfl (by decide) rfl rfl ?_
    refine g_callVv (nn := 3) (rest := []) (pc9 := 68) C rfl (34) [.ref (w.1 (32)), .int (nI (L)), .ref (w.1 (64 + 5 * (tS σ 8)))] rfl dX10_read_65 (m_X3_growTree l w (rS2 σ L) L hL (tS σ 8) (hT.1 8 (by decide)) (iA σ 35) (exF_noF hz)) gX10_read_X3_growTree (by decide) (ce_34 w ((rS2 σ L))) rfl rfl rfl rfl rfl (by decide +kernel) ⟨by decide, by decide⟩ rfl (Nat.le_of_ble_eq_true rfl) ⟨by decide, by decide⟩ (fun σ_4 q_4 => ?_)
    replace q_4 : σ_4 = (rS3 σ L) := q_4
    rw [q_4]
    clear q_4
    refine g_aload_n (pc9 := 69) C rfl 1 dX10_read_68 rfl rfl ?_
    refine g_iload_n (pc9 := 70) C rfl 2 dX10_read_69 rfl rfl ?_
    refine g_callVv (nn := 1) (rest := []) (pc9 := 73) C rfl (31) [.int (nI (i))] rfl dX10_read_70 (m_X10_settle l w (rS3 σ L) i hb_i (hT.1 8 (by decide))) gX10_read_X10_settle (by decide) (ce_31 w ((rS3 σ L))) rfl rfl rfl rfl rfl (by decide +kernel) ⟨by decide, by decide⟩ rfl (Nat.le_of_ble_eq_true rfl) ⟨by decide, by decide⟩ (fun σ_5 q_5 => ?_)
    replace q_5 : σ_5 = (rS4 σ L i) := q_5
    rw [q_5]
    clear q_5
    refine g_aload_n (pc9 := 74) C rfl 1 dX10_read_73 rfl rfl ?_
    refine g_get (v := .ref (w.1 (40))) (pc9 := 77) C rfl (31) 3 dX10_read_74 (by decide) (ce_31 w ((rS4 σ L i))) hin_10 hl_32 rfl (by decide) rfl rfl ?_
    refine g_iload_n (pc9 := 78) C rfl 2 dX10_read_77 rfl rfl ?_
    refine g_aald (pc9 := 79) C rfl (i) dX10_read_78 rfl (by omega) ?_
    have h9 : tS (rS4 σ L i) i < 9 := by rw [rS4_t hb_i]; exact hT.1 8 (by decide)
    refine g_get (v := .int (nF (rS4 σ L i) (64 + 5 * (tS ((rS4 σ L i)) (i))) 5)) (pc9 := 82) C rfl (64 + 5 * (tS ((rS4 σ L i)) (i))) 5 dX10_read_79 (by omega) (ce_tree w ((rS4 σ L i)) ((tS ((rS4 σ L i)) (i)))) hin_7 hl_123 rfl (by decide) rfl rfl ?_
    exact g_xi (by decide) (by decide) (g_ireturn C hr hlk dX10_read_82 ⟨i, hb_i, rfl, hz, rfl, rfl⟩)
  · have hz : ¬ (rX σ L).1 = 0 := c_3
    exact g_throw X hlk (cls := "java/lang/IllegalArgumentException") (text := "the tape has a fault") dX10_read_42 dX10_read_45 dX10_read_46 dX10_read_48 dX10_read_51 (by decide) (by decide +kernel) (by decide +kernel) (by decide +kernel) (by decide +kernel) (by decide +kernel) (by decide +kernel) (by decide) (Nat.le_of_ble_eq_true rfl) (by decide) (by decide) (by decide) (by decide) (Or.inr ⟨rfl, ⟨i, hb_i, rfl⟩, hz, rfl⟩)

/-! The reference: clock; strict and most -/
abbrev mcQ (σ : St) (i j k : Nat) : Prop := itP (mD σ i j) (mD σ i k) (mD σ j k)
abbrev mc3 (σ : St) (i : Nat) : Prop := ∀ i9, i9 < i → ∀ j, j < i9 → ∀ k, k < j → mcQ σ i9 j k
abbrev mc2 (σ : St) (i j : Nat) : Prop := ∀ j9, j9 < j → ∀ k, k < j9 → mcQ σ i j9 k
abbrev mc1 (σ : St) (i j k : Nat) : Prop := ∀ k9, k9 < k → mcQ σ i j k9
def mckW (σ : St) (i j : Nat) : Nat → Int32
  | 0 => bitI i
  | k + 1 => if ¬ k = i ∧ ¬ j = i ∧ mD σ i k ≤ mD σ i j then mckW σ i j k ||| bitI k else mckW σ i j k
noncomputable def mckI (σ : St) (N i : Nat) (F : Fam) : Nat → Fam
  | 0 => maA F (bitI i)
  | j + 1 => maA (mckI σ N i F j) (mckW σ i j N)
noncomputable def mckO (σ : St) (N : Nat) : Nat → Fam
  | 0 => (0, iA σ 13)
  | i + 1 => mckI σ N i (mckO σ N i) N
theorem mckI_le {σ : St} {N i : Nat} {F : Fam} : ∀ j, (mckI σ N i F j).1 ≤ F.1 + 1 + j
  | 0 => maA_le
  | j + 1 => by
    have h1 := mckI_le (σ := σ) (N := N) (i := i) (F := F) j
    have h2 := maA_le (F := mckI σ N i F j) (x := mckW σ i j N)
    show (maA _ _).1 ≤ _
    omega
theorem mckO_le {σ : St} {N : Nat} (h : N ≤ 12) : ∀ i, (mckO σ N i).1 ≤ 13 * i
  | 0 => Nat.le_refl _
  | i + 1 => by
    have h1 := mckO_le (σ := σ) h i
    have h2 := mckI_le (σ := σ) (N := N) (i := i) (F := mckO σ N i) N
    show (mckI _ _ _ _ _).1 ≤ _
    omega
def mckP (σ : St) (N : Nat) (u : Int32) (r : Int32) (σ9 : St) : Prop := (¬ okI 8 u ∧ σ9 = mT σ 1) ∨ (∃ k, k < 8 ∧ u = nI k ∧ ((¬ mc3 σ N ∧ r = 0 ∧ σ9 = mT σ 0) ∨ (mc3 σ N ∧ r = 1 ∧ σ9 = puS (mT σ 0) (mckO σ N N) k)))
set_option maxRecDepth 100000 in
set_option maxHeartbeats 4000000 in
theorem m_X11_clock (l : Launch) (w : Wd) (σ : St) (N : Nat) (hN : nF σ 0 16 = nI N) (h12 : N ≤ 12) (u : Int32) (hG : mc3 σ N → 0 < (mckO σ N N).1 ∧ (mckO σ N N).1 ≤ 47) : MI l yX11_clock wsX11_clock (rmL 3) w [.ref (w.1 (0)), .int (u)] (σ) (mckP σ N u) := by
  refine MI_of (cc := cX11_clock) (maxL := 7) (ret := .boolean) (by decide) rfl (Nat.le_of_ble_eq_true rfl) ?_
  intro p e s m args below meth c A C hr hlk
  have C : Cx p s m args c w A cX11_clock RX11 7 wsX11_clock := C
  have hin_11 : ∀ u ∈ wsX110, u ∈ wsX11_clock := by decide +kernel
  have hl_45 : Cond.fieldLink RX11 45 "LineageBenchModel" "n" "I" ∈ wsX11_clock := by decide +kernel
  have hl_107 : Cond.fieldLink RX11 107 "LineageBenchModel" "thrown" "I" ∈ wsX11_clock := by decide +kernel
  have hl_129 : Cond.fieldLink RX11 129 "LineageBenchModel" "setMany" "I" ∈ wsX11_clock := by decide +kernel
  refine g_aload_n (pc9 := 1) C rfl 0 dX11_clock_0 rfl rfl ?_
  refine g_iconst (pc9 := 2) C rfl (nI (0)) dX11_clock_1 rfl ?_
  refine g_put (pc9 := 5) C rfl (0) 0 dX11_clock_2 (by decide) (ce_0 w (σ)) (rfl) hin_11 hl_107 tyX11 tyX11_ok nmX11 rfl (by decide) rfl rfl rfl (Nat.le_of_ble_eq_true rfl) ?_
  refine g_aload_n (pc9 := 6) C rfl 0 dX11_clock_5 rfl rfl ?_
  refine g_iload_n (pc9 := 7) C rfl 1 dX11_clock_6 rfl rfl ?_
  refine g_callSi (nn := 1) (rest := [.ref (w.1 (0))]) (pc9 := 10) C rfl [.int (u)] rfl dX11_clock_7 (m_X11_noShelf l w (sN σ (0) 0 (nI (0))) u) gX11_clock_X11_noShelf rfl rfl rfl (by decide +kernel) ⟨by decide, by decide⟩ rfl (Nat.le_of_ble_eq_true rfl) ⟨by decide, by decide⟩ (fun r_1 σ_1 q_1 => ?_)
  obtain ⟨qs_1, qr_1⟩ := q_1
  rw [qs_1, qr_1]
  clear qs_1 qr_1
  refine g_iconst (pc9 := 11) C rfl (nI (1)) dX11_clock_10 rfl ?_
  refine g_callVi (nn := 2) (rest := []) (pc9 := 14) C rfl (0) [.int (pI (¬ okI 8 u)), .int (nI (1))] rfl dX11_clock_11 (m_throwsP l w (sN σ (0) 0 (nI (0))) (¬ okI 8 u) 1) gX11_clock_X11_throwsIf (by decide) (ce_0 w (sN σ (0) 0 (nI (0)))) rfl rfl rfl rfl rfl (by decide +kernel) ⟨by decide, by decide⟩ rfl (Nat.le_of_ble_eq_true rfl) ⟨by decide, by decide⟩ (fun r_2 σ_2 q_2 => ?_)
  obtain ⟨qr_2, qt_2, qf_2⟩ := q_2
  rw [qr_2]
  refine g_if_eq (pc9 := 17) C rfl 19 dX11_clock_14 rfl (fun c_3 => ?_) (fun c_3 => ?_)
  · have hns : ¬ (¬ okI 8 u) := pI_no c_3
    rw [qf_2 hns]
    obtain ⟨q9, hb_q9, hx_q9⟩ := Classical.not_not.mp hns
    subst hx_q9
    refine g_iconst (pc9 := 20) C rfl (nI (1)) dX11_clock_19 rfl ?_
    refine g_istore_n (pc9 := 21) C rfl [(2, .int (nI (1))), (0, .ref (w.1 (0))), (1, .int (nI (q9)))] dX11_clock_20 rfl (by decide) rfl ?_
    refine g_iconst (pc9 := 22) C rfl (nI (0)) dX11_clock_21 rfl ?_
    refine g_istore_n (pc9 := 23) C rfl [(3, .int (nI (0))), (2, .int (nI (1))), (0, .ref (w.1 (0))), (1, .int (nI (q9)))] dX11_clock_22 rfl (by decide) rfl ?_
    refine g_sub [0, 1, 2, 3] [(3, .int (nI (0))), (2, .int (nI (1))), (0, .ref (w.1 (0))), (1, .int (nI (q9)))] rfl ?_
    refine g_l2 (x9 := pI (mc3 σ 0)) (pI_t (fun _ h => absurd h (by omega))).symm ?_
    refine g_lp1 (α := Nat) (fun i => i ≤ N) (fun i => N - i) (fun i => G p l e _ s m args below meth c _ w A _ (sN σ (0) 0 (nI (0))) 0 0 23 [(3, .int (nI (i))), (2, .int (pI (mc3 σ i))), (0, .ref (w.1 (0))), (1, .int (nI (q9)))] []) (fun i hI0 ih0 => ?_) (0) (Nat.zero_le _)
    refine g_iload_n (pc9 := 24) C rfl 0 dX11_clock_23 rfl rfl ?_
    refine g_aload_n (pc9 := 25) C rfl 2 dX11_clock_24 rfl rfl ?_
    refine g_get (v := .int (nI (N))) (pc9 := 28) C rfl (0) 16 dX11_clock_25 (by decide) (ce_0 w (sN σ (0) 0 (nI (0)))) hin_11 hl_45 rfl (by decide) rfl (congrArg (fun z => some (Value.int z)) ((nF_k (k := 0) (k9 := 16) (by decide)).trans hN)) ?_
    refine g_icmp_ge (pc9 := 31) C rfl 106 dX11_clock_28 rfl (fun c_4 => ?_) (fun c_4 => ?_)
    · replace c_4 := (nI_leI (by omega) (by omega)).mp c_4
      have hiN : i = N := by omega
      subst hiN
      refine g_sub [1, 2, 3] [(2, .int (pI (mc3 σ i))), (0, .ref (w.1 (0))), (1, .int (nI (q9)))] rfl ?_
      refine g_iload_n (pc9 := 107) C rfl 0 dX11_clock_106 rfl rfl ?_
      refine g_if_ne (pc9 := 110) C rfl 112 dX11_clock_107 rfl (fun c_5 => ?_) (fun c_5 => ?_)
      · have hc : mc3 σ i := pI_ye c_5
        refine g_st (σ9 := sI (mT σ 0) 13 (iA σ 13)) (show sI (mT σ 0) 13 (iA (mT σ 0) 13) = mT σ 0 from sI_self).symm ?_
        refine g_aload_n (pc9 := 113) C rfl 1 dX11_clock_112 rfl rfl ?_
        refine g_iconst (pc9 := 114) C rfl (nI (0)) dX11_clock_113 rfl ?_
        refine g_put (pc9 := 117) C rfl (0) 21 dX11_clock_114 (by decide) (ce_0 w (sI (sN σ (0) 0 (nI (0))) (13) (iA σ 13))) (rfl) hin_11 hl_129 tyX11 tyX11_ok nmX11 rfl (by decide) rfl rfl rfl (Nat.le_of_ble_eq_true rfl) ?_
        refine g_iconst (pc9 := 118) C rfl (nI (0)) dX11_clock_117 rfl ?_
        refine g_istore_n (pc9 := 119) C rfl [(3, .int (nI (0))), (2, .int (pI (mc3 σ i))), (0, .ref (w.1 (0))), (1, .int (nI (q9)))] dX11_clock_118 rfl (by decide) rfl ?_
        refine g_sub [0, 2, 3] [(3, .int (nI (0))), (0, .ref (w.1 (0))), (1, .int (nI (q9)))] rfl ?_
        refine g_st (σ9 := sN (sI (sN σ (0) 0 (nI (0))) (13) ((mckO σ i 0).2)) (0) 21 (nI ((mckO σ i 0).1))) rfl ?_
        refine g_lp1 (α := Nat) (fun a => a ≤ i) (fun a => i - a) (fun a => G p l e _ s m args below meth c _ w A _ (sN (sI (sN σ (0) 0 (nI (0))) (13) ((mckO σ i a).2)) (0) 21 (nI ((mckO σ i a).1))) 0 0 119 [(3, .int (nI (a))), (0, .ref (w.1 (0))), (1, .int (nI (q9)))] []) (fun a hI3 ih3 => ?_) (0) (Nat.zero_le _)
        have hle := mckO_le (σ := σ) h12 a
        refine g_iload_n (pc9 := 120) C rfl 0 dX11_clock_119 rfl rfl ?_
        refine g_aload_n (pc9 := 121) C rfl 1 dX11_clock_120 rfl rfl ?_
        refine g_get (v := .int (nI (i))) (pc9 := 124) C rfl (0) 16 dX11_clock_121 (by decide) (ce_0 w (sN (sI (sN σ (0) 0 (nI (0))) (13) ((mckO σ i a).2)) (0) 21 (nI ((mckO σ i a).1)))) hin_11 hl_45 rfl (by decide) rfl (congrArg (fun z => some (Value.int z)) ((((nF_k (k := 21) (k9 := 16) (by decide)).trans (nF_I)).trans (nF_k (k := 0) (k9 := 16) (by decide))).trans hN)) ?_
        refine g_icmp_ge (pc9 := 127) C rfl 225 dX11_clock_124 rfl (fun c_6 => ?_) (fun c_6 => ?_)
        · replace c_6 := (nI_leI (by omega) (by omega)).mp c_6
          have hai : a = i := by omega
          refine g_aload_n (pc9 := 226) C rfl 1 dX11_clock_225 rfl rfl ?_
          refine g_iload_n (pc9 := 227) C rfl 2 dX11_clock_226 rfl rfl ?_
          refine g_callVv (nn := 1) (rest := []) (pc9 := 230) C rfl (0) [.int (nI (q9))] rfl dX11_clock_227 (m_X11_puts l w (mT σ 0) (mckO σ i a) (by rw [hai]; exact (hG hc).1) (by rw [hai]; exact (hG hc).2) q9 hb_q9) gX11_clock_X11_puts (by decide) (ce_0 w (sN (sI (sN σ (0) 0 (nI (0))) (13) ((mckO σ i a).2)) (0) 21 (nI ((mckO σ i a).1)))) rfl rfl rfl rfl rfl (by decide +kernel) ⟨by decide, by decide⟩ rfl (Nat.le_of_ble_eq_true rfl) ⟨by decide, by decide⟩ (fun σ_7 q_7 => ?_)
          replace q_7 : σ_7 = (puS (mT σ 0) (mckO σ i a) q9) := q_7
          rw [q_7]
          clear q_7
          refine g_iconst (pc9 := 231) C rfl (nI (1)) dX11_clock_230 rfl ?_
          exact g_zreturn C hr hlk dX11_clock_231 (by decide) (Or.inr ⟨q9, hb_q9, rfl, Or.inr ⟨hc, rfl, by rw [hai]⟩⟩)
        · replace c_6 := (not_congr (nI_leI (by omega) (by omega))).mp c_6
          refine g_aload_n (pc9 := 128) C rfl 1 dX11_clock_127 rfl rfl ?_
          refine g_iconst (pc9 := 129) C rfl (nI (1)) dX11_clock_128 rfl ?_
          refine g_iload_n (pc9 := 130) C rfl 0 dX11_clock_129 rfl rfl ?_
          refine g_ishl (pc9 := 131) C rfl dX11_clock_130 ?_
          refine g_callVv (nn := 1) (rest := []) (pc9 := 134) C rfl (0) [.int ((nI (1)) <<< ((nI (a)) &&& 31))] rfl dX11_clock_131 (m_X11_adds l w (mT σ 0) (mckO σ i a) (by omega) (bitI a)) gX11_clock_X11_adds (by decide) (ce_0 w (sN (sI (sN σ (0) 0 (nI (0))) (13) ((mckO σ i a).2)) (0) 21 (nI ((mckO σ i a).1)))) rfl rfl rfl rfl rfl (by decide +kernel) ⟨by decide, by decide⟩ rfl (Nat.le_of_ble_eq_true rfl) ⟨by decide, by decide⟩ (fun σ_8 q_8 => ?_)
          replace q_8 : σ_8 = sN (sI (sN σ (0) 0 (nI (0))) (13) ((mckI σ i a (mckO σ i a) 0).2)) (0) 21 (nI ((mckI σ i a (mckO σ i a) 0).1)) := q_8
          rw [q_8]
          clear q_8
          refine g_iconst (pc9 := 135) C rfl (nI (0)) dX11_clock_134 rfl ?_
          refine g_istore (pc9 := 137) C rfl [(4, .int (nI (0))), (3, .int (nI (a))), (0, .ref (w.1 (0))), (1, .int (nI (q9)))] dX11_clock_135 (by decide) rfl ?_
          refine g_sub [0, 1, 2, 3] [(4, .int (nI (0))), (3, .int (nI (a))), (0, .ref (w.1 (0))), (1, .int (nI (q9)))] rfl ?_
          refine g_lp1 (α := Nat) (fun b => b ≤ i) (fun b => i - b) (fun b => G p l e _ s m args below meth c _ w A _ (sN (sI (sN σ (0) 0 (nI (0))) (13) ((mckI σ i a (mckO σ i a) (b)).2)) (0) 21 (nI ((mckI σ i a (mckO σ i a) (b)).1))) 0 0 137 [(4, .int (nI (b))), (3, .int (nI (a))), (0, .ref (w.1 (0))), (1, .int (nI (q9)))] []) (fun b hI4 ih4 => ?_) (0) (Nat.zero_le _)
          have hle2 := mckI_le (σ := σ) (N := i) (i := a) (F := mckO σ i a) b
          refine g_iload (pc9 := 139) C rfl 0 dX11_clock_137 rfl ?_
          refine g_aload_n (pc9 := 140) C rfl 2 dX11_clock_139 rfl rfl ?_
          refine g_get (v := .int (nI (i))) (pc9 := 143) C rfl (0) 16 dX11_clock_140 (by decide) (ce_0 w (sN (sI (sN σ (0) 0 (nI (0))) (13) ((mckI σ i a (mckO σ i a) (b)).2)) (0) 21 (nI ((mckI σ i a (mckO σ i a) (b)).1)))) hin_11 hl_45 rfl (by decide) rfl (congrArg (fun z => some (Value.int z)) ((((nF_k (k := 21) (k9 := 16) (by decide)).trans (nF_I)).trans (nF_k (k := 0) (k9 := 16) (by decide))).trans hN)) ?_
          refine g_icmp_ge (pc9 := 146) C rfl 219 dX11_clock_143 rfl (fun c_9 => ?_) (fun c_9 => ?_)
          · replace c_9 := (nI_leI (by omega) (by omega)).mp c_9
            refine g_iinc (pc9 := 222) C rfl [(3, .int (nI (a + 1))), (4, .int (nI (b))), (0, .ref (w.1 (0))), (1, .int (nI (q9)))] 1 (nI (a + 1)) dX11_clock_219 rfl (nI_1 (a)) (by decide) rfl ?_
            refine g_goto C 119 dX11_clock_222 rfl ?_
            refine g_sub [0, 2, 3] [(3, .int (nI (a + 1))), (0, .ref (w.1 (0))), (1, .int (nI (q9)))] rfl ?_
            refine g_st (σ9 := sN (sI (sN σ (0) 0 (nI (0))) (13) ((mckO σ i (a + 1)).2)) (0) 21 (nI ((mckO σ i (a + 1)).1))) (by rw [show b = i by omega]; rfl) ?_
            exact ih3 (a + 1) (by omega) (by omega)
          · replace c_9 := (not_congr (nI_leI (by omega) (by omega))).mp c_9
            refine g_iconst (pc9 := 147) C rfl (nI (1)) dX11_clock_146 rfl ?_
            refine g_iload_n (pc9 := 148) C rfl 1 dX11_clock_147 rfl rfl ?_
            refine g_ishl (pc9 := 149) C rfl dX11_clock_148 ?_
            refine g_istore (pc9 := 151) C rfl [(5, .int ((nI (1)) <<< ((nI (a)) &&& 31))), (4, .int (nI (b))), (3, .int (nI (a))), (0, .ref (w.1 (0))), (1, .int (nI (q9)))] dX11_clock_149 (by decide) rfl ?_
            refine g_iconst (pc9 := 152) C rfl (nI (0)) dX11_clock_151 rfl ?_
            refine g_istore (pc9 := 154) C rfl [(6, .int (nI (0))), (5, .int ((nI (1)) <<< ((nI (a)) &&& 31))), (4, .int (nI (b))), (3, .int (nI (a))), (0, .ref (w.1 (0))), (1, .int (nI (q9)))] dX11_clock_152 (by decide) rfl ?_
            refine g_sub [0, 1, 2, 3, 4, 5] [(6, .int (nI (0))), (5, .int ((nI (1)) <<< ((nI (a)) &&& 31))), (4, .int (nI (b))), (3, .int (nI (a))), (0, .ref (w.1 (0))), (1, .int (nI (q9)))] rfl ?_
            refine g_lp1 (α := Nat) (fun d => d ≤ i) (fun d => i - d) (fun d => G p l e _ s m args below meth c _ w A _ (sN (sI (sN σ (0) 0 (nI (0))) (13) ((mckI σ i a (mckO σ i a) (b)).2)) (0) 21 (nI ((mckI σ i a (mckO σ i a) (b)).1))) 0 0 154 [(6, .int (nI (d))), (5, .int (mckW σ a b d)), (4, .int (nI (b))), (3, .int (nI (a))), (0, .ref (w.1 (0))), (1, .int (nI (q9)))] []) (fun d hI5 ih5 => ?_) (0) (Nat.zero_le _)
            refine g_iload (pc9 := 156) C rfl 0 dX11_clock_154 rfl ?_
            refine g_aload_n (pc9 := 157) C rfl 4 dX11_clock_156 rfl rfl ?_
            refine g_get (v := .int (nI (i))) (pc9 := 160) C rfl (0) 16 dX11_clock_157 (by decide) (ce_0 w (sN (sI (sN σ (0) 0 (nI (0))) (13) ((mckI σ i a (mckO σ i a) (b)).2)) (0) 21 (nI ((mckI σ i a (mckO σ i a) (b)).1)))) hin_11 hl_45 rfl (by decide) rfl (congrArg (fun z => some (Value.int z)) ((((nF_k (k := 21) (k9 := 16) (by decide)).trans (nF_I)).trans (nF_k (k := 0) (k9 := 16) (by decide))).trans hN)) ?_
            refine g_icmp_ge (pc9 := 163) C rfl 207 dX11_clock_160 rfl (fun c_10 => ?_) (fun c_10 => ?_)
            · replace c_10 := (nI_leI (by omega) (by omega)).mp c_10
              have hdi : d = i := by omega
              rw [hdi]
              refine g_aload_n (pc9 := 208) C rfl 4 dX11_clock_207 rfl rfl ?_
              refine g_iload (pc9 := 210) C rfl 1 dX11_clock_208 rfl ?_
              refine g_callVv (nn := 1) (rest := []) (pc9 := 213) C rfl (0) [.int (mckW σ a b i)] rfl dX11_clock_210 (m_X11_adds l w (mT σ 0) (mckI σ i a (mckO σ i a) (b)) (by omega) (mckW σ a b i)) gX11_clock_X11_adds (by decide) (ce_0 w (sN (sI (sN σ (0) 0 (nI (0))) (13) ((mckI σ i a (mckO σ i a) (b)).2)) (0) 21 (nI ((mckI σ i a (mckO σ i a) (b)).1)))) rfl rfl rfl rfl rfl (by decide +kernel) ⟨by decide, by decide⟩ rfl (Nat.le_of_ble_eq_true rfl) ⟨by decide, by decide⟩ (fun σ_11 q_11 => ?_)
              replace q_11 : σ_11 = sN (sI (sN σ (0) 0 (nI (0))) (13) ((mckI σ i a (mckO σ i a) (b + 1)).2)) (0) 21 (nI ((mckI σ i a (mckO σ i a) (b + 1)).1)) := q_11
              rw [q_11]
              clear q_11
              refine g_iinc (pc9 := 216) C rfl [(4, .int (nI (b + 1))), (6, .int (nI (i))), (5, .int (mckW σ a b i)), (3, .int (nI (a))), (0, .ref (w.1 (0))), (1, .int (nI (q9)))] 2 (nI (b + 1)) dX11_clock_213 rfl (nI_1 (b)) (by decide) rfl ?_
              refine g_goto C 137 dX11_clock_216 rfl ?_
              refine g_sub [0, 3, 4, 5] [(4, .int (nI (b + 1))), (3, .int (nI (a))), (0, .ref (w.1 (0))), (1, .int (nI (q9)))] rfl ?_
              exact ih4 (b + 1) (by omega) (by omega)
            · replace c_10 := (not_congr (nI_leI (by omega) (by omega))).mp c_10
              refine g_iload (pc9 := 165) C rfl 0 dX11_clock_163 rfl ?_
              refine g_iload_n (pc9 := 166) C rfl 3 dX11_clock_165 rfl rfl ?_
              refine g_icmp_eq (pc9 := 169) C rfl 201 dX11_clock_166 rfl (fun c_12 => ?_) (fun c_12 => ?_)
              · replace c_12 := (nI_eq (by omega) (by omega)).mp c_12
                have hs : mckW σ a b (d + 1) = mckW σ a b d := if_neg (fun h => h.1 c_12)
                refine g_iinc (pc9 := 204) C rfl [(6, .int (nI (d + 1))), (5, .int (mckW σ a b d)), (4, .int (nI (b))), (3, .int (nI (a))), (0, .ref (w.1 (0))), (1, .int (nI (q9)))] 0 (nI (d + 1)) dX11_clock_201 rfl (nI_1 (d)) (by decide) rfl ?_
                refine g_goto C 154 dX11_clock_204 rfl ?_
                refine g_sub [0, 1, 2, 3, 4, 5] [(6, .int (nI (d + 1))), (5, .int (mckW σ a b d)), (4, .int (nI (b))), (3, .int (nI (a))), (0, .ref (w.1 (0))), (1, .int (nI (q9)))] rfl ?_
                refine g_l2 hs.symm ?_
                exact ih5 (d + 1) (by omega) (by omega)
              · replace c_12 := (not_congr (nI_eq (by omega) (by omega))).mp c_12
                have hd1 : ¬ d = a := c_12
                refine g_iload (pc9 := 171) C rfl 2 dX11_clock_169 rfl ?_
                refine g_iload_n (pc9 := 172) C rfl 3 dX11_clock_171 rfl rfl ?_
                refine g_icmp_eq (pc9 := 175) C rfl 201 dX11_clock_172 rfl (fun c_13 => ?_) (fun c_13 => ?_)
                · replace c_13 := (nI_eq (by omega) (by omega)).mp c_13
                  have hs : mckW σ a b (d + 1) = mckW σ a b d := if_neg (fun h => h.2.1 c_13)
                  refine g_iinc (pc9 := 204) C rfl [(6, .int (nI (d + 1))), (5, .int (mckW σ a b d)), (4, .int (nI (b))), (3, .int (nI (a))), (0, .ref (w.1 (0))), (1, .int (nI (q9)))] 0 (nI (d + 1)) dX11_clock_201 rfl (nI_1 (d)) (by decide) rfl ?_
                  refine g_goto C 154 dX11_clock_204 rfl ?_
                  refine g_sub [0, 1, 2, 3, 4, 5] [(6, .int (nI (d + 1))), (5, .int (mckW σ a b d)), (4, .int (nI (b))), (3, .int (nI (a))), (0, .ref (w.1 (0))), (1, .int (nI (q9)))] rfl ?_
                  refine g_l2 hs.symm ?_
                  exact ih5 (d + 1) (by omega) (by omega)
                · replace c_13 := (not_congr (nI_eq (by omega) (by omega))).mp c_13
                  have hd2 : ¬ b = a := c_13
                  refine g_aload_n (pc9 := 176) C rfl 4 dX11_clock_175 rfl rfl ?_
                  refine g_iload_n (pc9 := 177) C rfl 3 dX11_clock_176 rfl rfl ?_
                  refine g_iload (pc9 := 179) C rfl 0 dX11_clock_177 rfl ?_
                  refine g_callVi (nn := 2) (rest := []) (pc9 := 182) C rfl (0) [.int (nI (a)), .int (nI (d))] rfl dX11_clock_179 (m_X11_d l w (sN (sI (sN σ (0) 0 (nI (0))) (13) ((mckI σ i a (mckO σ i a) (b)).2)) (0) 21 (nI ((mckI σ i a (mckO σ i a) (b)).1))) (a) (d) (by omega) (by omega)) gX11_clock_X11_d (by decide) (ce_0 w (sN (sI (sN σ (0) 0 (nI (0))) (13) ((mckI σ i a (mckO σ i a) (b)).2)) (0) 21 (nI ((mckI σ i a (mckO σ i a) (b)).1)))) rfl rfl rfl rfl rfl (by decide +kernel) ⟨by decide, by decide⟩ rfl (Nat.le_of_ble_eq_true rfl) ⟨by decide, by decide⟩ (fun r_14 σ_14 q_14 => ?_)
                  obtain ⟨qs_14, qr_14⟩ := q_14
                  replace qr_14 : r_14 = mD σ (a) (d) := qr_14
                  rw [qs_14, qr_14]
                  clear qs_14 qr_14
                  refine g_aload_n (pc9 := 183) C rfl 4 dX11_clock_182 rfl rfl ?_
                  refine g_iload_n (pc9 := 184) C rfl 3 dX11_clock_183 rfl rfl ?_
                  refine g_iload (pc9 := 186) C rfl 2 dX11_clock_184 rfl ?_
                  refine g_callVi (nn := 2) (rest := [.int (mD σ (a) (d))]) (pc9 := 189) C rfl (0) [.int (nI (a)), .int (nI (b))] rfl dX11_clock_186 (m_X11_d l w (sN (sI (sN σ (0) 0 (nI (0))) (13) ((mckI σ i a (mckO σ i a) (b)).2)) (0) 21 (nI ((mckI σ i a (mckO σ i a) (b)).1))) (a) (b) (by omega) (by omega)) gX11_clock_X11_d (by decide) (ce_0 w (sN (sI (sN σ (0) 0 (nI (0))) (13) ((mckI σ i a (mckO σ i a) (b)).2)) (0) 21 (nI ((mckI σ i a (mckO σ i a) (b)).1)))) rfl rfl rfl rfl rfl (by decide +kernel) ⟨by decide, by decide⟩ rfl (Nat.le_of_ble_eq_true rfl) ⟨by decide, by decide⟩ (fun r_15 σ_15 q_15 => ?_)
                  obtain ⟨qs_15, qr_15⟩ := q_15
                  replace qr_15 : r_15 = mD σ (a) (b) := qr_15
                  rw [qs_15, qr_15]
                  clear qs_15 qr_15
                  refine g_icmp_gt (pc9 := 192) C rfl 201 dX11_clock_189 rfl (fun c_16 => ?_) (fun c_16 => ?_)
                  · have hs : mckW σ a b (d + 1) = mckW σ a b d := if_neg (fun h => absurd c_16 (Int32.not_lt.mpr h.2.2))
                    refine g_iinc (pc9 := 204) C rfl [(6, .int (nI (d + 1))), (5, .int (mckW σ a b d)), (4, .int (nI (b))), (3, .int (nI (a))), (0, .ref (w.1 (0))), (1, .int (nI (q9)))] 0 (nI (d + 1)) dX11_clock_201 rfl (nI_1 (d)) (by decide) rfl ?_
                    refine g_goto C 154 dX11_clock_204 rfl ?_
                    refine g_sub [0, 1, 2, 3, 4, 5] [(6, .int (nI (d + 1))), (5, .int (mckW σ a b d)), (4, .int (nI (b))), (3, .int (nI (a))), (0, .ref (w.1 (0))), (1, .int (nI (q9)))] rfl ?_
                    refine g_l2 hs.symm ?_
                    exact ih5 (d + 1) (by omega) (by omega)
                  · have hs : mckW σ a b (d + 1) = mckW σ a b d ||| bitI d := if_pos ⟨hd1, hd2, Int32.not_lt.mp c_16⟩
                    refine g_iload (pc9 := 194) C rfl 1 dX11_clock_192 rfl ?_
                    refine g_iconst (pc9 := 195) C rfl (nI (1)) dX11_clock_194 rfl ?_
                    refine g_iload (pc9 := 197) C rfl 0 dX11_clock_195 rfl ?_
                    refine g_ishl (pc9 := 198) C rfl dX11_clock_197 ?_
                    refine g_ior (pc9 := 199) C rfl dX11_clock_198 ?_
                    refine g_istore (pc9 := 201) C rfl [(5, .int ((mckW σ a b d) ||| ((nI (1)) <<< ((nI (d)) &&& 31)))), (6, .int (nI (d))), (4, .int (nI (b))), (3, .int (nI (a))), (0, .ref (w.1 (0))), (1, .int (nI (q9)))] dX11_clock_199 (by decide) rfl ?_
                    refine g_iinc (pc9 := 204) C rfl [(6, .int (nI (d + 1))), (5, .int ((mckW σ a b d) ||| ((nI (1)) <<< ((nI (d)) &&& 31)))), (4, .int (nI (b))), (3, .int (nI (a))), (0, .ref (w.1 (0))), (1, .int (nI (q9)))] 1 (nI (d + 1)) dX11_clock_201 rfl (nI_1 (d)) (by decide) rfl ?_
                    refine g_goto C 154 dX11_clock_204 rfl ?_
                    refine g_sub [0, 1, 2, 3, 4, 5] [(6, .int (nI (d + 1))), (5, .int ((mckW σ a b d) ||| ((nI (1)) <<< ((nI (d)) &&& 31)))), (4, .int (nI (b))), (3, .int (nI (a))), (0, .ref (w.1 (0))), (1, .int (nI (q9)))] rfl ?_
                    refine g_l2 hs.symm ?_
                    exact ih5 (d + 1) (by omega) (by omega)
      · have hc : ¬ mc3 σ i := pI_no c_5
        refine g_iconst (pc9 := 111) C rfl (nI (0)) dX11_clock_110 rfl ?_
        exact g_zreturn C hr hlk dX11_clock_111 (by decide) (Or.inr ⟨q9, hb_q9, rfl, Or.inl ⟨hc, rfl, rfl⟩⟩)
    · replace c_4 := (not_congr (nI_leI (by omega) (by omega))).mp c_4
      refine g_iconst (pc9 := 32) C rfl (nI (0)) dX11_clock_31 rfl ?_
      refine g_istore (pc9 := 34) C rfl [(4, .int (nI (0))), (3, .int (nI (i))), (2, .int (pI (mc3 σ i))), (0, .ref (w.1 (0))), (1, .int (nI (q9)))] dX11_clock_32 (by decide) rfl ?_
      refine g_sub [0, 2, 1, 3, 4] [(4, .int (nI (0))), (2, .int (pI (mc3 σ i))), (3, .int (nI (i))), (0, .ref (w.1 (0))), (1, .int (nI (q9)))] rfl ?_
      refine g_l2 (x9 := pI (mc3 σ i ∧ mc2 σ i 0)) (pI_c ⟨fun h => ⟨h, fun _ q => absurd q (by omega)⟩, fun h => h.1⟩) ?_
      refine g_lp1 (α := Nat) (fun j => j ≤ i) (fun j => i - j) (fun j => G p l e _ s m args below meth c _ w A _ (sN σ (0) 0 (nI (0))) 0 0 34 [(4, .int (nI (j))), (2, .int (pI (mc3 σ i ∧ mc2 σ i j))), (3, .int (nI (i))), (0, .ref (w.1 (0))), (1, .int (nI (q9)))] []) (fun j hI1 ih1 => ?_) (0) (Nat.zero_le _)
      refine g_iload (pc9 := 36) C rfl 0 dX11_clock_34 rfl ?_
      refine g_iload_n (pc9 := 37) C rfl 2 dX11_clock_36 rfl rfl ?_
      refine g_icmp_ge (pc9 := 40) C rfl 100 dX11_clock_37 rfl (fun c_17 => ?_) (fun c_17 => ?_)
      · replace c_17 := (nI_leI (by omega) (by omega)).mp c_17
        refine g_iinc (pc9 := 103) C rfl [(3, .int (nI (i + 1))), (4, .int (nI (j))), (2, .int (pI (mc3 σ i ∧ mc2 σ i j))), (0, .ref (w.1 (0))), (1, .int (nI (q9)))] 2 (nI (i + 1)) dX11_clock_100 rfl (nI_1 (i)) (by decide) rfl ?_
        refine g_goto C 23 dX11_clock_103 rfl ?_
        refine g_sub [0, 2, 3, 4] [(3, .int (nI (i + 1))), (2, .int (pI (mc3 σ i ∧ mc2 σ i j))), (0, .ref (w.1 (0))), (1, .int (nI (q9)))] rfl ?_
        refine g_l2 (x9 := pI (mc3 σ (i + 1))) (pI_c (by rw [show j = i by omega]; exact (lt_sc (P := fun i9 => ∀ j, j < i9 → ∀ k, k < j → mcQ σ i9 j k)).symm)) ?_
        exact ih0 (i + 1) (by omega) (by omega)
      · replace c_17 := (not_congr (nI_leI (by omega) (by omega))).mp c_17
        refine g_iconst (pc9 := 41) C rfl (nI (0)) dX11_clock_40 rfl ?_
        refine g_istore (pc9 := 43) C rfl [(5, .int (nI (0))), (4, .int (nI (j))), (2, .int (pI (mc3 σ i ∧ mc2 σ i j))), (3, .int (nI (i))), (0, .ref (w.1 (0))), (1, .int (nI (q9)))] dX11_clock_41 (by decide) rfl ?_
        refine g_sub [0, 2, 1, 3, 4, 5] [(5, .int (nI (0))), (2, .int (pI (mc3 σ i ∧ mc2 σ i j))), (4, .int (nI (j))), (3, .int (nI (i))), (0, .ref (w.1 (0))), (1, .int (nI (q9)))] rfl ?_
        refine g_l2 (x9 := pI (mc3 σ i ∧ mc2 σ i j ∧ mc1 σ i j 0)) (pI_c ⟨fun h => ⟨h.1, h.2, fun _ q => absurd q (by omega)⟩, fun h => ⟨h.1, h.2.1⟩⟩) ?_
        refine g_lp1 (α := Nat) (fun k => k ≤ j) (fun k => j - k) (fun k => G p l e _ s m args below meth c _ w A _ (sN σ (0) 0 (nI (0))) 0 0 43 [(5, .int (nI (k))), (2, .int (pI (mc3 σ i ∧ mc2 σ i j ∧ mc1 σ i j k))), (4, .int (nI (j))), (3, .int (nI (i))), (0, .ref (w.1 (0))), (1, .int (nI (q9)))] []) (fun k hI2 ih2 => ?_) (0) (Nat.zero_le _)
        refine g_iload (pc9 := 45) C rfl 0 dX11_clock_43 rfl ?_
        refine g_iload (pc9 := 47) C rfl 2 dX11_clock_45 rfl ?_
        refine g_icmp_ge (pc9 := 50) C rfl 94 dX11_clock_47 rfl (fun c_18 => ?_) (fun c_18 => ?_)
        · replace c_18 := (nI_leI (by omega) (by omega)).mp c_18
          refine g_iinc (pc9 := 97) C rfl [(4, .int (nI (j + 1))), (5, .int (nI (k))), (2, .int (pI (mc3 σ i ∧ mc2 σ i j ∧ mc1 σ i j k))), (3, .int (nI (i))), (0, .ref (w.1 (0))), (1, .int (nI (q9)))] 2 (nI (j + 1)) dX11_clock_94 rfl (nI_1 (j)) (by decide) rfl ?_
          refine g_goto C 34 dX11_clock_97 rfl ?_
          refine g_sub [0, 2, 3, 4, 5] [(4, .int (nI (j + 1))), (2, .int (pI (mc3 σ i ∧ mc2 σ i j ∧ mc1 σ i j k))), (3, .int (nI (i))), (0, .ref (w.1 (0))), (1, .int (nI (q9)))] rfl ?_
          refine g_l2 (x9 := pI (mc3 σ i ∧ mc2 σ i (j + 1))) (pI_c (by rw [show k = j by omega]; exact and_congr Iff.rfl (lt_sc (P := fun j9 => ∀ k, k < j9 → mcQ σ i j9 k)).symm)) ?_
          exact ih1 (j + 1) (by omega) (by omega)
        · replace c_18 := (not_congr (nI_leI (by omega) (by omega))).mp c_18
          refine g_iload_n (pc9 := 51) C rfl 1 dX11_clock_50 rfl rfl ?_
          refine g_if_eq (pc9 := 54) C rfl 86 dX11_clock_51 rfl (fun c_19 => ?_) (fun c_19 => ?_)
          · have hs : pI (mc3 σ i ∧ mc2 σ i j ∧ mc1 σ i j (k + 1)) = nI 0 := pI_f (fun h => pI_no c_19 ⟨h.1, h.2.1, fun t9 h9 => h.2.2 t9 (by omega)⟩)
            refine g_iconst (pc9 := 87) C rfl (nI (0)) dX11_clock_86 rfl ?_
            refine g_istore_n (pc9 := 88) C rfl [(2, .int (nI (0))), (5, .int (nI (k))), (4, .int (nI (j))), (3, .int (nI (i))), (0, .ref (w.1 (0))), (1, .int (nI (q9)))] dX11_clock_87 rfl (by decide) rfl ?_
            refine g_iinc (pc9 := 91) C rfl [(5, .int (nI (k + 1))), (2, .int (nI (0))), (4, .int (nI (j))), (3, .int (nI (i))), (0, .ref (w.1 (0))), (1, .int (nI (q9)))] 1 (nI (k + 1)) dX11_clock_88 rfl (nI_1 (k)) (by decide) rfl ?_
            refine g_goto C 43 dX11_clock_91 rfl ?_
            refine g_sub [0, 1, 2, 3, 4, 5] [(5, .int (nI (k + 1))), (2, .int (nI (0))), (4, .int (nI (j))), (3, .int (nI (i))), (0, .ref (w.1 (0))), (1, .int (nI (q9)))] rfl ?_
            refine g_l2 hs.symm ?_
            exact ih2 (k + 1) (by omega) (by omega)
          · have hq := pI_ye c_19
            refine g_aload_n (pc9 := 55) C rfl 4 dX11_clock_54 rfl rfl ?_
            refine g_iload_n (pc9 := 56) C rfl 3 dX11_clock_55 rfl rfl ?_
            refine g_iload (pc9 := 58) C rfl 2 dX11_clock_56 rfl ?_
            refine g_callVi (nn := 2) (rest := []) (pc9 := 61) C rfl (0) [.int (nI (i)), .int (nI (j))] rfl dX11_clock_58 (m_X11_d l w (sN σ (0) 0 (nI (0))) (i) (j) (by omega) (by omega)) gX11_clock_X11_d (by decide) (ce_0 w (sN σ (0) 0 (nI (0)))) rfl rfl rfl rfl rfl (by decide +kernel) ⟨by decide, by decide⟩ rfl (Nat.le_of_ble_eq_true rfl) ⟨by decide, by decide⟩ (fun r_20 σ_20 q_20 => ?_)
            obtain ⟨qs_20, qr_20⟩ := q_20
            replace qr_20 : r_20 = mD σ (i) (j) := qr_20
            rw [qs_20, qr_20]
            clear qs_20 qr_20
            refine g_aload_n (pc9 := 62) C rfl 4 dX11_clock_61 rfl rfl ?_
            refine g_iload_n (pc9 := 63) C rfl 3 dX11_clock_62 rfl rfl ?_
            refine g_iload (pc9 := 65) C rfl 0 dX11_clock_63 rfl ?_
            refine g_callVi (nn := 2) (rest := [.int (mD σ (i) (j))]) (pc9 := 68) C rfl (0) [.int (nI (i)), .int (nI (k))] rfl dX11_clock_65 (m_X11_d l w (sN σ (0) 0 (nI (0))) (i) (k) (by omega) (by omega)) gX11_clock_X11_d (by decide) (ce_0 w (sN σ (0) 0 (nI (0)))) rfl rfl rfl rfl rfl (by decide +kernel) ⟨by decide, by decide⟩ rfl (Nat.le_of_ble_eq_true rfl) ⟨by decide, by decide⟩ (fun r_21 σ_21 q_21 => ?_)
            obtain ⟨qs_21, qr_21⟩ := q_21
            replace qr_21 : r_21 = mD σ (i) (k) := qr_21
            rw [qs_21, qr_21]
            clear qs_21 qr_21
            refine g_aload_n (pc9 := 69) C rfl 4 dX11_clock_68 rfl rfl ?_
            refine g_iload (pc9 := 71) C rfl 2 dX11_clock_69 rfl ?_
            refine g_iload (pc9 := 73) C rfl 0 dX11_clock_71 rfl ?_
            refine g_callVi (nn := 2) (rest := [.int (mD σ (i) (k)), .int (mD σ (i) (j))]) (pc9 := 76) C rfl (0) [.int (nI (j)), .int (nI (k))] rfl dX11_clock_73 (m_X11_d l w (sN σ (0) 0 (nI (0))) (j) (k) (by omega) (by omega)) gX11_clock_X11_d (by decide) (ce_0 w (sN σ (0) 0 (nI (0)))) rfl rfl rfl rfl rfl (by decide +kernel) ⟨by decide, by decide⟩ rfl (Nat.le_of_ble_eq_true rfl) ⟨by decide, by decide⟩ (fun r_22 σ_22 q_22 => ?_)
            obtain ⟨qs_22, qr_22⟩ := q_22
            replace qr_22 : r_22 = mD σ (j) (k) := qr_22
            rw [qs_22, qr_22]
            clear qs_22 qr_22
            refine g_callSi (nn := 3) (rest := []) (pc9 := 79) C rfl [.int (mD σ (i) (j)), .int (mD σ (i) (k)), .int (mD σ (j) (k))] rfl dX11_clock_76 (m_X11_isTwice l w (sN σ (0) 0 (nI (0))) (mD σ (i) (j)) (mD σ (i) (k)) (mD σ (j) (k))) gX11_clock_X11_isTwice rfl rfl rfl (by decide +kernel) ⟨by decide, by decide⟩ rfl (Nat.le_of_ble_eq_true rfl) ⟨by decide, by decide⟩ (fun r_23 σ_23 q_23 => ?_)
            obtain ⟨qs_23, qr_23⟩ := q_23
            rw [qs_23, qr_23]
            clear qs_23 qr_23
            refine g_if_eq (pc9 := 82) C rfl 86 dX11_clock_79 rfl (fun c_24 => ?_) (fun c_24 => ?_)
            · have hs : pI (mc3 σ i ∧ mc2 σ i j ∧ mc1 σ i j (k + 1)) = nI 0 := pI_f (fun h => pI_no c_24 (h.2.2 k (by omega)))
              refine g_iconst (pc9 := 87) C rfl (nI (0)) dX11_clock_86 rfl ?_
              refine g_istore_n (pc9 := 88) C rfl [(2, .int (nI (0))), (5, .int (nI (k))), (4, .int (nI (j))), (3, .int (nI (i))), (0, .ref (w.1 (0))), (1, .int (nI (q9)))] dX11_clock_87 rfl (by decide) rfl ?_
              refine g_iinc (pc9 := 91) C rfl [(5, .int (nI (k + 1))), (2, .int (nI (0))), (4, .int (nI (j))), (3, .int (nI (i))), (0, .ref (w.1 (0))), (1, .int (nI (q9)))] 1 (nI (k + 1)) dX11_clock_88 rfl (nI_1 (k)) (by decide) rfl ?_
              refine g_goto C 43 dX11_clock_91 rfl ?_
              refine g_sub [0, 1, 2, 3, 4, 5] [(5, .int (nI (k + 1))), (2, .int (nI (0))), (4, .int (nI (j))), (3, .int (nI (i))), (0, .ref (w.1 (0))), (1, .int (nI (q9)))] rfl ?_
              refine g_l2 hs.symm ?_
              exact ih2 (k + 1) (by omega) (by omega)
            · have hs : pI (mc3 σ i ∧ mc2 σ i j ∧ mc1 σ i j (k + 1)) = nI 1 := pI_t ⟨hq.1, hq.2.1, lt_sc.mpr ⟨hq.2.2, pI_ye c_24⟩⟩
              refine g_iconst (pc9 := 83) C rfl (nI (1)) dX11_clock_82 rfl ?_
              refine g_goto C 87 dX11_clock_83 rfl ?_
              refine g_istore_n (pc9 := 88) C rfl [(2, .int (nI (1))), (5, .int (nI (k))), (4, .int (nI (j))), (3, .int (nI (i))), (0, .ref (w.1 (0))), (1, .int (nI (q9)))] dX11_clock_87 rfl (by decide) rfl ?_
              refine g_iinc (pc9 := 91) C rfl [(5, .int (nI (k + 1))), (2, .int (nI (1))), (4, .int (nI (j))), (3, .int (nI (i))), (0, .ref (w.1 (0))), (1, .int (nI (q9)))] 1 (nI (k + 1)) dX11_clock_88 rfl (nI_1 (k)) (by decide) rfl ?_
              refine g_goto C 43 dX11_clock_91 rfl ?_
              refine g_sub [0, 1, 2, 3, 4, 5] [(5, .int (nI (k + 1))), (2, .int (nI (1))), (4, .int (nI (j))), (3, .int (nI (i))), (0, .ref (w.1 (0))), (1, .int (nI (q9)))] rfl ?_
              refine g_l2 hs.symm ?_
              exact ih2 (k + 1) (by omega) (by omega)
  · have hns : ¬ okI 8 u := pI_ye c_3
    refine g_st (σ9 := sN σ (0) 0 (nI (1))) ((qt_2 hns).trans (by show sN (sN σ (0) 0 (nI (0))) (0) 0 (nI (1)) = sN σ (0) 0 (nI (1)); rw [sN_sN])) ?_
    refine g_iconst (pc9 := 18) C rfl (nI (0)) dX11_clock_17 rfl ?_
    exact g_zreturn C hr hlk dX11_clock_18 (by decide) (Or.inl ⟨hns, rfl⟩)
theorem and_1 (y : Int32) : y &&& nI 1 = nI 0 ∨ y &&& nI 1 = nI 1 := by
  have e : nI 1 = (1 : Int32) := rfl
  have e0 : nI 0 = (0 : Int32) := rfl
  rw [e, e0]
  have key : ∀ b : BitVec 32, b &&& 1#32 = 0#32 ∨ b &&& 1#32 = 1#32 := by
    intro b
    by_cases h : b.getLsbD 0 = true
    · refine Or.inr (BitVec.eq_of_getLsbD_eq fun i hi => ?_)
      by_cases hz : i = 0
      · subst hz; simp [h]
      · simp [BitVec.getLsbD_one, hz]
    · refine Or.inl (BitVec.eq_of_getLsbD_eq fun i hi => ?_)
      by_cases hz : i = 0
      · subst hz; simp at h; simp [h]
      · simp [BitVec.getLsbD_one, hz]
  rcases key y.toBitVec with h | h
  · exact Or.inl (Int32.toBitVec_inj.mp h)
  · exact Or.inr (Int32.toBitVec_inj.mp h)
def mskS (σ : St) (x : Int32) : Nat → Int32
  | 0 => nI 0
  | s + 1 => if bt x s then mKs σ s else mskS σ x s
def mskG (σ : St) (x : Int32) : Nat → Prop
  | 0 => True
  | s + 1 => (bt x s → mskG σ x s ∧ mPl σ s ∧ (mskS σ x s = 0 ∨ mKs σ s = mskS σ x s)) ∧ (¬ bt x s → mskG σ x s)
abbrev mhoP (σ : St) (x y : Int32) : Nat → Prop := fun s => bt x s ∧ mHas σ s y
noncomputable abbrev mhoN (σ : St) (x y : Int32) : Nat := cntU (mhoP σ x y) 8
def magQ (σ : St) (x : Int32) (al : Nat) (v : Nat) : Prop := nI v &&& (mskS σ x 8 ^^^ (-1)) = 0 ∧ (if al = 1 then nI (mhoN σ x (nI v)) = bC x else bC x < nI (2 * mhoN σ x (nI v)))
/-- the clusters from 1 on -/
noncomputable def magF (σ : St) (x : Int32) (al : Nat) : Nat → Fam
  | 0 => (0, iA σ 13)
  | v + 1 => cI (magQ σ x al (v + 1)) (maA (magF σ x al v) (nI (v + 1))) (magF σ x al v)
def magP (σ : St) (x u : Int32) (al : Nat) (r : Int32) (σ9 : St) : Prop := (¬ okI 8 u ∧ σ9 = mT σ 1) ∨ (okI 8 u ∧ ¬ okR 1 255 x ∧ σ9 = mT σ 2) ∨ (∃ k, k < 8 ∧ u = nI k ∧ okR 1 255 x ∧ ((¬ mskG σ x 8 ∧ σ9 = mT σ 3) ∨ (mskG σ x 8 ∧ (∃ g, σ9 = puS (sI (mT σ 0) 12 g) (magF σ x al 4095) k) ∧ r = nI (magF σ x al 4095).1)))
theorem bt_1 {x : Int32} {s : Nat} : (x >>> (nI s &&& 31)) &&& nI 1 = nI 1 ↔ bt x s := by
  have h : ∀ y : Int32, y &&& nI 1 = nI 0 ∨ y &&& nI 1 = nI 1 := fun y => and_1 y
  rcases h (x >>> (nI s &&& 31)) with h | h
  · unfold bt; rw [h]; exact ⟨fun q => absurd q (by decide), fun q => absurd rfl q⟩
  · unfold bt; rw [h]; exact ⟨fun _ => by decide, fun _ => rfl⟩
theorem msk_pl {σ : St} {x : Int32} : ∀ {n s : Nat}, s < n → mskG σ x n → bt x s → mPl σ s
  | n + 1, s, h, hg, hb => by
    by_cases e : s = n
    · subst e; exact (hg.1 hb).2.1
    · by_cases h2 : bt x n
      · exact msk_pl (by omega) (hg.1 h2).1 hb
      · exact msk_pl (by omega) (hg.2 h2) hb
theorem mer12 (σ : St) (F : Fam) (g g2 : Nat → Int32) : sI (sN (sI (sI (mT σ 0) 12 g) 13 F.2) 0 21 (nI F.1)) 12 g2 = sN (sI (sI (mT σ 0) 12 g2) 13 F.2) 0 21 (nI F.1) := by
  rw [sI_sN, sI_cm (a := 13) (b := 12) (by decide), sI_sI]
set_option maxRecDepth 100000 in
set_option maxHeartbeats 4000000 in
theorem m_agree1 (l : Launch) (w : Wd) (σ : St) (hM : ∀ i, i < 8 → mtOk σ i) (x u : Int32) (hB : ∀ v, v < 4096 → okR 1 255 x → mskG σ x 8 → (magF σ x 1 v).1 < 400) (hG : okR 1 255 x → mskG σ x 8 → 0 < (magF σ x 1 4095).1 ∧ (magF σ x 1 4095).1 ≤ 47) : MI l yX11_agree wsX11_agree (rmL 4) w [.ref (w.1 (0)), .int (x), .int (u), .int (nI (1))] (σ) (magP σ x u 1) := by
  refine MI_of (cc := cX11_agree) (maxL := 10) (ret := .int) (by decide) rfl (Nat.le_of_ble_eq_true rfl) ?_
  intro p e s m args below meth c A C hr hlk
  have C : Cx p s m args c w A cX11_agree RX11 10 wsX11_agree := C
  have hin_11 : ∀ u ∈ wsX110, u ∈ wsX11_agree := by decide +kernel
  have hl_107 : Cond.fieldLink RX11 107 "LineageBenchModel" "thrown" "I" ∈ wsX11_agree := by decide +kernel
  have hl_129 : Cond.fieldLink RX11 129 "LineageBenchModel" "setMany" "I" ∈ wsX11_agree := by decide +kernel
  refine g_aload_n (pc9 := 1) C rfl 0 dX11_agree_0 rfl rfl ?_
  refine g_iconst (pc9 := 2) C rfl (nI (0)) dX11_agree_1 rfl ?_
  refine g_put (pc9 := 5) C rfl (0) 0 dX11_agree_2 (by decide) (ce_0 w (σ)) (rfl) hin_11 hl_107 tyX11 tyX11_ok nmX11 rfl (by decide) rfl rfl rfl (Nat.le_of_ble_eq_true rfl) ?_
  refine g_aload_n (pc9 := 6) C rfl 0 dX11_agree_5 rfl rfl ?_
  refine g_iload_n (pc9 := 7) C rfl 2 dX11_agree_6 rfl rfl ?_
  refine g_callSi (nn := 1) (rest := [.ref (w.1 (0))]) (pc9 := 10) C rfl [.int (u)] rfl dX11_agree_7 (m_X11_noShelf l w (sN σ (0) 0 (nI (0))) u) gX11_agree_X11_noShelf rfl rfl rfl (by decide +kernel) ⟨by decide, by decide⟩ rfl (Nat.le_of_ble_eq_true rfl) ⟨by decide, by decide⟩ (fun r_1 σ_1 q_1 => ?_)
  obtain ⟨qs_1, qr_1⟩ := q_1
  rw [qs_1, qr_1]
  clear qs_1 qr_1
  refine g_iconst (pc9 := 11) C rfl (nI (1)) dX11_agree_10 rfl ?_
  refine g_callVi (nn := 2) (rest := []) (pc9 := 14) C rfl (0) [.int (pI (¬ okI 8 u)), .int (nI (1))] rfl dX11_agree_11 (m_throwsP l w (sN σ (0) 0 (nI (0))) (¬ okI 8 u) 1) gX11_agree_X11_throwsIf (by decide) (ce_0 w (sN σ (0) 0 (nI (0)))) rfl rfl rfl rfl rfl (by decide +kernel) ⟨by decide, by decide⟩ rfl (Nat.le_of_ble_eq_true rfl) ⟨by decide, by decide⟩ (fun r_2 σ_2 q_2 => ?_)
  obtain ⟨qr_2, qt_2, qf_2⟩ := q_2
  rw [qr_2]
  refine g_if_ne (pc9 := 17) C rfl 42 dX11_agree_14 rfl (fun c_3 => ?_) (fun c_3 => ?_)
  · have hns : ¬ okI 8 u := pI_ye c_3
    refine g_st (σ9 := sN σ (0) 0 (nI (1))) ((qt_2 hns).trans (by show sN (sN σ (0) 0 (nI (0))) (0) 0 (nI (1)) = sN σ (0) 0 (nI (1)); rw [sN_sN])) ?_
    refine g_iconst (pc9 := 43) C rfl (nI (0)) dX11_agree_42 rfl ?_
    exact g_ireturn C hr hlk dX11_agree_43 (by first | exact Or.inl ⟨hns, rfl⟩ | exact Or.inr (Or.inl ⟨⟨k, hb_k, rfl⟩, hset, rfl⟩))
  · have hns : ¬ (¬ okI 8 u) := pI_no c_3
    rw [qf_2 hns]
    obtain ⟨k, hb_k, hx_k⟩ := Classical.not_not.mp hns
    subst hx_k
    refine g_aload_n (pc9 := 18) C rfl 0 dX11_agree_17 rfl rfl ?_
    refine g_iload_n (pc9 := 19) C rfl 1 dX11_agree_18 rfl rfl ?_
    refine g_iconst (pc9 := 20) C rfl (nI (1)) dX11_agree_19 rfl ?_
    refine g_icmp_lt (pc9 := 23) C rfl 30 dX11_agree_20 rfl (fun c_4 => ?_) (fun c_4 => ?_)
    · have hset : ¬ okR 1 255 x := fun h => h.1 c_4
      refine g_iconst (pc9 := 31) C rfl (nI (1)) dX11_agree_30 rfl ?_
      refine g_goto C 35 dX11_agree_31 rfl ?_
      refine g_iconst (pc9 := 36) C rfl (nI (2)) dX11_agree_35 rfl ?_
      refine g_callVi (nn := 2) (rest := []) (pc9 := 39) C rfl (0) [.int (nI (1)), .int (nI (2))] rfl dX11_agree_36 (m_throws1 l w (sN σ (0) 0 (nI (0))) 2) gX11_agree_X11_throwsIf (by decide) (ce_0 w (sN σ (0) 0 (nI (0)))) rfl rfl rfl rfl rfl (by decide +kernel) ⟨by decide, by decide⟩ rfl (Nat.le_of_ble_eq_true rfl) ⟨by decide, by decide⟩ (fun r_5 σ_5 q_5 => ?_)
      obtain ⟨qs_5, qr_5⟩ := q_5
      rw [qr_5]
      refine g_st (σ9 := sN σ (0) 0 (nI (2))) (qs_5.trans (by show sN (sN σ (0) 0 (nI (0))) (0) 0 (nI (2)) = sN σ (0) 0 (nI (2)); rw [sN_sN])) ?_
      refine g_if_eq (pc9 := 42) C rfl 44 dX11_agree_39 rfl (fun c_6 => ?_) (fun c_6 => ?_)
      · exact absurd c_6 (by decide)
      · refine g_iconst (pc9 := 43) C rfl (nI (0)) dX11_agree_42 rfl ?_
        exact g_ireturn C hr hlk dX11_agree_43 (by first | exact Or.inl ⟨hns, rfl⟩ | exact Or.inr (Or.inl ⟨⟨k, hb_k, rfl⟩, hset, rfl⟩))
    · have h0 : ¬ x < nI 1 := c_4
      refine g_iload_n (pc9 := 24) C rfl 1 dX11_agree_23 rfl rfl ?_
      refine g_sipush (pc9 := 27) C rfl (nI (255)) dX11_agree_24 rfl ?_
      refine g_icmp_le (pc9 := 30) C rfl 34 dX11_agree_27 rfl (fun c_7 => ?_) (fun c_7 => ?_)
      · have hset : okR 1 255 x := ⟨h0, Int32.not_lt.mpr c_7⟩
        refine g_iconst (pc9 := 35) C rfl (nI (0)) dX11_agree_34 rfl ?_
        refine g_iconst (pc9 := 36) C rfl (nI (2)) dX11_agree_35 rfl ?_
        refine g_callVi (nn := 2) (rest := []) (pc9 := 39) C rfl (0) [.int (nI (0)), .int (nI (2))] rfl dX11_agree_36 (m_throws0 l w (sN σ (0) 0 (nI (0))) 2) gX11_agree_X11_throwsIf (by decide) (ce_0 w (sN σ (0) 0 (nI (0)))) rfl rfl rfl rfl rfl (by decide +kernel) ⟨by decide, by decide⟩ rfl (Nat.le_of_ble_eq_true rfl) ⟨by decide, by decide⟩ (fun r_8 σ_8 q_8 => ?_)
        obtain ⟨qs_8, qr_8⟩ := q_8
        rw [qs_8, qr_8]
        refine g_if_eq (pc9 := 42) C rfl 44 dX11_agree_39 rfl (fun c_9 => ?_) (fun c_9 => ?_)
        · refine g_iconst (pc9 := 45) C rfl (nI (0)) dX11_agree_44 rfl ?_
          refine g_istore (pc9 := 47) C rfl [(4, .int (nI (0))), (0, .ref (w.1 (0))), (1, .int (x)), (2, .int (nI (k))), (3, .int (nI (1)))] dX11_agree_45 (by decide) rfl ?_
          refine g_iconst (pc9 := 48) C rfl (nI (1)) dX11_agree_47 rfl ?_
          refine g_istore (pc9 := 50) C rfl [(5, .int (nI (1))), (4, .int (nI (0))), (0, .ref (w.1 (0))), (1, .int (x)), (2, .int (nI (k))), (3, .int (nI (1)))] dX11_agree_48 (by decide) rfl ?_
          refine g_iconst (pc9 := 51) C rfl (nI (0)) dX11_agree_50 rfl ?_
          refine g_istore (pc9 := 53) C rfl [(6, .int (nI (0))), (5, .int (nI (1))), (4, .int (nI (0))), (0, .ref (w.1 (0))), (1, .int (x)), (2, .int (nI (k))), (3, .int (nI (1)))] dX11_agree_51 (by decide) rfl ?_
          refine g_sub [0, 1, 2, 3, 4, 5, 6] [(6, .int (nI (0))), (5, .int (nI (1))), (4, .int (nI (0))), (0, .ref (w.1 (0))), (1, .int (x)), (2, .int (nI (k))), (3, .int (nI (1)))] rfl ?_
          refine g_l2 (x9 := pI (mskG σ x 0)) (pI_t trivial).symm ?_
          refine g_lp1 (α := Nat) (fun s9 => s9 ≤ 8) (fun s9 => 8 - s9) (fun s9 => G p l e _ s m args below meth c _ w A _ (sN σ (0) 0 (nI (0))) 0 0 53 [(6, .int (nI (s9))), (5, .int (pI (mskG σ x s9))), (4, .int (mskS σ x s9)), (0, .ref (w.1 (0))), (1, .int (x)), (2, .int (nI (k))), (3, .int (nI (1)))] []) (fun s9 hI0 ih0 => ?_) (0) (Nat.zero_le _)
          refine g_iload (pc9 := 55) C rfl 0 dX11_agree_53 rfl ?_
          refine g_bipush (pc9 := 57) C rfl (nI (8)) dX11_agree_55 rfl ?_
          refine g_icmp_ge (pc9 := 60) C rfl 123 dX11_agree_57 rfl (fun c_10 => ?_) (fun c_10 => ?_)
          · replace c_10 := (nI_leI (by omega) (by omega)).mp c_10
            have h8 : s9 = 8 := by omega
            subst h8
            refine g_sub [1, 2, 3, 4, 5, 6] [(5, .int (pI (mskG σ x 8))), (4, .int (mskS σ x 8)), (0, .ref (w.1 (0))), (1, .int (x)), (2, .int (nI (k))), (3, .int (nI (1)))] rfl ?_
            refine g_aload_n (pc9 := 124) C rfl 2 dX11_agree_123 rfl rfl ?_
            refine g_iload (pc9 := 126) C rfl 0 dX11_agree_124 rfl ?_
            refine g_if_ne (pc9 := 129) C rfl 133 dX11_agree_126 rfl (fun c_11 => ?_) (fun c_11 => ?_)
            · have hgd : mskG σ x 8 := pI_ye c_11
              refine g_iconst (pc9 := 134) C rfl (nI (0)) dX11_agree_133 rfl ?_
              refine g_iconst (pc9 := 135) C rfl (nI (3)) dX11_agree_134 rfl ?_
              refine g_callVi (nn := 2) (rest := []) (pc9 := 138) C rfl (0) [.int (nI (0)), .int (nI (3))] rfl dX11_agree_135 (m_throws0 l w (sN σ (0) 0 (nI (0))) 3) gX11_agree_X11_throwsIf (by decide) (ce_0 w (sN σ (0) 0 (nI (0)))) rfl rfl rfl rfl rfl (by decide +kernel) ⟨by decide, by decide⟩ rfl (Nat.le_of_ble_eq_true rfl) ⟨by decide, by decide⟩ (fun r_12 σ_12 q_12 => ?_)
              obtain ⟨qs_12, qr_12⟩ := q_12
              rw [qs_12, qr_12]
              refine g_if_eq (pc9 := 141) C rfl 143 dX11_agree_138 rfl (fun c_13 => ?_) (fun c_13 => ?_)
              · refine g_iload_n (pc9 := 144) C rfl 3 dX11_agree_143 rfl rfl ?_
                refine g_callSi (nn := 1) (rest := []) (pc9 := 147) C rfl [.int (x)] rfl dX11_agree_144 (m_bitCount l w _ x) gX11_agree_J6_bitCount_0f7a4 rfl rfl rfl (by decide +kernel) ⟨by decide, by decide⟩ rfl (Nat.le_of_ble_eq_true rfl) ⟨by decide, by decide⟩ (fun r_14 σ_14 q_14 => ?_)
                obtain ⟨qs_14, qr_14⟩ := q_14
                rw [qs_14, qr_14]
                clear qs_14 qr_14
                refine g_istore (pc9 := 149) C rfl [(6, .int (bC x)), (5, .int (pI (mskG σ x 8))), (4, .int (mskS σ x 8)), (0, .ref (w.1 (0))), (1, .int (x)), (2, .int (nI (k))), (3, .int (nI (1)))] dX11_agree_147 (by decide) rfl ?_
                refine g_st (σ9 := sI (sI (mT σ 0) 12 (iA σ 12)) 13 (iA σ 13)) (by rw [show sI (mT σ 0) 12 (iA σ 12) = mT σ 0 from sI_self]; exact (show sI (mT σ 0) 13 (iA (mT σ 0) 13) = mT σ 0 from sI_self).symm) ?_
                refine g_aload_n (pc9 := 150) C rfl 3 dX11_agree_149 rfl rfl ?_
                refine g_iconst (pc9 := 151) C rfl (nI (0)) dX11_agree_150 rfl ?_
                refine g_put (pc9 := 154) C rfl (0) 21 dX11_agree_151 (by decide) (ce_0 w (sI (sI (sN σ (0) 0 (nI (0))) (12) (iA σ 12)) (13) (iA σ 13))) (rfl) hin_11 hl_129 tyX11 tyX11_ok nmX11 rfl (by decide) rfl rfl rfl (Nat.le_of_ble_eq_true rfl) ?_
                refine g_iconst (pc9 := 155) C rfl (nI (1)) dX11_agree_154 rfl ?_
                refine g_istore (pc9 := 157) C rfl [(7, .int (nI (1))), (6, .int (bC x)), (5, .int (pI (mskG σ x 8))), (4, .int (mskS σ x 8)), (0, .ref (w.1 (0))), (1, .int (x)), (2, .int (nI (k))), (3, .int (nI (1)))] dX11_agree_155 (by decide) rfl ?_
                refine g_sub [0, 1, 3, 4, 5, 6, 7] [(7, .int (nI (1))), (6, .int (bC x)), (4, .int (mskS σ x 8)), (0, .ref (w.1 (0))), (1, .int (x)), (2, .int (nI (k))), (3, .int (nI (1)))] rfl ?_
                refine g_st (σ9 := sN (sI (sI (sN σ (0) 0 (nI (0))) (12) ((iA σ 12))) (13) ((magF σ x 1 (0)).2)) (0) 21 (nI ((magF σ x 1 (0)).1))) rfl ?_
                refine g_lp2 (α := Nat) (β := Nat → Int32) (fun v g9 => v ≤ 4095) (fun v g9 => 4095 - v) (fun v g9 => G p l e _ s m args below meth c _ w A _ (sN (sI (sI (sN σ (0) 0 (nI (0))) (12) (g9)) (13) ((magF σ x 1 (v)).2)) (0) 21 (nI ((magF σ x 1 (v)).1))) 0 0 157 [(7, .int (nI (v + 1))), (6, .int (bC x)), (4, .int (mskS σ x 8)), (0, .ref (w.1 (0))), (1, .int (x)), (2, .int (nI (k))), (3, .int (nI (1)))] []) (fun v g9 hI1 ih1 => ?_) (0) (iA σ 12) (Nat.zero_le _)
                refine g_iload (pc9 := 159) C rfl 0 dX11_agree_157 rfl ?_
                refine g_sipush (pc9 := 162) C rfl (nI (4096)) dX11_agree_159 rfl ?_
                refine g_icmp_ge (pc9 := 165) C rfl 263 dX11_agree_162 rfl (fun c_15 => ?_) (fun c_15 => ?_)
                · replace c_15 := (nI_leI (by omega) (by omega)).mp c_15
                  have hv9 : v = 4095 := by omega
                  refine g_aload_n (pc9 := 264) C rfl 3 dX11_agree_263 rfl rfl ?_
                  refine g_iload_n (pc9 := 265) C rfl 5 dX11_agree_264 rfl rfl ?_
                  refine g_callVv (nn := 1) (rest := []) (pc9 := 268) C rfl (0) [.int (nI (k))] rfl dX11_agree_265 (m_X11_puts l w (sI (mT σ 0) 12 g9) (magF σ x 1 (v)) (by rw [hv9]; exact (hG hset hgd).1) (by rw [hv9]; exact (hG hset hgd).2) k hb_k) gX11_agree_X11_puts (by decide) (ce_0 w (sN (sI (sI (sN σ (0) 0 (nI (0))) (12) (g9)) (13) ((magF σ x 1 (v)).2)) (0) 21 (nI ((magF σ x 1 (v)).1)))) rfl rfl rfl rfl rfl (by decide +kernel) ⟨by decide, by decide⟩ rfl (Nat.le_of_ble_eq_true rfl) ⟨by decide, by decide⟩ (fun σ_16 q_16 => ?_)
                  replace q_16 : σ_16 = (puS (sI (mT σ 0) 12 g9) (magF σ x 1 (v)) k) := q_16
                  rw [q_16]
                  clear q_16
                  refine g_aload_n (pc9 := 269) C rfl 3 dX11_agree_268 rfl rfl ?_
                  refine g_get (v := .int (nI ((magF σ x 1 (v)).1))) (pc9 := 272) C rfl (0) 21 dX11_agree_269 (by decide) (ce_0 w ((puS (sI (mT σ 0) 12 g9) (magF σ x 1 (v)) k))) hin_11 hl_129 rfl (by decide) rfl (congrArg (fun z => some (Value.int z)) ((nF_I.trans (nF_I.trans (nF_I.trans nF_s))))) ?_
                  exact g_ireturn C hr hlk dX11_agree_272 (Or.inr (Or.inr ⟨k, hb_k, rfl, hset, Or.inr ⟨hgd, ⟨g9, by rw [hv9]⟩, by rw [hv9]⟩⟩))
                · replace c_15 := (not_congr (nI_leI (by omega) (by omega))).mp c_15
                  refine g_iload (pc9 := 167) C rfl 0 dX11_agree_165 rfl ?_
                  refine g_iload (pc9 := 169) C rfl 2 dX11_agree_167 rfl ?_
                  refine g_iconst (pc9 := 170) C rfl ((-1)) dX11_agree_169 rfl ?_
                  refine g_ixor (pc9 := 171) C rfl dX11_agree_170 ?_
                  refine g_iand (pc9 := 172) C rfl dX11_agree_171 ?_
                  refine g_if_eq (pc9 := 175) C rfl 178 dX11_agree_172 rfl (fun c_17 => ?_) (fun c_17 => ?_)
                  · have hin := Classical.not_not.mp (fun h => h c_17)
                    refine g_iconst (pc9 := 179) C rfl (nI (0)) dX11_agree_178 rfl ?_
                    refine g_istore (pc9 := 181) C rfl [(8, .int (nI (0))), (7, .int (nI (v + 1))), (6, .int (bC x)), (4, .int (mskS σ x 8)), (0, .ref (w.1 (0))), (1, .int (x)), (2, .int (nI (k))), (3, .int (nI (1)))] dX11_agree_179 (by decide) rfl ?_
                    refine g_iconst (pc9 := 182) C rfl (nI (0)) dX11_agree_181 rfl ?_
                    refine g_istore (pc9 := 184) C rfl [(9, .int (nI (0))), (8, .int (nI (0))), (7, .int (nI (v + 1))), (6, .int (bC x)), (4, .int (mskS σ x 8)), (0, .ref (w.1 (0))), (1, .int (x)), (2, .int (nI (k))), (3, .int (nI (1)))] dX11_agree_182 (by decide) rfl ?_
                    refine g_sub [0, 1, 2, 3, 4, 5, 6, 7, 8] [(9, .int (nI (0))), (8, .int (nI (0))), (7, .int (nI (v + 1))), (6, .int (bC x)), (4, .int (mskS σ x 8)), (0, .ref (w.1 (0))), (1, .int (x)), (2, .int (nI (k))), (3, .int (nI (1)))] rfl ?_
                    refine g_lp2 (α := Nat) (β := Nat → Int32) (fun s9 g8 => s9 ≤ 8) (fun s9 g8 => 8 - s9) (fun s9 g8 => G p l e _ s m args below meth c _ w A _ (sN (sI (sI (sN σ (0) 0 (nI (0))) (12) (g8)) (13) ((magF σ x 1 (v)).2)) (0) 21 (nI ((magF σ x 1 (v)).1))) 0 0 184 [(9, .int (nI (s9))), (8, .int (nI (cntU (mhoP σ x (nI (v + 1))) s9))), (7, .int (nI (v + 1))), (6, .int (bC x)), (4, .int (mskS σ x 8)), (0, .ref (w.1 (0))), (1, .int (x)), (2, .int (nI (k))), (3, .int (nI (1)))] []) (fun s9 g8 hI2 ih2 => ?_) (0) (g9) (Nat.zero_le _)
                    have hcn := cntU_le (q := mhoP σ x (nI (v + 1))) s9
                    refine g_iload (pc9 := 186) C rfl 0 dX11_agree_184 rfl ?_
                    refine g_bipush (pc9 := 188) C rfl (nI (8)) dX11_agree_186 rfl ?_
                    refine g_icmp_ge (pc9 := 191) C rfl 228 dX11_agree_188 rfl (fun c_18 => ?_) (fun c_18 => ?_)
                    · replace c_18 := (nI_leI (by omega) (by omega)).mp c_18
                      have h8 : s9 = 8 := by omega
                      refine g_iload_n (pc9 := 229) C rfl 8 dX11_agree_228 rfl rfl ?_
                      refine g_if_eq (pc9 := 232) C rfl 242 dX11_agree_229 rfl (fun c_19 => ?_) (fun c_19 => ?_)
                      · exact absurd c_19 (by decide)
                      · refine g_iload (pc9 := 234) C rfl 1 dX11_agree_232 rfl ?_
                        refine g_iload (pc9 := 236) C rfl 3 dX11_agree_234 rfl ?_
                        refine g_icmp_ne (pc9 := 239) C rfl 257 dX11_agree_236 rfl (fun c_20 => ?_) (fun c_20 => ?_)
                        · have hF : magF σ x 1 (v + 1) = magF σ x 1 (v) := cI_f (fun h => c_20 (by have := h.2; rw [if_pos rfl] at this; rw [h8]; exact this))
                          refine g_iinc (pc9 := 260) C rfl [(7, .int (nI (v + 1 + 1))), (9, .int (nI (s9))), (8, .int (nI (cntU (mhoP σ x (nI (v + 1))) s9))), (6, .int (bC x)), (4, .int (mskS σ x 8)), (0, .ref (w.1 (0))), (1, .int (x)), (2, .int (nI (k))), (3, .int (nI (1)))] 2 (nI (v + 1 + 1)) dX11_agree_257 rfl (nI_1 (v + 1)) (by decide) rfl ?_
                          refine g_goto C 157 dX11_agree_260 rfl ?_
                          refine g_sub [0, 3, 4, 5, 6, 7, 8] [(7, .int (nI (v + 1 + 1))), (6, .int (bC x)), (4, .int (mskS σ x 8)), (0, .ref (w.1 (0))), (1, .int (x)), (2, .int (nI (k))), (3, .int (nI (1)))] rfl ?_
                          refine g_st (σ9 := sN (sI (sI (sN σ (0) 0 (nI (0))) (12) (g8)) (13) ((magF σ x 1 (v + 1)).2)) (0) 21 (nI ((magF σ x 1 (v + 1)).1))) (by rw [hF]) ?_
                          exact ih1 (v + 1) g8 (by omega) (by omega)
                        · have hF : magF σ x 1 (v + 1) = maA (magF σ x 1 (v)) (nI (v + 1)) := cI_t ⟨hin, by rw [if_pos rfl]; rw [h8] at c_20; exact Classical.not_not.mp (fun h => h c_20)⟩
                          refine g_goto C 251 dX11_agree_239 rfl ?_
                          refine g_aload_n (pc9 := 252) C rfl 5 dX11_agree_251 rfl rfl ?_
                          refine g_iload (pc9 := 254) C rfl 2 dX11_agree_252 rfl ?_
                          refine g_callVv (nn := 1) (rest := []) (pc9 := 257) C rfl (0) [.int (nI (v + 1))] rfl dX11_agree_254 (m_X11_adds l w (sI (mT σ 0) 12 g8) (magF σ x 1 (v)) (hB v (by omega) hset hgd) (nI (v + 1))) gX11_agree_X11_adds (by decide) (ce_0 w (sN (sI (sI (sN σ (0) 0 (nI (0))) (12) (g8)) (13) ((magF σ x 1 (v)).2)) (0) 21 (nI ((magF σ x 1 (v)).1)))) rfl rfl rfl rfl rfl (by decide +kernel) ⟨by decide, by decide⟩ rfl (Nat.le_of_ble_eq_true rfl) ⟨by decide, by decide⟩ (fun σ_21 q_21 => ?_)
                          replace q_21 : σ_21 = msSt (sI (mT σ 0) 12 g8) (maA (magF σ x 1 (v)) (nI (v + 1))) := q_21
                          rw [← hF] at q_21
                          rw [q_21]
                          clear hF
                          have hF : magF σ x 1 (v + 1) = magF σ x 1 (v + 1) := rfl
                          refine g_iinc (pc9 := 260) C rfl [(7, .int (nI (v + 1 + 1))), (9, .int (nI (s9))), (8, .int (nI (cntU (mhoP σ x (nI (v + 1))) s9))), (6, .int (bC x)), (4, .int (mskS σ x 8)), (0, .ref (w.1 (0))), (1, .int (x)), (2, .int (nI (k))), (3, .int (nI (1)))] 2 (nI (v + 1 + 1)) dX11_agree_257 rfl (nI_1 (v + 1)) (by decide) rfl ?_
                          refine g_goto C 157 dX11_agree_260 rfl ?_
                          refine g_sub [0, 3, 4, 5, 6, 7, 8] [(7, .int (nI (v + 1 + 1))), (6, .int (bC x)), (4, .int (mskS σ x 8)), (0, .ref (w.1 (0))), (1, .int (x)), (2, .int (nI (k))), (3, .int (nI (1)))] rfl ?_
                          exact ih1 (v + 1) g8 (by omega) (by omega)
                    · replace c_18 := (not_congr (nI_leI (by omega) (by omega))).mp c_18
                      refine g_iload (pc9 := 193) C rfl 1 dX11_agree_191 rfl ?_
                      refine g_iload_n (pc9 := 194) C rfl 6 dX11_agree_193 rfl rfl ?_
                      refine g_iload (pc9 := 196) C rfl 0 dX11_agree_194 rfl ?_
                      refine g_ishr (pc9 := 197) C rfl dX11_agree_196 ?_
                      refine g_iconst (pc9 := 198) C rfl (nI (1)) dX11_agree_197 rfl ?_
                      refine g_iand (pc9 := 199) C rfl dX11_agree_198 ?_
                      refine g_iconst (pc9 := 200) C rfl (nI (1)) dX11_agree_199 rfl ?_
                      refine g_icmp_ne (pc9 := 203) C rfl 218 dX11_agree_200 rfl (fun c_22 => ?_) (fun c_22 => ?_)
                      · have hs : cntU (mhoP σ x (nI (v + 1))) (s9 + 1) = cntU (mhoP σ x (nI (v + 1))) s9 := cntU_n (q := mhoP σ x (nI (v + 1))) (fun h => c_22 (bt_1.mpr h.1))
                        refine g_iconst (pc9 := 219) C rfl (nI (0)) dX11_agree_218 rfl ?_
                        refine g_iaddN (pc9 := 220) C rfl dX11_agree_219 ?_
                        refine g_istore (pc9 := 222) C rfl [(8, .int (nI ((cntU (mhoP σ x (nI (v + 1))) s9) + 0))), (9, .int (nI (s9))), (7, .int (nI (v + 1))), (6, .int (bC x)), (4, .int (mskS σ x 8)), (0, .ref (w.1 (0))), (1, .int (x)), (2, .int (nI (k))), (3, .int (nI (1)))] dX11_agree_220 (by decide) rfl ?_
                        refine g_iinc (pc9 := 225) C rfl [(9, .int (nI (s9 + 1))), (8, .int (nI ((cntU (mhoP σ x (nI (v + 1))) s9) + 0))), (7, .int (nI (v + 1))), (6, .int (bC x)), (4, .int (mskS σ x 8)), (0, .ref (w.1 (0))), (1, .int (x)), (2, .int (nI (k))), (3, .int (nI (1)))] 1 (nI (s9 + 1)) dX11_agree_222 rfl (nI_1 (s9)) (by decide) rfl ?_
                        refine g_goto C 184 dX11_agree_225 rfl ?_
                        refine g_sub [0, 1, 2, 3, 4, 5, 6, 7, 8] [(9, .int (nI (s9 + 1))), (8, .int (nI ((cntU (mhoP σ x (nI (v + 1))) s9) + 0))), (7, .int (nI (v + 1))), (6, .int (bC x)), (4, .int (mskS σ x 8)), (0, .ref (w.1 (0))), (1, .int (x)), (2, .int (nI (k))), (3, .int (nI (1)))] rfl ?_
                        rw [show (cntU (mhoP σ x (nI (v + 1))) s9) + 0 = cntU (mhoP σ x (nI (v + 1))) (s9 + 1) from by omega]
                        exact ih2 (s9 + 1) g8 (by omega) (by omega)
                      · have hbt : bt x s9 := bt_1.mp (Classical.not_not.mp (fun h => h c_22))
                        refine g_aload_n (pc9 := 204) C rfl 5 dX11_agree_203 rfl rfl ?_
                        refine g_iload (pc9 := 206) C rfl 0 dX11_agree_204 rfl ?_
                        refine g_iload (pc9 := 208) C rfl 2 dX11_agree_206 rfl ?_
                        refine g_callVi (nn := 2) (rest := [.int (nI (cntU (mhoP σ x (nI (v + 1))) s9))]) (pc9 := 211) C rfl (0) [.int (nI (s9)), .int (nI (v + 1))] rfl dX11_agree_208 (m_hasC l w (sN (sI (sI (sN σ (0) 0 (nI (0))) (12) (g8)) (13) ((magF σ x 1 (v)).2)) (0) 21 (nI ((magF σ x 1 (v)).1))) s9 (by omega) (hM s9 (by omega)) (msk_pl (by omega) hgd hbt).1 (nI (v + 1))) gX11_agree_X11_hasCluster (by decide) (ce_0 w (sN (sI (sI (sN σ (0) 0 (nI (0))) (12) (g8)) (13) ((magF σ x 1 (v)).2)) (0) 21 (nI ((magF σ x 1 (v)).1)))) rfl rfl rfl rfl rfl (by decide +kernel) ⟨by decide, by decide⟩ rfl (Nat.le_of_ble_eq_true rfl) ⟨by decide, by decide⟩ (fun r_23 σ_23 q_23 => ?_)
                        obtain ⟨g7, qs_23, qr_23⟩ := q_23
                        replace qr_23 : r_23 = pI (mHas σ s9 (nI (v + 1))) := qr_23
                        replace qs_23 : σ_23 = sN (sI (sI (sN σ (0) 0 (nI (0))) (12) (g7)) (13) ((magF σ x 1 (v)).2)) (0) 21 (nI ((magF σ x 1 (v)).1)) := qs_23.trans (mer12 _ _ _ _)
                        rw [qs_23, qr_23]
                        refine g_if_eq (pc9 := 214) C rfl 218 dX11_agree_211 rfl (fun c_24 => ?_) (fun c_24 => ?_)
                        · have hs : cntU (mhoP σ x (nI (v + 1))) (s9 + 1) = cntU (mhoP σ x (nI (v + 1))) s9 := cntU_n (q := mhoP σ x (nI (v + 1))) (fun h => pI_no c_24 h.2)
                          refine g_iconst (pc9 := 219) C rfl (nI (0)) dX11_agree_218 rfl ?_
                          refine g_iaddN (pc9 := 220) C rfl dX11_agree_219 ?_
                          refine g_istore (pc9 := 222) C rfl [(8, .int (nI ((cntU (mhoP σ x (nI (v + 1))) s9) + 0))), (9, .int (nI (s9))), (7, .int (nI (v + 1))), (6, .int (bC x)), (4, .int (mskS σ x 8)), (0, .ref (w.1 (0))), (1, .int (x)), (2, .int (nI (k))), (3, .int (nI (1)))] dX11_agree_220 (by decide) rfl ?_
                          refine g_iinc (pc9 := 225) C rfl [(9, .int (nI (s9 + 1))), (8, .int (nI ((cntU (mhoP σ x (nI (v + 1))) s9) + 0))), (7, .int (nI (v + 1))), (6, .int (bC x)), (4, .int (mskS σ x 8)), (0, .ref (w.1 (0))), (1, .int (x)), (2, .int (nI (k))), (3, .int (nI (1)))] 1 (nI (s9 + 1)) dX11_agree_222 rfl (nI_1 (s9)) (by decide) rfl ?_
                          refine g_goto C 184 dX11_agree_225 rfl ?_
                          refine g_sub [0, 1, 2, 3, 4, 5, 6, 7, 8] [(9, .int (nI (s9 + 1))), (8, .int (nI ((cntU (mhoP σ x (nI (v + 1))) s9) + 0))), (7, .int (nI (v + 1))), (6, .int (bC x)), (4, .int (mskS σ x 8)), (0, .ref (w.1 (0))), (1, .int (x)), (2, .int (nI (k))), (3, .int (nI (1)))] rfl ?_
                          rw [show (cntU (mhoP σ x (nI (v + 1))) s9) + 0 = cntU (mhoP σ x (nI (v + 1))) (s9 + 1) from by omega]
                          exact ih2 (s9 + 1) g7 (by omega) (by omega)
                        · have hs : cntU (mhoP σ x (nI (v + 1))) (s9 + 1) = cntU (mhoP σ x (nI (v + 1))) s9 + 1 := cntU_y (q := mhoP σ x (nI (v + 1))) ⟨hbt, pI_ye c_24⟩
                          refine g_iconst (pc9 := 215) C rfl (nI (1)) dX11_agree_214 rfl ?_
                          refine g_goto C 219 dX11_agree_215 rfl ?_
                          refine g_iaddN (pc9 := 220) C rfl dX11_agree_219 ?_
                          refine g_istore (pc9 := 222) C rfl [(8, .int (nI ((cntU (mhoP σ x (nI (v + 1))) s9) + 1))), (9, .int (nI (s9))), (7, .int (nI (v + 1))), (6, .int (bC x)), (4, .int (mskS σ x 8)), (0, .ref (w.1 (0))), (1, .int (x)), (2, .int (nI (k))), (3, .int (nI (1)))] dX11_agree_220 (by decide) rfl ?_
                          refine g_iinc (pc9 := 225) C rfl [(9, .int (nI (s9 + 1))), (8, .int (nI ((cntU (mhoP σ x (nI (v + 1))) s9) + 1))), (7, .int (nI (v + 1))), (6, .int (bC x)), (4, .int (mskS σ x 8)), (0, .ref (w.1 (0))), (1, .int (x)), (2, .int (nI (k))), (3, .int (nI (1)))] 1 (nI (s9 + 1)) dX11_agree_222 rfl (nI_1 (s9)) (by decide) rfl ?_
                          refine g_goto C 184 dX11_agree_225 rfl ?_
                          refine g_sub [0, 1, 2, 3, 4, 5, 6, 7, 8] [(9, .int (nI (s9 + 1))), (8, .int (nI ((cntU (mhoP σ x (nI (v + 1))) s9) + 1))), (7, .int (nI (v + 1))), (6, .int (bC x)), (4, .int (mskS σ x 8)), (0, .ref (w.1 (0))), (1, .int (x)), (2, .int (nI (k))), (3, .int (nI (1)))] rfl ?_
                          rw [show (cntU (mhoP σ x (nI (v + 1))) s9) + 1 = cntU (mhoP σ x (nI (v + 1))) (s9 + 1) from by omega]
                          exact ih2 (s9 + 1) g7 (by omega) (by omega)
                  · have hF : magF σ x 1 (v + 1) = magF σ x 1 (v) := cI_f (fun h => c_17 h.1)
                    refine g_goto C 257 dX11_agree_175 rfl ?_
                    refine g_iinc (pc9 := 260) C rfl [(7, .int (nI (v + 1 + 1))), (6, .int (bC x)), (4, .int (mskS σ x 8)), (0, .ref (w.1 (0))), (1, .int (x)), (2, .int (nI (k))), (3, .int (nI (1)))] 0 (nI (v + 1 + 1)) dX11_agree_257 rfl (nI_1 (v + 1)) (by decide) rfl ?_
                    refine g_goto C 157 dX11_agree_260 rfl ?_
                    refine g_sub [0, 1, 2, 3, 4, 5, 6] [(7, .int (nI (v + 1 + 1))), (6, .int (bC x)), (4, .int (mskS σ x 8)), (0, .ref (w.1 (0))), (1, .int (x)), (2, .int (nI (k))), (3, .int (nI (1)))] rfl ?_
                    refine g_st (σ9 := sN (sI (sI (sN σ (0) 0 (nI (0))) (12) (g9)) (13) ((magF σ x 1 (v + 1)).2)) (0) 21 (nI ((magF σ x 1 (v + 1)).1))) (by rw [hF]) ?_
                    exact ih1 (v + 1) g9 (by omega) (by omega)
              · exact absurd c_13 (by decide)
            · have hgd : ¬ mskG σ x 8 := pI_no c_11
              refine g_iconst (pc9 := 130) C rfl (nI (1)) dX11_agree_129 rfl ?_
              refine g_goto C 134 dX11_agree_130 rfl ?_
              refine g_iconst (pc9 := 135) C rfl (nI (3)) dX11_agree_134 rfl ?_
              refine g_callVi (nn := 2) (rest := []) (pc9 := 138) C rfl (0) [.int (nI (1)), .int (nI (3))] rfl dX11_agree_135 (m_throws1 l w (sN σ (0) 0 (nI (0))) 3) gX11_agree_X11_throwsIf (by decide) (ce_0 w (sN σ (0) 0 (nI (0)))) rfl rfl rfl rfl rfl (by decide +kernel) ⟨by decide, by decide⟩ rfl (Nat.le_of_ble_eq_true rfl) ⟨by decide, by decide⟩ (fun r_25 σ_25 q_25 => ?_)
              obtain ⟨qs_25, qr_25⟩ := q_25
              rw [qr_25]
              refine g_st (σ9 := sN σ (0) 0 (nI (3))) (qs_25.trans (by show sN (sN σ (0) 0 (nI (0))) (0) 0 (nI (3)) = sN σ (0) 0 (nI (3)); rw [sN_sN])) ?_
              refine g_if_eq (pc9 := 141) C rfl 143 dX11_agree_138 rfl (fun c_26 => ?_) (fun c_26 => ?_)
              · exact absurd c_26 (by decide)
              · refine g_iconst (pc9 := 142) C rfl (nI (0)) dX11_agree_141 rfl ?_
                exact g_ireturn C hr hlk dX11_agree_142 (Or.inr (Or.inr ⟨k, hb_k, rfl, hset, Or.inl ⟨hgd, rfl⟩⟩))
          · replace c_10 := (not_congr (nI_leI (by omega) (by omega))).mp c_10
            refine g_iload_n (pc9 := 61) C rfl 4 dX11_agree_60 rfl rfl ?_
            refine g_iload (pc9 := 63) C rfl 0 dX11_agree_61 rfl ?_
            refine g_ishr (pc9 := 64) C rfl dX11_agree_63 ?_
            refine g_iconst (pc9 := 65) C rfl (nI (1)) dX11_agree_64 rfl ?_
            refine g_iand (pc9 := 66) C rfl dX11_agree_65 ?_
            refine g_if_ne (pc9 := 69) C rfl 72 dX11_agree_66 rfl (fun c_27 => ?_) (fun c_27 => ?_)
            · have hbt : bt x s9 := c_27
              have hS : mskS σ x (s9 + 1) = mKs σ s9 := if_pos hbt
              refine g_iload (pc9 := 74) C rfl 1 dX11_agree_72 rfl ?_
              refine g_if_eq (pc9 := 77) C rfl 106 dX11_agree_74 rfl (fun c_28 => ?_) (fun c_28 => ?_)
              · have hG9 : pI (mskG σ x (s9 + 1)) = nI 0 := pI_f (fun h => pI_no c_28 (h.1 hbt).1)
                refine g_iconst (pc9 := 107) C rfl (nI (0)) dX11_agree_106 rfl ?_
                refine g_istore (pc9 := 109) C rfl [(5, .int (nI (0))), (6, .int (nI (s9))), (4, .int (mskS σ x s9)), (0, .ref (w.1 (0))), (1, .int (x)), (2, .int (nI (k))), (3, .int (nI (1)))] dX11_agree_107 (by decide) rfl ?_
                refine g_aload_n (pc9 := 110) C rfl 3 dX11_agree_109 rfl rfl ?_
                refine g_iload (pc9 := 112) C rfl 1 dX11_agree_110 rfl ?_
                refine g_callVi (nn := 1) (rest := []) (pc9 := 115) C rfl (0) [.int (nI (s9))] rfl dX11_agree_112 (m_X11_kindsOf l w (mT σ 0) s9 (by omega) (hM s9 (by omega))) gX11_agree_X11_kindsOf (by decide) (ce_0 w (sN σ (0) 0 (nI (0)))) rfl rfl rfl rfl rfl (by decide +kernel) ⟨by decide, by decide⟩ rfl (Nat.le_of_ble_eq_true rfl) ⟨by decide, by decide⟩ (fun r_29 σ_29 q_29 => ?_)
                obtain ⟨qs_29, qr_29⟩ := q_29
                replace qr_29 : r_29 = mKs σ s9 := qr_29
                rw [qs_29, qr_29]
                clear qs_29 qr_29
                refine g_istore (pc9 := 117) C rfl [(4, .int (mKs σ s9)), (5, .int (nI (0))), (6, .int (nI (s9))), (0, .ref (w.1 (0))), (1, .int (x)), (2, .int (nI (k))), (3, .int (nI (1)))] dX11_agree_115 (by decide) rfl ?_
                refine g_iinc (pc9 := 120) C rfl [(6, .int (nI (s9 + 1))), (4, .int (mKs σ s9)), (5, .int (nI (0))), (0, .ref (w.1 (0))), (1, .int (x)), (2, .int (nI (k))), (3, .int (nI (1)))] 2 (nI (s9 + 1)) dX11_agree_117 rfl (nI_1 (s9)) (by decide) rfl ?_
                refine g_goto C 53 dX11_agree_120 rfl ?_
                refine g_sub [0, 2, 1, 3, 4, 5, 6] [(6, .int (nI (s9 + 1))), (5, .int (nI (0))), (4, .int (mKs σ s9)), (0, .ref (w.1 (0))), (1, .int (x)), (2, .int (nI (k))), (3, .int (nI (1)))] rfl ?_
                refine g_l2 hG9.symm ?_
                rw [← hS]
                exact ih0 (s9 + 1) (by omega) (by omega)
              · have hg1 := pI_ye c_28
                refine g_aload_n (pc9 := 78) C rfl 3 dX11_agree_77 rfl rfl ?_
                refine g_iload (pc9 := 80) C rfl 0 dX11_agree_78 rfl ?_
                refine g_callVi (nn := 1) (rest := []) (pc9 := 83) C rfl (0) [.int (nI (s9))] rfl dX11_agree_80 (m_X11_isPlain l w (mT σ 0) s9 (by omega) (hM s9 (by omega))) gX11_agree_X11_isPlain (by decide) (ce_0 w (sN σ (0) 0 (nI (0)))) rfl rfl rfl rfl rfl (by decide +kernel) ⟨by decide, by decide⟩ rfl (Nat.le_of_ble_eq_true rfl) ⟨by decide, by decide⟩ (fun r_30 σ_30 q_30 => ?_)
                obtain ⟨qs_30, qr_30⟩ := q_30
                replace qr_30 : r_30 = pI (mPl σ s9) := qr_30
                rw [qs_30, qr_30]
                clear qs_30 qr_30
                refine g_if_eq (pc9 := 86) C rfl 106 dX11_agree_83 rfl (fun c_31 => ?_) (fun c_31 => ?_)
                · have hG9 : pI (mskG σ x (s9 + 1)) = nI 0 := pI_f (fun h => pI_no c_31 (h.1 hbt).2.1)
                  refine g_iconst (pc9 := 107) C rfl (nI (0)) dX11_agree_106 rfl ?_
                  refine g_istore (pc9 := 109) C rfl [(5, .int (nI (0))), (6, .int (nI (s9))), (4, .int (mskS σ x s9)), (0, .ref (w.1 (0))), (1, .int (x)), (2, .int (nI (k))), (3, .int (nI (1)))] dX11_agree_107 (by decide) rfl ?_
                  refine g_aload_n (pc9 := 110) C rfl 3 dX11_agree_109 rfl rfl ?_
                  refine g_iload (pc9 := 112) C rfl 1 dX11_agree_110 rfl ?_
                  refine g_callVi (nn := 1) (rest := []) (pc9 := 115) C rfl (0) [.int (nI (s9))] rfl dX11_agree_112 (m_X11_kindsOf l w (mT σ 0) s9 (by omega) (hM s9 (by omega))) gX11_agree_X11_kindsOf (by decide) (ce_0 w (sN σ (0) 0 (nI (0)))) rfl rfl rfl rfl rfl (by decide +kernel) ⟨by decide, by decide⟩ rfl (Nat.le_of_ble_eq_true rfl) ⟨by decide, by decide⟩ (fun r_32 σ_32 q_32 => ?_)
                  obtain ⟨qs_32, qr_32⟩ := q_32
                  replace qr_32 : r_32 = mKs σ s9 := qr_32
                  rw [qs_32, qr_32]
                  clear qs_32 qr_32
                  refine g_istore (pc9 := 117) C rfl [(4, .int (mKs σ s9)), (5, .int (nI (0))), (6, .int (nI (s9))), (0, .ref (w.1 (0))), (1, .int (x)), (2, .int (nI (k))), (3, .int (nI (1)))] dX11_agree_115 (by decide) rfl ?_
                  refine g_iinc (pc9 := 120) C rfl [(6, .int (nI (s9 + 1))), (4, .int (mKs σ s9)), (5, .int (nI (0))), (0, .ref (w.1 (0))), (1, .int (x)), (2, .int (nI (k))), (3, .int (nI (1)))] 2 (nI (s9 + 1)) dX11_agree_117 rfl (nI_1 (s9)) (by decide) rfl ?_
                  refine g_goto C 53 dX11_agree_120 rfl ?_
                  refine g_sub [0, 2, 1, 3, 4, 5, 6] [(6, .int (nI (s9 + 1))), (5, .int (nI (0))), (4, .int (mKs σ s9)), (0, .ref (w.1 (0))), (1, .int (x)), (2, .int (nI (k))), (3, .int (nI (1)))] rfl ?_
                  refine g_l2 hG9.symm ?_
                  rw [← hS]
                  exact ih0 (s9 + 1) (by omega) (by omega)
                · have hg2 := pI_ye c_31
                  refine g_iload (pc9 := 88) C rfl 2 dX11_agree_86 rfl ?_
                  refine g_if_eq (pc9 := 91) C rfl 102 dX11_agree_88 rfl (fun c_33 => ?_) (fun c_33 => ?_)
                  · have hG9 : pI (mskG σ x (s9 + 1)) = nI 1 := pI_t ⟨fun _ => ⟨hg1, hg2, Or.inl c_33⟩, fun q => absurd hbt q⟩
                    refine g_iconst (pc9 := 103) C rfl (nI (1)) dX11_agree_102 rfl ?_
                    refine g_goto C 107 dX11_agree_103 rfl ?_
                    refine g_istore (pc9 := 109) C rfl [(5, .int (nI (1))), (6, .int (nI (s9))), (4, .int (mskS σ x s9)), (0, .ref (w.1 (0))), (1, .int (x)), (2, .int (nI (k))), (3, .int (nI (1)))] dX11_agree_107 (by decide) rfl ?_
                    refine g_aload_n (pc9 := 110) C rfl 3 dX11_agree_109 rfl rfl ?_
                    refine g_iload (pc9 := 112) C rfl 1 dX11_agree_110 rfl ?_
                    refine g_callVi (nn := 1) (rest := []) (pc9 := 115) C rfl (0) [.int (nI (s9))] rfl dX11_agree_112 (m_X11_kindsOf l w (mT σ 0) s9 (by omega) (hM s9 (by omega))) gX11_agree_X11_kindsOf (by decide) (ce_0 w (sN σ (0) 0 (nI (0)))) rfl rfl rfl rfl rfl (by decide +kernel) ⟨by decide, by decide⟩ rfl (Nat.le_of_ble_eq_true rfl) ⟨by decide, by decide⟩ (fun r_34 σ_34 q_34 => ?_)
                    obtain ⟨qs_34, qr_34⟩ := q_34
                    replace qr_34 : r_34 = mKs σ s9 := qr_34
                    rw [qs_34, qr_34]
                    clear qs_34 qr_34
                    refine g_istore (pc9 := 117) C rfl [(4, .int (mKs σ s9)), (5, .int (nI (1))), (6, .int (nI (s9))), (0, .ref (w.1 (0))), (1, .int (x)), (2, .int (nI (k))), (3, .int (nI (1)))] dX11_agree_115 (by decide) rfl ?_
                    refine g_iinc (pc9 := 120) C rfl [(6, .int (nI (s9 + 1))), (4, .int (mKs σ s9)), (5, .int (nI (1))), (0, .ref (w.1 (0))), (1, .int (x)), (2, .int (nI (k))), (3, .int (nI (1)))] 2 (nI (s9 + 1)) dX11_agree_117 rfl (nI_1 (s9)) (by decide) rfl ?_
                    refine g_goto C 53 dX11_agree_120 rfl ?_
                    refine g_sub [0, 2, 1, 3, 4, 5, 6] [(6, .int (nI (s9 + 1))), (5, .int (nI (1))), (4, .int (mKs σ s9)), (0, .ref (w.1 (0))), (1, .int (x)), (2, .int (nI (k))), (3, .int (nI (1)))] rfl ?_
                    refine g_l2 hG9.symm ?_
                    rw [← hS]
                    exact ih0 (s9 + 1) (by omega) (by omega)
                  · have hn0 : ¬ mskS σ x s9 = 0 := c_33
                    refine g_aload_n (pc9 := 92) C rfl 3 dX11_agree_91 rfl rfl ?_
                    refine g_iload (pc9 := 94) C rfl 0 dX11_agree_92 rfl ?_
                    refine g_callVi (nn := 1) (rest := []) (pc9 := 97) C rfl (0) [.int (nI (s9))] rfl dX11_agree_94 (m_X11_kindsOf l w (mT σ 0) s9 (by omega) (hM s9 (by omega))) gX11_agree_X11_kindsOf (by decide) (ce_0 w (sN σ (0) 0 (nI (0)))) rfl rfl rfl rfl rfl (by decide +kernel) ⟨by decide, by decide⟩ rfl (Nat.le_of_ble_eq_true rfl) ⟨by decide, by decide⟩ (fun r_35 σ_35 q_35 => ?_)
                    obtain ⟨qs_35, qr_35⟩ := q_35
                    replace qr_35 : r_35 = mKs σ s9 := qr_35
                    rw [qs_35, qr_35]
                    clear qs_35 qr_35
                    refine g_iload (pc9 := 99) C rfl 2 dX11_agree_97 rfl ?_
                    refine g_icmp_ne (pc9 := 102) C rfl 106 dX11_agree_99 rfl (fun c_36 => ?_) (fun c_36 => ?_)
                    · have hG9 : pI (mskG σ x (s9 + 1)) = nI 0 := pI_f (fun h => by rcases (h.1 hbt).2.2 with q | q; exact hn0 q; exact c_36 q)
                      refine g_iconst (pc9 := 107) C rfl (nI (0)) dX11_agree_106 rfl ?_
                      refine g_istore (pc9 := 109) C rfl [(5, .int (nI (0))), (6, .int (nI (s9))), (4, .int (mskS σ x s9)), (0, .ref (w.1 (0))), (1, .int (x)), (2, .int (nI (k))), (3, .int (nI (1)))] dX11_agree_107 (by decide) rfl ?_
                      refine g_aload_n (pc9 := 110) C rfl 3 dX11_agree_109 rfl rfl ?_
                      refine g_iload (pc9 := 112) C rfl 1 dX11_agree_110 rfl ?_
                      refine g_callVi (nn := 1) (rest := []) (pc9 := 115) C rfl (0) [.int (nI (s9))] rfl dX11_agree_112 (m_X11_kindsOf l w (mT σ 0) s9 (by omega) (hM s9 (by omega))) gX11_agree_X11_kindsOf (by decide) (ce_0 w (sN σ (0) 0 (nI (0)))) rfl rfl rfl rfl rfl (by decide +kernel) ⟨by decide, by decide⟩ rfl (Nat.le_of_ble_eq_true rfl) ⟨by decide, by decide⟩ (fun r_37 σ_37 q_37 => ?_)
                      obtain ⟨qs_37, qr_37⟩ := q_37
                      replace qr_37 : r_37 = mKs σ s9 := qr_37
                      rw [qs_37, qr_37]
                      clear qs_37 qr_37
                      refine g_istore (pc9 := 117) C rfl [(4, .int (mKs σ s9)), (5, .int (nI (0))), (6, .int (nI (s9))), (0, .ref (w.1 (0))), (1, .int (x)), (2, .int (nI (k))), (3, .int (nI (1)))] dX11_agree_115 (by decide) rfl ?_
                      refine g_iinc (pc9 := 120) C rfl [(6, .int (nI (s9 + 1))), (4, .int (mKs σ s9)), (5, .int (nI (0))), (0, .ref (w.1 (0))), (1, .int (x)), (2, .int (nI (k))), (3, .int (nI (1)))] 2 (nI (s9 + 1)) dX11_agree_117 rfl (nI_1 (s9)) (by decide) rfl ?_
                      refine g_goto C 53 dX11_agree_120 rfl ?_
                      refine g_sub [0, 2, 1, 3, 4, 5, 6] [(6, .int (nI (s9 + 1))), (5, .int (nI (0))), (4, .int (mKs σ s9)), (0, .ref (w.1 (0))), (1, .int (x)), (2, .int (nI (k))), (3, .int (nI (1)))] rfl ?_
                      refine g_l2 hG9.symm ?_
                      rw [← hS]
                      exact ih0 (s9 + 1) (by omega) (by omega)
                    · have hG9 : pI (mskG σ x (s9 + 1)) = nI 1 := pI_t ⟨fun _ => ⟨hg1, hg2, Or.inr c_36⟩, fun q => absurd hbt q⟩
                      refine g_iconst (pc9 := 103) C rfl (nI (1)) dX11_agree_102 rfl ?_
                      refine g_goto C 107 dX11_agree_103 rfl ?_
                      refine g_istore (pc9 := 109) C rfl [(5, .int (nI (1))), (6, .int (nI (s9))), (4, .int (mskS σ x s9)), (0, .ref (w.1 (0))), (1, .int (x)), (2, .int (nI (k))), (3, .int (nI (1)))] dX11_agree_107 (by decide) rfl ?_
                      refine g_aload_n (pc9 := 110) C rfl 3 dX11_agree_109 rfl rfl ?_
                      refine g_iload (pc9 := 112) C rfl 1 dX11_agree_110 rfl ?_
                      refine g_callVi (nn := 1) (rest := []) (pc9 := 115) C rfl (0) [.int (nI (s9))] rfl dX11_agree_112 (m_X11_kindsOf l w (mT σ 0) s9 (by omega) (hM s9 (by omega))) gX11_agree_X11_kindsOf (by decide) (ce_0 w (sN σ (0) 0 (nI (0)))) rfl rfl rfl rfl rfl (by decide +kernel) ⟨by decide, by decide⟩ rfl (Nat.le_of_ble_eq_true rfl) ⟨by decide, by decide⟩ (fun r_38 σ_38 q_38 => ?_)
                      obtain ⟨qs_38, qr_38⟩ := q_38
                      replace qr_38 : r_38 = mKs σ s9 := qr_38
                      rw [qs_38, qr_38]
                      clear qs_38 qr_38
                      refine g_istore (pc9 := 117) C rfl [(4, .int (mKs σ s9)), (5, .int (nI (1))), (6, .int (nI (s9))), (0, .ref (w.1 (0))), (1, .int (x)), (2, .int (nI (k))), (3, .int (nI (1)))] dX11_agree_115 (by decide) rfl ?_
                      refine g_iinc (pc9 := 120) C rfl [(6, .int (nI (s9 + 1))), (4, .int (mKs σ s9)), (5, .int (nI (1))), (0, .ref (w.1 (0))), (1, .int (x)), (2, .int (nI (k))), (3, .int (nI (1)))] 2 (nI (s9 + 1)) dX11_agree_117 rfl (nI_1 (s9)) (by decide) rfl ?_
                      refine g_goto C 53 dX11_agree_120 rfl ?_
                      refine g_sub [0, 2, 1, 3, 4, 5, 6] [(6, .int (nI (s9 + 1))), (5, .int (nI (1))), (4, .int (mKs σ s9)), (0, .ref (w.1 (0))), (1, .int (x)), (2, .int (nI (k))), (3, .int (nI (1)))] rfl ?_
                      refine g_l2 hG9.symm ?_
                      rw [← hS]
                      exact ih0 (s9 + 1) (by omega) (by omega)
            · have hbt : ¬ bt x s9 := fun h => h c_27
              have hS : mskS σ x (s9 + 1) = mskS σ x s9 := if_neg hbt
              have hG9 : pI (mskG σ x (s9 + 1)) = pI (mskG σ x s9) := pI_c ⟨fun h => h.2 hbt, fun h => ⟨fun q => absurd q hbt, fun _ => h⟩⟩
              refine g_goto C 117 dX11_agree_69 rfl ?_
              refine g_iinc (pc9 := 120) C rfl [(6, .int (nI (s9 + 1))), (5, .int (pI (mskG σ x s9))), (4, .int (mskS σ x s9)), (0, .ref (w.1 (0))), (1, .int (x)), (2, .int (nI (k))), (3, .int (nI (1)))] 0 (nI (s9 + 1)) dX11_agree_117 rfl (nI_1 (s9)) (by decide) rfl ?_
              refine g_goto C 53 dX11_agree_120 rfl ?_
              refine g_sub [0, 1, 2, 3, 4, 5, 6] [(6, .int (nI (s9 + 1))), (5, .int (pI (mskG σ x s9))), (4, .int (mskS σ x s9)), (0, .ref (w.1 (0))), (1, .int (x)), (2, .int (nI (k))), (3, .int (nI (1)))] rfl ?_
              refine g_l2 hG9.symm ?_
              rw [← hS]
              exact ih0 (s9 + 1) (by omega) (by omega)
        · exact absurd c_9 (by decide)
      · have hset : ¬ okR 1 255 x := fun h => h.2 (Int32.not_le.mp c_7)
        refine g_iconst (pc9 := 31) C rfl (nI (1)) dX11_agree_30 rfl ?_
        refine g_goto C 35 dX11_agree_31 rfl ?_
        refine g_iconst (pc9 := 36) C rfl (nI (2)) dX11_agree_35 rfl ?_
        refine g_callVi (nn := 2) (rest := []) (pc9 := 39) C rfl (0) [.int (nI (1)), .int (nI (2))] rfl dX11_agree_36 (m_throws1 l w (sN σ (0) 0 (nI (0))) 2) gX11_agree_X11_throwsIf (by decide) (ce_0 w (sN σ (0) 0 (nI (0)))) rfl rfl rfl rfl rfl (by decide +kernel) ⟨by decide, by decide⟩ rfl (Nat.le_of_ble_eq_true rfl) ⟨by decide, by decide⟩ (fun r_39 σ_39 q_39 => ?_)
        obtain ⟨qs_39, qr_39⟩ := q_39
        rw [qr_39]
        refine g_st (σ9 := sN σ (0) 0 (nI (2))) (qs_39.trans (by show sN (sN σ (0) 0 (nI (0))) (0) 0 (nI (2)) = sN σ (0) 0 (nI (2)); rw [sN_sN])) ?_
        refine g_if_eq (pc9 := 42) C rfl 44 dX11_agree_39 rfl (fun c_40 => ?_) (fun c_40 => ?_)
        · exact absurd c_40 (by decide)
        · refine g_iconst (pc9 := 43) C rfl (nI (0)) dX11_agree_42 rfl ?_
          exact g_ireturn C hr hlk dX11_agree_43 (by first | exact Or.inl ⟨hns, rfl⟩ | exact Or.inr (Or.inl ⟨⟨k, hb_k, rfl⟩, hset, rfl⟩))
set_option maxRecDepth 100000 in
set_option maxHeartbeats 4000000 in
theorem m_X11_strict (l : Launch) (w : Wd) (σ : St) (hM : ∀ i, i < 8 → mtOk σ i) (x u : Int32) (hB : ∀ v, v < 4096 → okR 1 255 x → mskG σ x 8 → (magF σ x 1 v).1 < 400) (hG : okR 1 255 x → mskG σ x 8 → 0 < (magF σ x 1 4095).1 ∧ (magF σ x 1 4095).1 ≤ 47) : MI l yX11_strict wsX11_strict (rmL 5) w [.ref (w.1 (0)), .int (x), .int (u)] (σ) (magP σ x u 1) := by
  refine MI_of (cc := cX11_strict) (maxL := 3) (ret := .int) (by decide) rfl (Nat.le_of_ble_eq_true rfl) ?_
  intro p e s m args below meth c A C hr hlk
  have C : Cx p s m args c w A cX11_strict RX11 3 wsX11_strict := C
  refine g_aload_n (pc9 := 1) C rfl 0 dX11_strict_0 rfl rfl ?_
  refine g_iload_n (pc9 := 2) C rfl 1 dX11_strict_1 rfl rfl ?_
  refine g_iload_n (pc9 := 3) C rfl 2 dX11_strict_2 rfl rfl ?_
  refine g_iconst (pc9 := 4) C rfl (nI (1)) dX11_strict_3 rfl ?_
  refine g_callVi (nn := 3) (rest := []) (pc9 := 7) C rfl (0) [.int (x), .int (u), .int (nI (1))] rfl dX11_strict_4 (m_agree1 l w σ hM x u hB hG) gX11_strict_X11_agree (by decide) (ce_0 w (σ)) rfl rfl rfl rfl rfl (by decide +kernel) ⟨by decide, by decide⟩ rfl (Nat.le_of_ble_eq_true rfl) ⟨by decide, by decide⟩ (fun r_1 σ_1 q_1 => ?_)
  exact g_ireturn C hr hlk dX11_strict_7 q_1
set_option maxRecDepth 100000 in
set_option maxHeartbeats 4000000 in
theorem m_agree0 (l : Launch) (w : Wd) (σ : St) (hM : ∀ i, i < 8 → mtOk σ i) (x u : Int32) (hB : ∀ v, v < 4096 → okR 1 255 x → mskG σ x 8 → (magF σ x 0 v).1 < 400) (hG : okR 1 255 x → mskG σ x 8 → 0 < (magF σ x 0 4095).1 ∧ (magF σ x 0 4095).1 ≤ 47) : MI l yX11_agree wsX11_agree (rmL 4) w [.ref (w.1 (0)), .int (x), .int (u), .int (nI (0))] (σ) (magP σ x u 0) := by
  refine MI_of (cc := cX11_agree) (maxL := 10) (ret := .int) (by decide) rfl (Nat.le_of_ble_eq_true rfl) ?_
  intro p e s m args below meth c A C hr hlk
  have C : Cx p s m args c w A cX11_agree RX11 10 wsX11_agree := C
  have hin_11 : ∀ u ∈ wsX110, u ∈ wsX11_agree := by decide +kernel
  have hl_107 : Cond.fieldLink RX11 107 "LineageBenchModel" "thrown" "I" ∈ wsX11_agree := by decide +kernel
  have hl_129 : Cond.fieldLink RX11 129 "LineageBenchModel" "setMany" "I" ∈ wsX11_agree := by decide +kernel
  refine g_aload_n (pc9 := 1) C rfl 0 dX11_agree_0 rfl rfl ?_
  refine g_iconst (pc9 := 2) C rfl (nI (0)) dX11_agree_1 rfl ?_
  refine g_put (pc9 := 5) C rfl (0) 0 dX11_agree_2 (by decide) (ce_0 w (σ)) (rfl) hin_11 hl_107 tyX11 tyX11_ok nmX11 rfl (by decide) rfl rfl rfl (Nat.le_of_ble_eq_true rfl) ?_
  refine g_aload_n (pc9 := 6) C rfl 0 dX11_agree_5 rfl rfl ?_
  refine g_iload_n (pc9 := 7) C rfl 2 dX11_agree_6 rfl rfl ?_
  refine g_callSi (nn := 1) (rest := [.ref (w.1 (0))]) (pc9 := 10) C rfl [.int (u)] rfl dX11_agree_7 (m_X11_noShelf l w (sN σ (0) 0 (nI (0))) u) gX11_agree_X11_noShelf rfl rfl rfl (by decide +kernel) ⟨by decide, by decide⟩ rfl (Nat.le_of_ble_eq_true rfl) ⟨by decide, by decide⟩ (fun r_1 σ_1 q_1 => ?_)
  obtain ⟨qs_1, qr_1⟩ := q_1
  rw [qs_1, qr_1]
  clear qs_1 qr_1
  refine g_iconst (pc9 := 11) C rfl (nI (1)) dX11_agree_10 rfl ?_
  refine g_callVi (nn := 2) (rest := []) (pc9 := 14) C rfl (0) [.int (pI (¬ okI 8 u)), .int (nI (1))] rfl dX11_agree_11 (m_throwsP l w (sN σ (0) 0 (nI (0))) (¬ okI 8 u) 1) gX11_agree_X11_throwsIf (by decide) (ce_0 w (sN σ (0) 0 (nI (0)))) rfl rfl rfl rfl rfl (by decide +kernel) ⟨by decide, by decide⟩ rfl (Nat.le_of_ble_eq_true rfl) ⟨by decide, by decide⟩ (fun r_2 σ_2 q_2 => ?_)
  obtain ⟨qr_2, qt_2, qf_2⟩ := q_2
  rw [qr_2]
  refine g_if_ne (pc9 := 17) C rfl 42 dX11_agree_14 rfl (fun c_3 => ?_) (fun c_3 => ?_)
  · have hns : ¬ okI 8 u := pI_ye c_3
    refine g_st (σ9 := sN σ (0) 0 (nI (1))) ((qt_2 hns).trans (by show sN (sN σ (0) 0 (nI (0))) (0) 0 (nI (1)) = sN σ (0) 0 (nI (1)); rw [sN_sN])) ?_
    refine g_iconst (pc9 := 43) C rfl (nI (0)) dX11_agree_42 rfl ?_
    exact g_ireturn C hr hlk dX11_agree_43 (by first | exact Or.inl ⟨hns, rfl⟩ | exact Or.inr (Or.inl ⟨⟨k, hb_k, rfl⟩, hset, rfl⟩))
  · have hns : ¬ (¬ okI 8 u) := pI_no c_3
    rw [qf_2 hns]
    obtain ⟨k, hb_k, hx_k⟩ := Classical.not_not.mp hns
    subst hx_k
    refine g_aload_n (pc9 := 18) C rfl 0 dX11_agree_17 rfl rfl ?_
    refine g_iload_n (pc9 := 19) C rfl 1 dX11_agree_18 rfl rfl ?_
    refine g_iconst (pc9 := 20) C rfl (nI (1)) dX11_agree_19 rfl ?_
    refine g_icmp_lt (pc9 := 23) C rfl 30 dX11_agree_20 rfl (fun c_4 => ?_) (fun c_4 => ?_)
    · have hset : ¬ okR 1 255 x := fun h => h.1 c_4
      refine g_iconst (pc9 := 31) C rfl (nI (1)) dX11_agree_30 rfl ?_
      refine g_goto C 35 dX11_agree_31 rfl ?_
      refine g_iconst (pc9 := 36) C rfl (nI (2)) dX11_agree_35 rfl ?_
      refine g_callVi (nn := 2) (rest := []) (pc9 := 39) C rfl (0) [.int (nI (1)), .int (nI (2))] rfl dX11_agree_36 (m_throws1 l w (sN σ (0) 0 (nI (0))) 2) gX11_agree_X11_throwsIf (by decide) (ce_0 w (sN σ (0) 0 (nI (0)))) rfl rfl rfl rfl rfl (by decide +kernel) ⟨by decide, by decide⟩ rfl (Nat.le_of_ble_eq_true rfl) ⟨by decide, by decide⟩ (fun r_5 σ_5 q_5 => ?_)
      obtain ⟨qs_5, qr_5⟩ := q_5
      rw [qr_5]
      refine g_st (σ9 := sN σ (0) 0 (nI (2))) (qs_5.trans (by show sN (sN σ (0) 0 (nI (0))) (0) 0 (nI (2)) = sN σ (0) 0 (nI (2)); rw [sN_sN])) ?_
      refine g_if_eq (pc9 := 42) C rfl 44 dX11_agree_39 rfl (fun c_6 => ?_) (fun c_6 => ?_)
      · exact absurd c_6 (by decide)
      · refine g_iconst (pc9 := 43) C rfl (nI (0)) dX11_agree_42 rfl ?_
        exact g_ireturn C hr hlk dX11_agree_43 (by first | exact Or.inl ⟨hns, rfl⟩ | exact Or.inr (Or.inl ⟨⟨k, hb_k, rfl⟩, hset, rfl⟩))
    · have h0 : ¬ x < nI 1 := c_4
      refine g_iload_n (pc9 := 24) C rfl 1 dX11_agree_23 rfl rfl ?_
      refine g_sipush (pc9 := 27) C rfl (nI (255)) dX11_agree_24 rfl ?_
      refine g_icmp_le (pc9 := 30) C rfl 34 dX11_agree_27 rfl (fun c_7 => ?_) (fun c_7 => ?_)
      · have hset : okR 1 255 x := ⟨h0, Int32.not_lt.mpr c_7⟩
        refine g_iconst (pc9 := 35) C rfl (nI (0)) dX11_agree_34 rfl ?_
        refine g_iconst (pc9 := 36) C rfl (nI (2)) dX11_agree_35 rfl ?_
        refine g_callVi (nn := 2) (rest := []) (pc9 := 39) C rfl (0) [.int (nI (0)), .int (nI (2))] rfl dX11_agree_36 (m_throws0 l w (sN σ (0) 0 (nI (0))) 2) gX11_agree_X11_throwsIf (by decide) (ce_0 w (sN σ (0) 0 (nI (0)))) rfl rfl rfl rfl rfl (by decide +kernel) ⟨by decide, by decide⟩ rfl (Nat.le_of_ble_eq_true rfl) ⟨by decide, by decide⟩ (fun r_8 σ_8 q_8 => ?_)
        obtain ⟨qs_8, qr_8⟩ := q_8
        rw [qs_8, qr_8]
        refine g_if_eq (pc9 := 42) C rfl 44 dX11_agree_39 rfl (fun c_9 => ?_) (fun c_9 => ?_)
        · refine g_iconst (pc9 := 45) C rfl (nI (0)) dX11_agree_44 rfl ?_
          refine g_istore (pc9 := 47) C rfl [(4, .int (nI (0))), (0, .ref (w.1 (0))), (1, .int (x)), (2, .int (nI (k))), (3, .int (nI (0)))] dX11_agree_45 (by decide) rfl ?_
          refine g_iconst (pc9 := 48) C rfl (nI (1)) dX11_agree_47 rfl ?_
          refine g_istore (pc9 := 50) C rfl [(5, .int (nI (1))), (4, .int (nI (0))), (0, .ref (w.1 (0))), (1, .int (x)), (2, .int (nI (k))), (3, .int (nI (0)))] dX11_agree_48 (by decide) rfl ?_
          refine g_iconst (pc9 := 51) C rfl (nI (0)) dX11_agree_50 rfl ?_
          refine g_istore (pc9 := 53) C rfl [(6, .int (nI (0))), (5, .int (nI (1))), (4, .int (nI (0))), (0, .ref (w.1 (0))), (1, .int (x)), (2, .int (nI (k))), (3, .int (nI (0)))] dX11_agree_51 (by decide) rfl ?_
          refine g_sub [0, 1, 2, 3, 4, 5, 6] [(6, .int (nI (0))), (5, .int (nI (1))), (4, .int (nI (0))), (0, .ref (w.1 (0))), (1, .int (x)), (2, .int (nI (k))), (3, .int (nI (0)))] rfl ?_
          refine g_l2 (x9 := pI (mskG σ x 0)) (pI_t trivial).symm ?_
          refine g_lp1 (α := Nat) (fun s9 => s9 ≤ 8) (fun s9 => 8 - s9) (fun s9 => G p l e _ s m args below meth c _ w A _ (sN σ (0) 0 (nI (0))) 0 0 53 [(6, .int (nI (s9))), (5, .int (pI (mskG σ x s9))), (4, .int (mskS σ x s9)), (0, .ref (w.1 (0))), (1, .int (x)), (2, .int (nI (k))), (3, .int (nI (0)))] []) (fun s9 hI0 ih0 => ?_) (0) (Nat.zero_le _)
          refine g_iload (pc9 := 55) C rfl 0 dX11_agree_53 rfl ?_
          refine g_bipush (pc9 := 57) C rfl (nI (8)) dX11_agree_55 rfl ?_
          refine g_icmp_ge (pc9 := 60) C rfl 123 dX11_agree_57 rfl (fun c_10 => ?_) (fun c_10 => ?_)
          · replace c_10 := (nI_leI (by omega) (by omega)).mp c_10
            have h8 : s9 = 8 := by omega
            subst h8
            refine g_sub [1, 2, 3, 4, 5, 6] [(5, .int (pI (mskG σ x 8))), (4, .int (mskS σ x 8)), (0, .ref (w.1 (0))), (1, .int (x)), (2, .int (nI (k))), (3, .int (nI (0)))] rfl ?_
            refine g_aload_n (pc9 := 124) C rfl 2 dX11_agree_123 rfl rfl ?_
            refine g_iload (pc9 := 126) C rfl 0 dX11_agree_124 rfl ?_
            refine g_if_ne (pc9 := 129) C rfl 133 dX11_agree_126 rfl (fun c_11 => ?_) (fun c_11 => ?_)
            · have hgd : mskG σ x 8 := pI_ye c_11
              refine g_iconst (pc9 := 134) C rfl (nI (0)) dX11_agree_133 rfl ?_
              refine g_iconst (pc9 := 135) C rfl (nI (3)) dX11_agree_134 rfl ?_
              refine g_callVi (nn := 2) (rest := []) (pc9 := 138) C rfl (0) [.int (nI (0)), .int (nI (3))] rfl dX11_agree_135 (m_throws0 l w (sN σ (0) 0 (nI (0))) 3) gX11_agree_X11_throwsIf (by decide) (ce_0 w (sN σ (0) 0 (nI (0)))) rfl rfl rfl rfl rfl (by decide +kernel) ⟨by decide, by decide⟩ rfl (Nat.le_of_ble_eq_true rfl) ⟨by decide, by decide⟩ (fun r_12 σ_12 q_12 => ?_)
              obtain ⟨qs_12, qr_12⟩ := q_12
              rw [qs_12, qr_12]
              refine g_if_eq (pc9 := 141) C rfl 143 dX11_agree_138 rfl (fun c_13 => ?_) (fun c_13 => ?_)
              · refine g_iload_n (pc9 := 144) C rfl 3 dX11_agree_143 rfl rfl ?_
                refine g_callSi (nn := 1) (rest := []) (pc9 := 147) C rfl [.int (x)] rfl dX11_agree_144 (m_bitCount l w _ x) gX11_agree_J6_bitCount_0f7a4 rfl rfl rfl (by decide +kernel) ⟨by decide, by decide⟩ rfl (Nat.le_of_ble_eq_true rfl) ⟨by decide, by decide⟩ (fun r_14 σ_14 q_14 => ?_)
                obtain ⟨qs_14, qr_14⟩ := q_14
                rw [qs_14, qr_14]
                clear qs_14 qr_14
                refine g_istore (pc9 := 149) C rfl [(6, .int (bC x)), (5, .int (pI (mskG σ x 8))), (4, .int (mskS σ x 8)), (0, .ref (w.1 (0))), (1, .int (x)), (2, .int (nI (k))), (3, .int (nI (0)))] dX11_agree_147 (by decide) rfl ?_
                refine g_st (σ9 := sI (sI (mT σ 0) 12 (iA σ 12)) 13 (iA σ 13)) (by rw [show sI (mT σ 0) 12 (iA σ 12) = mT σ 0 from sI_self]; exact (show sI (mT σ 0) 13 (iA (mT σ 0) 13) = mT σ 0 from sI_self).symm) ?_
                refine g_aload_n (pc9 := 150) C rfl 3 dX11_agree_149 rfl rfl ?_
                refine g_iconst (pc9 := 151) C rfl (nI (0)) dX11_agree_150 rfl ?_
                refine g_put (pc9 := 154) C rfl (0) 21 dX11_agree_151 (by decide) (ce_0 w (sI (sI (sN σ (0) 0 (nI (0))) (12) (iA σ 12)) (13) (iA σ 13))) (rfl) hin_11 hl_129 tyX11 tyX11_ok nmX11 rfl (by decide) rfl rfl rfl (Nat.le_of_ble_eq_true rfl) ?_
                refine g_iconst (pc9 := 155) C rfl (nI (1)) dX11_agree_154 rfl ?_
                refine g_istore (pc9 := 157) C rfl [(7, .int (nI (1))), (6, .int (bC x)), (5, .int (pI (mskG σ x 8))), (4, .int (mskS σ x 8)), (0, .ref (w.1 (0))), (1, .int (x)), (2, .int (nI (k))), (3, .int (nI (0)))] dX11_agree_155 (by decide) rfl ?_
                refine g_sub [0, 1, 3, 4, 5, 6, 7] [(7, .int (nI (1))), (6, .int (bC x)), (4, .int (mskS σ x 8)), (0, .ref (w.1 (0))), (1, .int (x)), (2, .int (nI (k))), (3, .int (nI (0)))] rfl ?_
                refine g_st (σ9 := sN (sI (sI (sN σ (0) 0 (nI (0))) (12) ((iA σ 12))) (13) ((magF σ x 0 (0)).2)) (0) 21 (nI ((magF σ x 0 (0)).1))) rfl ?_
                refine g_lp2 (α := Nat) (β := Nat → Int32) (fun v g9 => v ≤ 4095) (fun v g9 => 4095 - v) (fun v g9 => G p l e _ s m args below meth c _ w A _ (sN (sI (sI (sN σ (0) 0 (nI (0))) (12) (g9)) (13) ((magF σ x 0 (v)).2)) (0) 21 (nI ((magF σ x 0 (v)).1))) 0 0 157 [(7, .int (nI (v + 1))), (6, .int (bC x)), (4, .int (mskS σ x 8)), (0, .ref (w.1 (0))), (1, .int (x)), (2, .int (nI (k))), (3, .int (nI (0)))] []) (fun v g9 hI1 ih1 => ?_) (0) (iA σ 12) (Nat.zero_le _)
                refine g_iload (pc9 := 159) C rfl 0 dX11_agree_157 rfl ?_
                refine g_sipush (pc9 := 162) C rfl (nI (4096)) dX11_agree_159 rfl ?_
                refine g_icmp_ge (pc9 := 165) C rfl 263 dX11_agree_162 rfl (fun c_15 => ?_) (fun c_15 => ?_)
                · replace c_15 := (nI_leI (by omega) (by omega)).mp c_15
                  have hv9 : v = 4095 := by omega
                  refine g_aload_n (pc9 := 264) C rfl 3 dX11_agree_263 rfl rfl ?_
                  refine g_iload_n (pc9 := 265) C rfl 5 dX11_agree_264 rfl rfl ?_
                  refine g_callVv (nn := 1) (rest := []) (pc9 := 268) C rfl (0) [.int (nI (k))] rfl dX11_agree_265 (m_X11_puts l w (sI (mT σ 0) 12 g9) (magF σ x 0 (v)) (by rw [hv9]; exact (hG hset hgd).1) (by rw [hv9]; exact (hG hset hgd).2) k hb_k) gX11_agree_X11_puts (by decide) (ce_0 w (sN (sI (sI (sN σ (0) 0 (nI (0))) (12) (g9)) (13) ((magF σ x 0 (v)).2)) (0) 21 (nI ((magF σ x 0 (v)).1)))) rfl rfl rfl rfl rfl (by decide +kernel) ⟨by decide, by decide⟩ rfl (Nat.le_of_ble_eq_true rfl) ⟨by decide, by decide⟩ (fun σ_16 q_16 => ?_)
                  replace q_16 : σ_16 = (puS (sI (mT σ 0) 12 g9) (magF σ x 0 (v)) k) := q_16
                  rw [q_16]
                  clear q_16
                  refine g_aload_n (pc9 := 269) C rfl 3 dX11_agree_268 rfl rfl ?_
                  refine g_get (v := .int (nI ((magF σ x 0 (v)).1))) (pc9 := 272) C rfl (0) 21 dX11_agree_269 (by decide) (ce_0 w ((puS (sI (mT σ 0) 12 g9) (magF σ x 0 (v)) k))) hin_11 hl_129 rfl (by decide) rfl (congrArg (fun z => some (Value.int z)) ((nF_I.trans (nF_I.trans (nF_I.trans nF_s))))) ?_
                  exact g_ireturn C hr hlk dX11_agree_272 (Or.inr (Or.inr ⟨k, hb_k, rfl, hset, Or.inr ⟨hgd, ⟨g9, by rw [hv9]⟩, by rw [hv9]⟩⟩))
                · replace c_15 := (not_congr (nI_leI (by omega) (by omega))).mp c_15
                  refine g_iload (pc9 := 167) C rfl 0 dX11_agree_165 rfl ?_
                  refine g_iload (pc9 := 169) C rfl 2 dX11_agree_167 rfl ?_
                  refine g_iconst (pc9 := 170) C rfl ((-1)) dX11_agree_169 rfl ?_
                  refine g_ixor (pc9 := 171) C rfl dX11_agree_170 ?_
                  refine g_iand (pc9 := 172) C rfl dX11_agree_171 ?_
                  refine g_if_eq (pc9 := 175) C rfl 178 dX11_agree_172 rfl (fun c_17 => ?_) (fun c_17 => ?_)
                  · have hin := Classical.not_not.mp (fun h => h c_17)
                    refine g_iconst (pc9 := 179) C rfl (nI (0)) dX11_agree_178 rfl ?_
                    refine g_istore (pc9 := 181) C rfl [(8, .int (nI (0))), (7, .int (nI (v + 1))), (6, .int (bC x)), (4, .int (mskS σ x 8)), (0, .ref (w.1 (0))), (1, .int (x)), (2, .int (nI (k))), (3, .int (nI (0)))] dX11_agree_179 (by decide) rfl ?_
                    refine g_iconst (pc9 := 182) C rfl (nI (0)) dX11_agree_181 rfl ?_
                    refine g_istore (pc9 := 184) C rfl [(9, .int (nI (0))), (8, .int (nI (0))), (7, .int (nI (v + 1))), (6, .int (bC x)), (4, .int (mskS σ x 8)), (0, .ref (w.1 (0))), (1, .int (x)), (2, .int (nI (k))), (3, .int (nI (0)))] dX11_agree_182 (by decide) rfl ?_
                    refine g_sub [0, 1, 2, 3, 4, 5, 6, 7, 8] [(9, .int (nI (0))), (8, .int (nI (0))), (7, .int (nI (v + 1))), (6, .int (bC x)), (4, .int (mskS σ x 8)), (0, .ref (w.1 (0))), (1, .int (x)), (2, .int (nI (k))), (3, .int (nI (0)))] rfl ?_
                    refine g_lp2 (α := Nat) (β := Nat → Int32) (fun s9 g8 => s9 ≤ 8) (fun s9 g8 => 8 - s9) (fun s9 g8 => G p l e _ s m args below meth c _ w A _ (sN (sI (sI (sN σ (0) 0 (nI (0))) (12) (g8)) (13) ((magF σ x 0 (v)).2)) (0) 21 (nI ((magF σ x 0 (v)).1))) 0 0 184 [(9, .int (nI (s9))), (8, .int (nI (cntU (mhoP σ x (nI (v + 1))) s9))), (7, .int (nI (v + 1))), (6, .int (bC x)), (4, .int (mskS σ x 8)), (0, .ref (w.1 (0))), (1, .int (x)), (2, .int (nI (k))), (3, .int (nI (0)))] []) (fun s9 g8 hI2 ih2 => ?_) (0) (g9) (Nat.zero_le _)
                    have hcn := cntU_le (q := mhoP σ x (nI (v + 1))) s9
                    refine g_iload (pc9 := 186) C rfl 0 dX11_agree_184 rfl ?_
                    refine g_bipush (pc9 := 188) C rfl (nI (8)) dX11_agree_186 rfl ?_
                    refine g_icmp_ge (pc9 := 191) C rfl 228 dX11_agree_188 rfl (fun c_18 => ?_) (fun c_18 => ?_)
                    · replace c_18 := (nI_leI (by omega) (by omega)).mp c_18
                      have h8 : s9 = 8 := by omega
                      refine g_iload_n (pc9 := 229) C rfl 8 dX11_agree_228 rfl rfl ?_
                      refine g_if_eq (pc9 := 232) C rfl 242 dX11_agree_229 rfl (fun c_19 => ?_) (fun c_19 => ?_)
                      · refine g_iconst (pc9 := 243) C rfl (nI (2)) dX11_agree_242 rfl ?_
                        refine g_iload (pc9 := 245) C rfl 1 dX11_agree_243 rfl ?_
                        refine g_imulN (pc9 := 246) C rfl dX11_agree_245 ?_
                        refine g_iload (pc9 := 248) C rfl 3 dX11_agree_246 rfl ?_
                        refine g_icmp_le (pc9 := 251) C rfl 257 dX11_agree_248 rfl (fun c_20 => ?_) (fun c_20 => ?_)
                        · have hF : magF σ x 0 (v + 1) = magF σ x 0 (v) := cI_f (fun h => by have := h.2; rw [if_neg (by decide)] at this; rw [h8] at c_20; exact absurd this (Int32.not_lt.mpr c_20))
                          refine g_iinc (pc9 := 260) C rfl [(7, .int (nI (v + 1 + 1))), (9, .int (nI (s9))), (8, .int (nI (cntU (mhoP σ x (nI (v + 1))) s9))), (6, .int (bC x)), (4, .int (mskS σ x 8)), (0, .ref (w.1 (0))), (1, .int (x)), (2, .int (nI (k))), (3, .int (nI (0)))] 2 (nI (v + 1 + 1)) dX11_agree_257 rfl (nI_1 (v + 1)) (by decide) rfl ?_
                          refine g_goto C 157 dX11_agree_260 rfl ?_
                          refine g_sub [0, 3, 4, 5, 6, 7, 8] [(7, .int (nI (v + 1 + 1))), (6, .int (bC x)), (4, .int (mskS σ x 8)), (0, .ref (w.1 (0))), (1, .int (x)), (2, .int (nI (k))), (3, .int (nI (0)))] rfl ?_
                          refine g_st (σ9 := sN (sI (sI (sN σ (0) 0 (nI (0))) (12) (g8)) (13) ((magF σ x 0 (v + 1)).2)) (0) 21 (nI ((magF σ x 0 (v + 1)).1))) (by rw [hF]) ?_
                          exact ih1 (v + 1) g8 (by omega) (by omega)
                        · have hF : magF σ x 0 (v + 1) = maA (magF σ x 0 (v)) (nI (v + 1)) := cI_t ⟨hin, by rw [if_neg (by decide)]; rw [h8] at c_20; exact Int32.not_le.mp c_20⟩
                          refine g_aload_n (pc9 := 252) C rfl 5 dX11_agree_251 rfl rfl ?_
                          refine g_iload (pc9 := 254) C rfl 2 dX11_agree_252 rfl ?_
                          refine g_callVv (nn := 1) (rest := []) (pc9 := 257) C rfl (0) [.int (nI (v + 1))] rfl dX11_agree_254 (m_X11_adds l w (sI (mT σ 0) 12 g8) (magF σ x 0 (v)) (hB v (by omega) hset hgd) (nI (v + 1))) gX11_agree_X11_adds (by decide) (ce_0 w (sN (sI (sI (sN σ (0) 0 (nI (0))) (12) (g8)) (13) ((magF σ x 0 (v)).2)) (0) 21 (nI ((magF σ x 0 (v)).1)))) rfl rfl rfl rfl rfl (by decide +kernel) ⟨by decide, by decide⟩ rfl (Nat.le_of_ble_eq_true rfl) ⟨by decide, by decide⟩ (fun σ_21 q_21 => ?_)
                          replace q_21 : σ_21 = msSt (sI (mT σ 0) 12 g8) (maA (magF σ x 0 (v)) (nI (v + 1))) := q_21
                          rw [← hF] at q_21
                          rw [q_21]
                          clear hF
                          have hF : magF σ x 0 (v + 1) = magF σ x 0 (v + 1) := rfl
                          refine g_iinc (pc9 := 260) C rfl [(7, .int (nI (v + 1 + 1))), (9, .int (nI (s9))), (8, .int (nI (cntU (mhoP σ x (nI (v + 1))) s9))), (6, .int (bC x)), (4, .int (mskS σ x 8)), (0, .ref (w.1 (0))), (1, .int (x)), (2, .int (nI (k))), (3, .int (nI (0)))] 2 (nI (v + 1 + 1)) dX11_agree_257 rfl (nI_1 (v + 1)) (by decide) rfl ?_
                          refine g_goto C 157 dX11_agree_260 rfl ?_
                          refine g_sub [0, 3, 4, 5, 6, 7, 8] [(7, .int (nI (v + 1 + 1))), (6, .int (bC x)), (4, .int (mskS σ x 8)), (0, .ref (w.1 (0))), (1, .int (x)), (2, .int (nI (k))), (3, .int (nI (0)))] rfl ?_
                          exact ih1 (v + 1) g8 (by omega) (by omega)
                      · exact absurd c_19 (by decide)
                    · replace c_18 := (not_congr (nI_leI (by omega) (by omega))).mp c_18
                      refine g_iload (pc9 := 193) C rfl 1 dX11_agree_191 rfl ?_
                      refine g_iload_n (pc9 := 194) C rfl 6 dX11_agree_193 rfl rfl ?_
                      refine g_iload (pc9 := 196) C rfl 0 dX11_agree_194 rfl ?_
                      refine g_ishr (pc9 := 197) C rfl dX11_agree_196 ?_
                      refine g_iconst (pc9 := 198) C rfl (nI (1)) dX11_agree_197 rfl ?_
                      refine g_iand (pc9 := 199) C rfl dX11_agree_198 ?_
                      refine g_iconst (pc9 := 200) C rfl (nI (1)) dX11_agree_199 rfl ?_
                      refine g_icmp_ne (pc9 := 203) C rfl 218 dX11_agree_200 rfl (fun c_22 => ?_) (fun c_22 => ?_)
                      · have hs : cntU (mhoP σ x (nI (v + 1))) (s9 + 1) = cntU (mhoP σ x (nI (v + 1))) s9 := cntU_n (q := mhoP σ x (nI (v + 1))) (fun h => c_22 (bt_1.mpr h.1))
                        refine g_iconst (pc9 := 219) C rfl (nI (0)) dX11_agree_218 rfl ?_
                        refine g_iaddN (pc9 := 220) C rfl dX11_agree_219 ?_
                        refine g_istore (pc9 := 222) C rfl [(8, .int (nI ((cntU (mhoP σ x (nI (v + 1))) s9) + 0))), (9, .int (nI (s9))), (7, .int (nI (v + 1))), (6, .int (bC x)), (4, .int (mskS σ x 8)), (0, .ref (w.1 (0))), (1, .int (x)), (2, .int (nI (k))), (3, .int (nI (0)))] dX11_agree_220 (by decide) rfl ?_
                        refine g_iinc (pc9 := 225) C rfl [(9, .int (nI (s9 + 1))), (8, .int (nI ((cntU (mhoP σ x (nI (v + 1))) s9) + 0))), (7, .int (nI (v + 1))), (6, .int (bC x)), (4, .int (mskS σ x 8)), (0, .ref (w.1 (0))), (1, .int (x)), (2, .int (nI (k))), (3, .int (nI (0)))] 1 (nI (s9 + 1)) dX11_agree_222 rfl (nI_1 (s9)) (by decide) rfl ?_
                        refine g_goto C 184 dX11_agree_225 rfl ?_
                        refine g_sub [0, 1, 2, 3, 4, 5, 6, 7, 8] [(9, .int (nI (s9 + 1))), (8, .int (nI ((cntU (mhoP σ x (nI (v + 1))) s9) + 0))), (7, .int (nI (v + 1))), (6, .int (bC x)), (4, .int (mskS σ x 8)), (0, .ref (w.1 (0))), (1, .int (x)), (2, .int (nI (k))), (3, .int (nI (0)))] rfl ?_
                        rw [show (cntU (mhoP σ x (nI (v + 1))) s9) + 0 = cntU (mhoP σ x (nI (v + 1))) (s9 + 1) from by omega]
                        exact ih2 (s9 + 1) g8 (by omega) (by omega)
                      · have hbt : bt x s9 := bt_1.mp (Classical.not_not.mp (fun h => h c_22))
                        refine g_aload_n (pc9 := 204) C rfl 5 dX11_agree_203 rfl rfl ?_
                        refine g_iload (pc9 := 206) C rfl 0 dX11_agree_204 rfl ?_
                        refine g_iload (pc9 := 208) C rfl 2 dX11_agree_206 rfl ?_
                        refine g_callVi (nn := 2) (rest := [.int (nI (cntU (mhoP σ x (nI (v + 1))) s9))]) (pc9 := 211) C rfl (0) [.int (nI (s9)), .int (nI (v + 1))] rfl dX11_agree_208 (m_hasC l w (sN (sI (sI (sN σ (0) 0 (nI (0))) (12) (g8)) (13) ((magF σ x 0 (v)).2)) (0) 21 (nI ((magF σ x 0 (v)).1))) s9 (by omega) (hM s9 (by omega)) (msk_pl (by omega) hgd hbt).1 (nI (v + 1))) gX11_agree_X11_hasCluster (by decide) (ce_0 w (sN (sI (sI (sN σ (0) 0 (nI (0))) (12) (g8)) (13) ((magF σ x 0 (v)).2)) (0) 21 (nI ((magF σ x 0 (v)).1)))) rfl rfl rfl rfl rfl (by decide +kernel) ⟨by decide, by decide⟩ rfl (Nat.le_of_ble_eq_true rfl) ⟨by decide, by decide⟩ (fun r_23 σ_23 q_23 => ?_)
                        obtain ⟨g7, qs_23, qr_23⟩ := q_23
                        replace qr_23 : r_23 = pI (mHas σ s9 (nI (v + 1))) := qr_23
                        replace qs_23 : σ_23 = sN (sI (sI (sN σ (0) 0 (nI (0))) (12) (g7)) (13) ((magF σ x 0 (v)).2)) (0) 21 (nI ((magF σ x 0 (v)).1)) := qs_23.trans (mer12 _ _ _ _)
                        rw [qs_23, qr_23]
                        refine g_if_eq (pc9 := 214) C rfl 218 dX11_agree_211 rfl (fun c_24 => ?_) (fun c_24 => ?_)
                        · have hs : cntU (mhoP σ x (nI (v + 1))) (s9 + 1) = cntU (mhoP σ x (nI (v + 1))) s9 := cntU_n (q := mhoP σ x (nI (v + 1))) (fun h => pI_no c_24 h.2)
                          refine g_iconst (pc9 := 219) C rfl (nI (0)) dX11_agree_218 rfl ?_
                          refine g_iaddN (pc9 := 220) C rfl dX11_agree_219 ?_
                          refine g_istore (pc9 := 222) C rfl [(8, .int (nI ((cntU (mhoP σ x (nI (v + 1))) s9) + 0))), (9, .int (nI (s9))), (7, .int (nI (v + 1))), (6, .int (bC x)), (4, .int (mskS σ x 8)), (0, .ref (w.1 (0))), (1, .int (x)), (2, .int (nI (k))), (3, .int (nI (0)))] dX11_agree_220 (by decide) rfl ?_
                          refine g_iinc (pc9 := 225) C rfl [(9, .int (nI (s9 + 1))), (8, .int (nI ((cntU (mhoP σ x (nI (v + 1))) s9) + 0))), (7, .int (nI (v + 1))), (6, .int (bC x)), (4, .int (mskS σ x 8)), (0, .ref (w.1 (0))), (1, .int (x)), (2, .int (nI (k))), (3, .int (nI (0)))] 1 (nI (s9 + 1)) dX11_agree_222 rfl (nI_1 (s9)) (by decide) rfl ?_
                          refine g_goto C 184 dX11_agree_225 rfl ?_
                          refine g_sub [0, 1, 2, 3, 4, 5, 6, 7, 8] [(9, .int (nI (s9 + 1))), (8, .int (nI ((cntU (mhoP σ x (nI (v + 1))) s9) + 0))), (7, .int (nI (v + 1))), (6, .int (bC x)), (4, .int (mskS σ x 8)), (0, .ref (w.1 (0))), (1, .int (x)), (2, .int (nI (k))), (3, .int (nI (0)))] rfl ?_
                          rw [show (cntU (mhoP σ x (nI (v + 1))) s9) + 0 = cntU (mhoP σ x (nI (v + 1))) (s9 + 1) from by omega]
                          exact ih2 (s9 + 1) g7 (by omega) (by omega)
                        · have hs : cntU (mhoP σ x (nI (v + 1))) (s9 + 1) = cntU (mhoP σ x (nI (v + 1))) s9 + 1 := cntU_y (q := mhoP σ x (nI (v + 1))) ⟨hbt, pI_ye c_24⟩
                          refine g_iconst (pc9 := 215) C rfl (nI (1)) dX11_agree_214 rfl ?_
                          refine g_goto C 219 dX11_agree_215 rfl ?_
                          refine g_iaddN (pc9 := 220) C rfl dX11_agree_219 ?_
                          refine g_istore (pc9 := 222) C rfl [(8, .int (nI ((cntU (mhoP σ x (nI (v + 1))) s9) + 1))), (9, .int (nI (s9))), (7, .int (nI (v + 1))), (6, .int (bC x)), (4, .int (mskS σ x 8)), (0, .ref (w.1 (0))), (1, .int (x)), (2, .int (nI (k))), (3, .int (nI (0)))] dX11_agree_220 (by decide) rfl ?_
                          refine g_iinc (pc9 := 225) C rfl [(9, .int (nI (s9 + 1))), (8, .int (nI ((cntU (mhoP σ x (nI (v + 1))) s9) + 1))), (7, .int (nI (v + 1))), (6, .int (bC x)), (4, .int (mskS σ x 8)), (0, .ref (w.1 (0))), (1, .int (x)), (2, .int (nI (k))), (3, .int (nI (0)))] 1 (nI (s9 + 1)) dX11_agree_222 rfl (nI_1 (s9)) (by decide) rfl ?_
                          refine g_goto C 184 dX11_agree_225 rfl ?_
                          refine g_sub [0, 1, 2, 3, 4, 5, 6, 7, 8] [(9, .int (nI (s9 + 1))), (8, .int (nI ((cntU (mhoP σ x (nI (v + 1))) s9) + 1))), (7, .int (nI (v + 1))), (6, .int (bC x)), (4, .int (mskS σ x 8)), (0, .ref (w.1 (0))), (1, .int (x)), (2, .int (nI (k))), (3, .int (nI (0)))] rfl ?_
                          rw [show (cntU (mhoP σ x (nI (v + 1))) s9) + 1 = cntU (mhoP σ x (nI (v + 1))) (s9 + 1) from by omega]
                          exact ih2 (s9 + 1) g7 (by omega) (by omega)
                  · have hF : magF σ x 0 (v + 1) = magF σ x 0 (v) := cI_f (fun h => c_17 h.1)
                    refine g_goto C 257 dX11_agree_175 rfl ?_
                    refine g_iinc (pc9 := 260) C rfl [(7, .int (nI (v + 1 + 1))), (6, .int (bC x)), (4, .int (mskS σ x 8)), (0, .ref (w.1 (0))), (1, .int (x)), (2, .int (nI (k))), (3, .int (nI (0)))] 0 (nI (v + 1 + 1)) dX11_agree_257 rfl (nI_1 (v + 1)) (by decide) rfl ?_
                    refine g_goto C 157 dX11_agree_260 rfl ?_
                    refine g_sub [0, 1, 2, 3, 4, 5, 6] [(7, .int (nI (v + 1 + 1))), (6, .int (bC x)), (4, .int (mskS σ x 8)), (0, .ref (w.1 (0))), (1, .int (x)), (2, .int (nI (k))), (3, .int (nI (0)))] rfl ?_
                    refine g_st (σ9 := sN (sI (sI (sN σ (0) 0 (nI (0))) (12) (g9)) (13) ((magF σ x 0 (v + 1)).2)) (0) 21 (nI ((magF σ x 0 (v + 1)).1))) (by rw [hF]) ?_
                    exact ih1 (v + 1) g9 (by omega) (by omega)
              · exact absurd c_13 (by decide)
            · have hgd : ¬ mskG σ x 8 := pI_no c_11
              refine g_iconst (pc9 := 130) C rfl (nI (1)) dX11_agree_129 rfl ?_
              refine g_goto C 134 dX11_agree_130 rfl ?_
              refine g_iconst (pc9 := 135) C rfl (nI (3)) dX11_agree_134 rfl ?_
              refine g_callVi (nn := 2) (rest := []) (pc9 := 138) C rfl (0) [.int (nI (1)), .int (nI (3))] rfl dX11_agree_135 (m_throws1 l w (sN σ (0) 0 (nI (0))) 3) gX11_agree_X11_throwsIf (by decide) (ce_0 w (sN σ (0) 0 (nI (0)))) rfl rfl rfl rfl rfl (by decide +kernel) ⟨by decide, by decide⟩ rfl (Nat.le_of_ble_eq_true rfl) ⟨by decide, by decide⟩ (fun r_25 σ_25 q_25 => ?_)
              obtain ⟨qs_25, qr_25⟩ := q_25
              rw [qr_25]
              refine g_st (σ9 := sN σ (0) 0 (nI (3))) (qs_25.trans (by show sN (sN σ (0) 0 (nI (0))) (0) 0 (nI (3)) = sN σ (0) 0 (nI (3)); rw [sN_sN])) ?_
              refine g_if_eq (pc9 := 141) C rfl 143 dX11_agree_138 rfl (fun c_26 => ?_) (fun c_26 => ?_)
              · exact absurd c_26 (by decide)
              · refine g_iconst (pc9 := 142) C rfl (nI (0)) dX11_agree_141 rfl ?_
                exact g_ireturn C hr hlk dX11_agree_142 (Or.inr (Or.inr ⟨k, hb_k, rfl, hset, Or.inl ⟨hgd, rfl⟩⟩))
          · replace c_10 := (not_congr (nI_leI (by omega) (by omega))).mp c_10
            refine g_iload_n (pc9 := 61) C rfl 4 dX11_agree_60 rfl rfl ?_
            refine g_iload (pc9 := 63) C rfl 0 dX11_agree_61 rfl ?_
            refine g_ishr (pc9 := 64) C rfl dX11_agree_63 ?_
            refine g_iconst (pc9 := 65) C rfl (nI (1)) dX11_agree_64 rfl ?_
            refine g_iand (pc9 := 66) C rfl dX11_agree_65 ?_
            refine g_if_ne (pc9 := 69) C rfl 72 dX11_agree_66 rfl (fun c_27 => ?_) (fun c_27 => ?_)
            · have hbt : bt x s9 := c_27
              have hS : mskS σ x (s9 + 1) = mKs σ s9 := if_pos hbt
              refine g_iload (pc9 := 74) C rfl 1 dX11_agree_72 rfl ?_
              refine g_if_eq (pc9 := 77) C rfl 106 dX11_agree_74 rfl (fun c_28 => ?_) (fun c_28 => ?_)
              · have hG9 : pI (mskG σ x (s9 + 1)) = nI 0 := pI_f (fun h => pI_no c_28 (h.1 hbt).1)
                refine g_iconst (pc9 := 107) C rfl (nI (0)) dX11_agree_106 rfl ?_
                refine g_istore (pc9 := 109) C rfl [(5, .int (nI (0))), (6, .int (nI (s9))), (4, .int (mskS σ x s9)), (0, .ref (w.1 (0))), (1, .int (x)), (2, .int (nI (k))), (3, .int (nI (0)))] dX11_agree_107 (by decide) rfl ?_
                refine g_aload_n (pc9 := 110) C rfl 3 dX11_agree_109 rfl rfl ?_
                refine g_iload (pc9 := 112) C rfl 1 dX11_agree_110 rfl ?_
                refine g_callVi (nn := 1) (rest := []) (pc9 := 115) C rfl (0) [.int (nI (s9))] rfl dX11_agree_112 (m_X11_kindsOf l w (mT σ 0) s9 (by omega) (hM s9 (by omega))) gX11_agree_X11_kindsOf (by decide) (ce_0 w (sN σ (0) 0 (nI (0)))) rfl rfl rfl rfl rfl (by decide +kernel) ⟨by decide, by decide⟩ rfl (Nat.le_of_ble_eq_true rfl) ⟨by decide, by decide⟩ (fun r_29 σ_29 q_29 => ?_)
                obtain ⟨qs_29, qr_29⟩ := q_29
                replace qr_29 : r_29 = mKs σ s9 := qr_29
                rw [qs_29, qr_29]
                clear qs_29 qr_29
                refine g_istore (pc9 := 117) C rfl [(4, .int (mKs σ s9)), (5, .int (nI (0))), (6, .int (nI (s9))), (0, .ref (w.1 (0))), (1, .int (x)), (2, .int (nI (k))), (3, .int (nI (0)))] dX11_agree_115 (by decide) rfl ?_
                refine g_iinc (pc9 := 120) C rfl [(6, .int (nI (s9 + 1))), (4, .int (mKs σ s9)), (5, .int (nI (0))), (0, .ref (w.1 (0))), (1, .int (x)), (2, .int (nI (k))), (3, .int (nI (0)))] 2 (nI (s9 + 1)) dX11_agree_117 rfl (nI_1 (s9)) (by decide) rfl ?_
                refine g_goto C 53 dX11_agree_120 rfl ?_
                refine g_sub [0, 2, 1, 3, 4, 5, 6] [(6, .int (nI (s9 + 1))), (5, .int (nI (0))), (4, .int (mKs σ s9)), (0, .ref (w.1 (0))), (1, .int (x)), (2, .int (nI (k))), (3, .int (nI (0)))] rfl ?_
                refine g_l2 hG9.symm ?_
                rw [← hS]
                exact ih0 (s9 + 1) (by omega) (by omega)
              · have hg1 := pI_ye c_28
                refine g_aload_n (pc9 := 78) C rfl 3 dX11_agree_77 rfl rfl ?_
                refine g_iload (pc9 := 80) C rfl 0 dX11_agree_78 rfl ?_
                refine g_callVi (nn := 1) (rest := []) (pc9 := 83) C rfl (0) [.int (nI (s9))] rfl dX11_agree_80 (m_X11_isPlain l w (mT σ 0) s9 (by omega) (hM s9 (by omega))) gX11_agree_X11_isPlain (by decide) (ce_0 w (sN σ (0) 0 (nI (0)))) rfl rfl rfl rfl rfl (by decide +kernel) ⟨by decide, by decide⟩ rfl (Nat.le_of_ble_eq_true rfl) ⟨by decide, by decide⟩ (fun r_30 σ_30 q_30 => ?_)
                obtain ⟨qs_30, qr_30⟩ := q_30
                replace qr_30 : r_30 = pI (mPl σ s9) := qr_30
                rw [qs_30, qr_30]
                clear qs_30 qr_30
                refine g_if_eq (pc9 := 86) C rfl 106 dX11_agree_83 rfl (fun c_31 => ?_) (fun c_31 => ?_)
                · have hG9 : pI (mskG σ x (s9 + 1)) = nI 0 := pI_f (fun h => pI_no c_31 (h.1 hbt).2.1)
                  refine g_iconst (pc9 := 107) C rfl (nI (0)) dX11_agree_106 rfl ?_
                  refine g_istore (pc9 := 109) C rfl [(5, .int (nI (0))), (6, .int (nI (s9))), (4, .int (mskS σ x s9)), (0, .ref (w.1 (0))), (1, .int (x)), (2, .int (nI (k))), (3, .int (nI (0)))] dX11_agree_107 (by decide) rfl ?_
                  refine g_aload_n (pc9 := 110) C rfl 3 dX11_agree_109 rfl rfl ?_
                  refine g_iload (pc9 := 112) C rfl 1 dX11_agree_110 rfl ?_
                  refine g_callVi (nn := 1) (rest := []) (pc9 := 115) C rfl (0) [.int (nI (s9))] rfl dX11_agree_112 (m_X11_kindsOf l w (mT σ 0) s9 (by omega) (hM s9 (by omega))) gX11_agree_X11_kindsOf (by decide) (ce_0 w (sN σ (0) 0 (nI (0)))) rfl rfl rfl rfl rfl (by decide +kernel) ⟨by decide, by decide⟩ rfl (Nat.le_of_ble_eq_true rfl) ⟨by decide, by decide⟩ (fun r_32 σ_32 q_32 => ?_)
                  obtain ⟨qs_32, qr_32⟩ := q_32
                  replace qr_32 : r_32 = mKs σ s9 := qr_32
                  rw [qs_32, qr_32]
                  clear qs_32 qr_32
                  refine g_istore (pc9 := 117) C rfl [(4, .int (mKs σ s9)), (5, .int (nI (0))), (6, .int (nI (s9))), (0, .ref (w.1 (0))), (1, .int (x)), (2, .int (nI (k))), (3, .int (nI (0)))] dX11_agree_115 (by decide) rfl ?_
                  refine g_iinc (pc9 := 120) C rfl [(6, .int (nI (s9 + 1))), (4, .int (mKs σ s9)), (5, .int (nI (0))), (0, .ref (w.1 (0))), (1, .int (x)), (2, .int (nI (k))), (3, .int (nI (0)))] 2 (nI (s9 + 1)) dX11_agree_117 rfl (nI_1 (s9)) (by decide) rfl ?_
                  refine g_goto C 53 dX11_agree_120 rfl ?_
                  refine g_sub [0, 2, 1, 3, 4, 5, 6] [(6, .int (nI (s9 + 1))), (5, .int (nI (0))), (4, .int (mKs σ s9)), (0, .ref (w.1 (0))), (1, .int (x)), (2, .int (nI (k))), (3, .int (nI (0)))] rfl ?_
                  refine g_l2 hG9.symm ?_
                  rw [← hS]
                  exact ih0 (s9 + 1) (by omega) (by omega)
                · have hg2 := pI_ye c_31
                  refine g_iload (pc9 := 88) C rfl 2 dX11_agree_86 rfl ?_
                  refine g_if_eq (pc9 := 91) C rfl 102 dX11_agree_88 rfl (fun c_33 => ?_) (fun c_33 => ?_)
                  · have hG9 : pI (mskG σ x (s9 + 1)) = nI 1 := pI_t ⟨fun _ => ⟨hg1, hg2, Or.inl c_33⟩, fun q => absurd hbt q⟩
                    refine g_iconst (pc9 := 103) C rfl (nI (1)) dX11_agree_102 rfl ?_
                    refine g_goto C 107 dX11_agree_103 rfl ?_
                    refine g_istore (pc9 := 109) C rfl [(5, .int (nI (1))), (6, .int (nI (s9))), (4, .int (mskS σ x s9)), (0, .ref (w.1 (0))), (1, .int (x)), (2, .int (nI (k))), (3, .int (nI (0)))] dX11_agree_107 (by decide) rfl ?_
                    refine g_aload_n (pc9 := 110) C rfl 3 dX11_agree_109 rfl rfl ?_
                    refine g_iload (pc9 := 112) C rfl 1 dX11_agree_110 rfl ?_
                    refine g_callVi (nn := 1) (rest := []) (pc9 := 115) C rfl (0) [.int (nI (s9))] rfl dX11_agree_112 (m_X11_kindsOf l w (mT σ 0) s9 (by omega) (hM s9 (by omega))) gX11_agree_X11_kindsOf (by decide) (ce_0 w (sN σ (0) 0 (nI (0)))) rfl rfl rfl rfl rfl (by decide +kernel) ⟨by decide, by decide⟩ rfl (Nat.le_of_ble_eq_true rfl) ⟨by decide, by decide⟩ (fun r_34 σ_34 q_34 => ?_)
                    obtain ⟨qs_34, qr_34⟩ := q_34
                    replace qr_34 : r_34 = mKs σ s9 := qr_34
                    rw [qs_34, qr_34]
                    clear qs_34 qr_34
                    refine g_istore (pc9 := 117) C rfl [(4, .int (mKs σ s9)), (5, .int (nI (1))), (6, .int (nI (s9))), (0, .ref (w.1 (0))), (1, .int (x)), (2, .int (nI (k))), (3, .int (nI (0)))] dX11_agree_115 (by decide) rfl ?_
                    refine g_iinc (pc9 := 120) C rfl [(6, .int (nI (s9 + 1))), (4, .int (mKs σ s9)), (5, .int (nI (1))), (0, .ref (w.1 (0))), (1, .int (x)), (2, .int (nI (k))), (3, .int (nI (0)))] 2 (nI (s9 + 1)) dX11_agree_117 rfl (nI_1 (s9)) (by decide) rfl ?_
                    refine g_goto C 53 dX11_agree_120 rfl ?_
                    refine g_sub [0, 2, 1, 3, 4, 5, 6] [(6, .int (nI (s9 + 1))), (5, .int (nI (1))), (4, .int (mKs σ s9)), (0, .ref (w.1 (0))), (1, .int (x)), (2, .int (nI (k))), (3, .int (nI (0)))] rfl ?_
                    refine g_l2 hG9.symm ?_
                    rw [← hS]
                    exact ih0 (s9 + 1) (by omega) (by omega)
                  · have hn0 : ¬ mskS σ x s9 = 0 := c_33
                    refine g_aload_n (pc9 := 92) C rfl 3 dX11_agree_91 rfl rfl ?_
                    refine g_iload (pc9 := 94) C rfl 0 dX11_agree_92 rfl ?_
                    refine g_callVi (nn := 1) (rest := []) (pc9 := 97) C rfl (0) [.int (nI (s9))] rfl dX11_agree_94 (m_X11_kindsOf l w (mT σ 0) s9 (by omega) (hM s9 (by omega))) gX11_agree_X11_kindsOf (by decide) (ce_0 w (sN σ (0) 0 (nI (0)))) rfl rfl rfl rfl rfl (by decide +kernel) ⟨by decide, by decide⟩ rfl (Nat.le_of_ble_eq_true rfl) ⟨by decide, by decide⟩ (fun r_35 σ_35 q_35 => ?_)
                    obtain ⟨qs_35, qr_35⟩ := q_35
                    replace qr_35 : r_35 = mKs σ s9 := qr_35
                    rw [qs_35, qr_35]
                    clear qs_35 qr_35
                    refine g_iload (pc9 := 99) C rfl 2 dX11_agree_97 rfl ?_
                    refine g_icmp_ne (pc9 := 102) C rfl 106 dX11_agree_99 rfl (fun c_36 => ?_) (fun c_36 => ?_)
                    · have hG9 : pI (mskG σ x (s9 + 1)) = nI 0 := pI_f (fun h => by rcases (h.1 hbt).2.2 with q | q; exact hn0 q; exact c_36 q)
                      refine g_iconst (pc9 := 107) C rfl (nI (0)) dX11_agree_106 rfl ?_
                      refine g_istore (pc9 := 109) C rfl [(5, .int (nI (0))), (6, .int (nI (s9))), (4, .int (mskS σ x s9)), (0, .ref (w.1 (0))), (1, .int (x)), (2, .int (nI (k))), (3, .int (nI (0)))] dX11_agree_107 (by decide) rfl ?_
                      refine g_aload_n (pc9 := 110) C rfl 3 dX11_agree_109 rfl rfl ?_
                      refine g_iload (pc9 := 112) C rfl 1 dX11_agree_110 rfl ?_
                      refine g_callVi (nn := 1) (rest := []) (pc9 := 115) C rfl (0) [.int (nI (s9))] rfl dX11_agree_112 (m_X11_kindsOf l w (mT σ 0) s9 (by omega) (hM s9 (by omega))) gX11_agree_X11_kindsOf (by decide) (ce_0 w (sN σ (0) 0 (nI (0)))) rfl rfl rfl rfl rfl (by decide +kernel) ⟨by decide, by decide⟩ rfl (Nat.le_of_ble_eq_true rfl) ⟨by decide, by decide⟩ (fun r_37 σ_37 q_37 => ?_)
                      obtain ⟨qs_37, qr_37⟩ := q_37
                      replace qr_37 : r_37 = mKs σ s9 := qr_37
                      rw [qs_37, qr_37]
                      clear qs_37 qr_37
                      refine g_istore (pc9 := 117) C rfl [(4, .int (mKs σ s9)), (5, .int (nI (0))), (6, .int (nI (s9))), (0, .ref (w.1 (0))), (1, .int (x)), (2, .int (nI (k))), (3, .int (nI (0)))] dX11_agree_115 (by decide) rfl ?_
                      refine g_iinc (pc9 := 120) C rfl [(6, .int (nI (s9 + 1))), (4, .int (mKs σ s9)), (5, .int (nI (0))), (0, .ref (w.1 (0))), (1, .int (x)), (2, .int (nI (k))), (3, .int (nI (0)))] 2 (nI (s9 + 1)) dX11_agree_117 rfl (nI_1 (s9)) (by decide) rfl ?_
                      refine g_goto C 53 dX11_agree_120 rfl ?_
                      refine g_sub [0, 2, 1, 3, 4, 5, 6] [(6, .int (nI (s9 + 1))), (5, .int (nI (0))), (4, .int (mKs σ s9)), (0, .ref (w.1 (0))), (1, .int (x)), (2, .int (nI (k))), (3, .int (nI (0)))] rfl ?_
                      refine g_l2 hG9.symm ?_
                      rw [← hS]
                      exact ih0 (s9 + 1) (by omega) (by omega)
                    · have hG9 : pI (mskG σ x (s9 + 1)) = nI 1 := pI_t ⟨fun _ => ⟨hg1, hg2, Or.inr c_36⟩, fun q => absurd hbt q⟩
                      refine g_iconst (pc9 := 103) C rfl (nI (1)) dX11_agree_102 rfl ?_
                      refine g_goto C 107 dX11_agree_103 rfl ?_
                      refine g_istore (pc9 := 109) C rfl [(5, .int (nI (1))), (6, .int (nI (s9))), (4, .int (mskS σ x s9)), (0, .ref (w.1 (0))), (1, .int (x)), (2, .int (nI (k))), (3, .int (nI (0)))] dX11_agree_107 (by decide) rfl ?_
                      refine g_aload_n (pc9 := 110) C rfl 3 dX11_agree_109 rfl rfl ?_
                      refine g_iload (pc9 := 112) C rfl 1 dX11_agree_110 rfl ?_
                      refine g_callVi (nn := 1) (rest := []) (pc9 := 115) C rfl (0) [.int (nI (s9))] rfl dX11_agree_112 (m_X11_kindsOf l w (mT σ 0) s9 (by omega) (hM s9 (by omega))) gX11_agree_X11_kindsOf (by decide) (ce_0 w (sN σ (0) 0 (nI (0)))) rfl rfl rfl rfl rfl (by decide +kernel) ⟨by decide, by decide⟩ rfl (Nat.le_of_ble_eq_true rfl) ⟨by decide, by decide⟩ (fun r_38 σ_38 q_38 => ?_)
                      obtain ⟨qs_38, qr_38⟩ := q_38
                      replace qr_38 : r_38 = mKs σ s9 := qr_38
                      rw [qs_38, qr_38]
                      clear qs_38 qr_38
                      refine g_istore (pc9 := 117) C rfl [(4, .int (mKs σ s9)), (5, .int (nI (1))), (6, .int (nI (s9))), (0, .ref (w.1 (0))), (1, .int (x)), (2, .int (nI (k))), (3, .int (nI (0)))] dX11_agree_115 (by decide) rfl ?_
                      refine g_iinc (pc9 := 120) C rfl [(6, .int (nI (s9 + 1))), (4, .int (mKs σ s9)), (5, .int (nI (1))), (0, .ref (w.1 (0))), (1, .int (x)), (2, .int (nI (k))), (3, .int (nI (0)))] 2 (nI (s9 + 1)) dX11_agree_117 rfl (nI_1 (s9)) (by decide) rfl ?_
                      refine g_goto C 53 dX11_agree_120 rfl ?_
                      refine g_sub [0, 2, 1, 3, 4, 5, 6] [(6, .int (nI (s9 + 1))), (5, .int (nI (1))), (4, .int (mKs σ s9)), (0, .ref (w.1 (0))), (1, .int (x)), (2, .int (nI (k))), (3, .int (nI (0)))] rfl ?_
                      refine g_l2 hG9.symm ?_
                      rw [← hS]
                      exact ih0 (s9 + 1) (by omega) (by omega)
            · have hbt : ¬ bt x s9 := fun h => h c_27
              have hS : mskS σ x (s9 + 1) = mskS σ x s9 := if_neg hbt
              have hG9 : pI (mskG σ x (s9 + 1)) = pI (mskG σ x s9) := pI_c ⟨fun h => h.2 hbt, fun h => ⟨fun q => absurd q hbt, fun _ => h⟩⟩
              refine g_goto C 117 dX11_agree_69 rfl ?_
              refine g_iinc (pc9 := 120) C rfl [(6, .int (nI (s9 + 1))), (5, .int (pI (mskG σ x s9))), (4, .int (mskS σ x s9)), (0, .ref (w.1 (0))), (1, .int (x)), (2, .int (nI (k))), (3, .int (nI (0)))] 0 (nI (s9 + 1)) dX11_agree_117 rfl (nI_1 (s9)) (by decide) rfl ?_
              refine g_goto C 53 dX11_agree_120 rfl ?_
              refine g_sub [0, 1, 2, 3, 4, 5, 6] [(6, .int (nI (s9 + 1))), (5, .int (pI (mskG σ x s9))), (4, .int (mskS σ x s9)), (0, .ref (w.1 (0))), (1, .int (x)), (2, .int (nI (k))), (3, .int (nI (0)))] rfl ?_
              refine g_l2 hG9.symm ?_
              rw [← hS]
              exact ih0 (s9 + 1) (by omega) (by omega)
        · exact absurd c_9 (by decide)
      · have hset : ¬ okR 1 255 x := fun h => h.2 (Int32.not_le.mp c_7)
        refine g_iconst (pc9 := 31) C rfl (nI (1)) dX11_agree_30 rfl ?_
        refine g_goto C 35 dX11_agree_31 rfl ?_
        refine g_iconst (pc9 := 36) C rfl (nI (2)) dX11_agree_35 rfl ?_
        refine g_callVi (nn := 2) (rest := []) (pc9 := 39) C rfl (0) [.int (nI (1)), .int (nI (2))] rfl dX11_agree_36 (m_throws1 l w (sN σ (0) 0 (nI (0))) 2) gX11_agree_X11_throwsIf (by decide) (ce_0 w (sN σ (0) 0 (nI (0)))) rfl rfl rfl rfl rfl (by decide +kernel) ⟨by decide, by decide⟩ rfl (Nat.le_of_ble_eq_true rfl) ⟨by decide, by decide⟩ (fun r_39 σ_39 q_39 => ?_)
        obtain ⟨qs_39, qr_39⟩ := q_39
        rw [qr_39]
        refine g_st (σ9 := sN σ (0) 0 (nI (2))) (qs_39.trans (by show sN (sN σ (0) 0 (nI (0))) (0) 0 (nI (2)) = sN σ (0) 0 (nI (2)); rw [sN_sN])) ?_
        refine g_if_eq (pc9 := 42) C rfl 44 dX11_agree_39 rfl (fun c_40 => ?_) (fun c_40 => ?_)
        · exact absurd c_40 (by decide)
        · refine g_iconst (pc9 := 43) C rfl (nI (0)) dX11_agree_42 rfl ?_
          exact g_ireturn C hr hlk dX11_agree_43 (by first | exact Or.inl ⟨hns, rfl⟩ | exact Or.inr (Or.inl ⟨⟨k, hb_k, rfl⟩, hset, rfl⟩))
set_option maxRecDepth 100000 in
set_option maxHeartbeats 4000000 in
theorem m_X11_most (l : Launch) (w : Wd) (σ : St) (hM : ∀ i, i < 8 → mtOk σ i) (x u : Int32) (hB : ∀ v, v < 4096 → okR 1 255 x → mskG σ x 8 → (magF σ x 0 v).1 < 400) (hG : okR 1 255 x → mskG σ x 8 → 0 < (magF σ x 0 4095).1 ∧ (magF σ x 0 4095).1 ≤ 47) : MI l yX11_most wsX11_most (rmL 5) w [.ref (w.1 (0)), .int (x), .int (u)] (σ) (magP σ x u 0) := by
  refine MI_of (cc := cX11_most) (maxL := 3) (ret := .int) (by decide) rfl (Nat.le_of_ble_eq_true rfl) ?_
  intro p e s m args below meth c A C hr hlk
  have C : Cx p s m args c w A cX11_most RX11 3 wsX11_most := C
  refine g_aload_n (pc9 := 1) C rfl 0 dX11_most_0 rfl rfl ?_
  refine g_iload_n (pc9 := 2) C rfl 1 dX11_most_1 rfl rfl ?_
  refine g_iload_n (pc9 := 3) C rfl 2 dX11_most_2 rfl rfl ?_
  refine g_iconst (pc9 := 4) C rfl (nI (0)) dX11_most_3 rfl ?_
  refine g_callVi (nn := 3) (rest := []) (pc9 := 7) C rfl (0) [.int (x), .int (u), .int (nI (0))] rfl dX11_most_4 (m_agree0 l w σ hM x u hB hG) gX11_most_X11_agree (by decide) (ce_0 w (σ)) rfl rfl rfl rfl rfl (by decide +kernel) ⟨by decide, by decide⟩ rfl (Nat.le_of_ble_eq_true rfl) ⟨by decide, by decide⟩ (fun r_1 σ_1 q_1 => ?_)
  exact g_ireturn C hr hlk dX11_most_7 q_1

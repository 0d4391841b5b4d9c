/-! The reference: perfect, four points, clock -/
set_option maxRecDepth 100000 in
set_option maxHeartbeats 4000000 in
theorem m_X11_areAgainst (l : Launch) (w : Wd) (σ : St) (a b : Int32) : MI l yX11_areAgainst wsX11_areAgainst (rmL 1) w [.int (a), .int (b)] (σ) (fun r σ9 => σ9 = σ ∧ r = pI (agI a b)) := by
  refine MI_of (cc := cX11_areAgainst) (maxL := 2) (ret := .boolean) (by decide) rfl (Nat.le_of_ble_eq_true rfl) ?_
  intro p e s m args below meth c A C hr hlk
  have C : Cx p s m args c w A cX11_areAgainst RX11 2 wsX11_areAgainst := C
  refine g_iload_n (pc9 := 1) C rfl 0 dX11_areAgainst_0 rfl rfl ?_
  refine g_iload_n (pc9 := 2) C rfl 1 dX11_areAgainst_1 rfl rfl ?_
  refine g_iconst (pc9 := 3) C rfl ((-1)) dX11_areAgainst_2 rfl ?_
  refine g_ixor (pc9 := 4) C rfl dX11_areAgainst_3 ?_
  refine g_iand (pc9 := 5) C rfl dX11_areAgainst_4 ?_
  refine g_if_eq (pc9 := 8) C rfl 26 dX11_areAgainst_5 rfl (fun c_1 => ?_) (fun c_1 => ?_)
  · have hq : ¬ agI a b := fun h => h.1 c_1
    refine g_iconst (pc9 := 27) C rfl (nI (0)) dX11_areAgainst_26 rfl ?_
    exact g_zreturn C hr hlk dX11_areAgainst_27 (by decide) ⟨rfl, by first | exact (pI_t hq).symm | exact (pI_f hq).symm⟩
  · refine g_iload_n (pc9 := 9) C rfl 1 dX11_areAgainst_8 rfl rfl ?_
    refine g_iload_n (pc9 := 10) C rfl 0 dX11_areAgainst_9 rfl rfl ?_
    refine g_iconst (pc9 := 11) C rfl ((-1)) dX11_areAgainst_10 rfl ?_
    refine g_ixor (pc9 := 12) C rfl dX11_areAgainst_11 ?_
    refine g_iand (pc9 := 13) C rfl dX11_areAgainst_12 ?_
    refine g_if_eq (pc9 := 16) C rfl 26 dX11_areAgainst_13 rfl (fun c_2 => ?_) (fun c_2 => ?_)
    · have hq : ¬ agI a b := fun h => h.2.1 c_2
      refine g_iconst (pc9 := 27) C rfl (nI (0)) dX11_areAgainst_26 rfl ?_
      exact g_zreturn C hr hlk dX11_areAgainst_27 (by decide) ⟨rfl, by first | exact (pI_t hq).symm | exact (pI_f hq).symm⟩
    · refine g_iload_n (pc9 := 17) C rfl 0 dX11_areAgainst_16 rfl rfl ?_
      refine g_iload_n (pc9 := 18) C rfl 1 dX11_areAgainst_17 rfl rfl ?_
      refine g_iand (pc9 := 19) C rfl dX11_areAgainst_18 ?_
      refine g_if_eq (pc9 := 22) C rfl 26 dX11_areAgainst_19 rfl (fun c_3 => ?_) (fun c_3 => ?_)
      · have hq : ¬ agI a b := fun h => h.2.2 c_3
        refine g_iconst (pc9 := 27) C rfl (nI (0)) dX11_areAgainst_26 rfl ?_
        exact g_zreturn C hr hlk dX11_areAgainst_27 (by decide) ⟨rfl, by first | exact (pI_t hq).symm | exact (pI_f hq).symm⟩
      · have hq : agI a b := ⟨by assumption, by assumption, by assumption⟩
        refine g_iconst (pc9 := 23) C rfl (nI (1)) dX11_areAgainst_22 rfl ?_
        refine g_goto C 27 dX11_areAgainst_23 rfl ?_
        exact g_zreturn C hr hlk dX11_areAgainst_27 (by decide) ⟨rfl, by first | exact (pI_t hq).symm | exact (pI_f hq).symm⟩
def mqR (f : Nat → Int32) (x : Int32) (z : Nat) (r : Int32) : Prop := ∃ i k, i < z ∧ k < z ∧ qrl f x i k ∧ r = nI (16 * i + k + 1000) ∧ (∀ i9 k9, i9 < i → k9 < z → ¬ qrl f x i9 k9) ∧ ∀ k9, k9 < k → ¬ qrl f x i k9
noncomputable abbrev mpfF (σ : St) (x : Int32) (v : Nat) : Fam := maUp (fun k => iA σ 8 k &&& x) (maK (0, iA σ 13) x) v
def mpfP (σ : St) (z : Nat) (x u : Int32) (r : Int32) (σ9 : St) : Prop := (¬ okI 8 u ∧ σ9 = mT σ 1) ∨ (okI 8 u ∧ ¬ okR 1 4095 x ∧ σ9 = mT σ 2) ∨ (∃ k, k < 8 ∧ u = nI k ∧ okR 1 4095 x ∧ ((mqR (iA σ 8) x z r ∧ σ9 = mT σ 0) ∨ ((∀ i k, i < z → k < z → ¬ qrl (iA σ 8) x i k) ∧ r = nI 0 ∧ σ9 = puS (mT σ 0) (mpfF σ x z) k)))
theorem maK_le {F : Fam} {x : Int32} : (maK F x).1 ≤ F.1 + 13 := by
  have h1 := maUp_le (q := fun k => x &&& bitI k) (F := maA F x) 12
  have h2 := maA_le (F := F) (x := x)
  show (maUp _ _ 12).1 ≤ _
  omega
set_option maxRecDepth 100000 in
set_option maxHeartbeats 4000000 in
theorem m_X11_perfect (l : Launch) (w : Wd) (σ : St) (z : Nat) (hz : nF σ 0 13 = nI z) (h16 : z ≤ 16) (x u : Int32) (hG : okR 1 4095 x → (∀ i k, i < z → k < z → ¬ qrl (iA σ 8) x i k) → 0 < (mpfF σ x z).1 ∧ (mpfF σ x z).1 ≤ 47) : MI l yX11_perfect wsX11_perfect (rmL 3) w [.ref (w.1 (0)), .int (x), .int (u)] (σ) (mpfP σ z x u) := by
  refine MI_of (cc := cX11_perfect) (maxL := 5) (ret := .int) (by decide) rfl (Nat.le_of_ble_eq_true rfl) ?_
  intro p e s m args below meth c A C hr hlk
  have C : Cx p s m args c w A cX11_perfect RX11 5 wsX11_perfect := C
  have hin_11 : ∀ u ∈ wsX110, u ∈ wsX11_perfect := by decide +kernel
  have hl_36 : Cond.fieldLink RX11 36 "LineageBenchModel" "signs" "[I" ∈ wsX11_perfect := by decide +kernel
  have hl_107 : Cond.fieldLink RX11 107 "LineageBenchModel" "thrown" "I" ∈ wsX11_perfect := by decide +kernel
  have hl_129 : Cond.fieldLink RX11 129 "LineageBenchModel" "setMany" "I" ∈ wsX11_perfect := by decide +kernel
  have hl_231 : Cond.fieldLink RX11 231 "LineageBenchModel" "signMany" "I" ∈ wsX11_perfect := by decide +kernel
  refine g_aload_n (pc9 := 1) C rfl 0 dX11_perfect_0 rfl rfl ?_
  refine g_iconst (pc9 := 2) C rfl (nI (0)) dX11_perfect_1 rfl ?_
  refine g_put (pc9 := 5) C rfl (0) 0 dX11_perfect_2 (by decide) (ce_0 w (σ)) (rfl) hin_11 hl_107 tyX11 tyX11_ok nmX11 rfl (by decide) rfl rfl rfl (Nat.le_of_ble_eq_true rfl) ?_
  refine g_aload_n (pc9 := 6) C rfl 0 dX11_perfect_5 rfl rfl ?_
  refine g_iload_n (pc9 := 7) C rfl 2 dX11_perfect_6 rfl rfl ?_
  refine g_callSi (nn := 1) (rest := [.ref (w.1 (0))]) (pc9 := 10) C rfl [.int (u)] rfl dX11_perfect_7 (m_X11_noShelf l w (sN σ (0) 0 (nI (0))) u) gX11_perfect_X11_noShelf rfl rfl rfl (by decide +kernel) ⟨by decide, by decide⟩ rfl (Nat.le_of_ble_eq_true rfl) ⟨by decide, by decide⟩ (fun r_1 σ_1 q_1 => ?_)
  obtain ⟨qs_1, qr_1⟩ := q_1
  rw [qs_1, qr_1]
  clear qs_1 qr_1
  refine g_iconst (pc9 := 11) C rfl (nI (1)) dX11_perfect_10 rfl ?_
  refine g_callVi (nn := 2) (rest := []) (pc9 := 14) C rfl (0) [.int (pI (¬ okI 8 u)), .int (nI (1))] rfl dX11_perfect_11 (m_throwsP l w (sN σ (0) 0 (nI (0))) (¬ okI 8 u) 1) gX11_perfect_X11_throwsIf (by decide) (ce_0 w (sN σ (0) 0 (nI (0)))) rfl rfl rfl rfl rfl (by decide +kernel) ⟨by decide, by decide⟩ rfl (Nat.le_of_ble_eq_true rfl) ⟨by decide, by decide⟩ (fun r_2 σ_2 q_2 => ?_)
  obtain ⟨qr_2, qt_2, qf_2⟩ := q_2
  rw [qr_2]
  refine g_if_ne (pc9 := 17) C rfl 42 dX11_perfect_14 rfl (fun c_3 => ?_) (fun c_3 => ?_)
  · have hns : ¬ okI 8 u := pI_ye c_3
    refine g_st (σ9 := sN σ (0) 0 (nI (1))) ((qt_2 hns).trans (by show sN (sN σ (0) 0 (nI (0))) (0) 0 (nI (1)) = sN σ (0) 0 (nI (1)); rw [sN_sN])) ?_
    refine g_iconst (pc9 := 43) C rfl (nI (0)) dX11_perfect_42 rfl ?_
    exact g_ireturn C hr hlk dX11_perfect_43 (by first | exact Or.inl ⟨hns, rfl⟩ | exact Or.inr (Or.inl ⟨⟨k, hb_k, rfl⟩, hset, rfl⟩))
  · have hns : ¬ (¬ okI 8 u) := pI_no c_3
    rw [qf_2 hns]
    obtain ⟨k, hb_k, hx_k⟩ := Classical.not_not.mp hns
    subst hx_k
    refine g_aload_n (pc9 := 18) C rfl 0 dX11_perfect_17 rfl rfl ?_
    refine g_iload_n (pc9 := 19) C rfl 1 dX11_perfect_18 rfl rfl ?_
    refine g_iconst (pc9 := 20) C rfl (nI (1)) dX11_perfect_19 rfl ?_
    refine g_icmp_lt (pc9 := 23) C rfl 30 dX11_perfect_20 rfl (fun c_4 => ?_) (fun c_4 => ?_)
    · have hset : ¬ okR 1 4095 x := fun h => h.1 c_4
      refine g_iconst (pc9 := 31) C rfl (nI (1)) dX11_perfect_30 rfl ?_
      refine g_goto C 35 dX11_perfect_31 rfl ?_
      refine g_iconst (pc9 := 36) C rfl (nI (2)) dX11_perfect_35 rfl ?_
      refine g_callVi (nn := 2) (rest := []) (pc9 := 39) C rfl (0) [.int (nI (1)), .int (nI (2))] rfl dX11_perfect_36 (m_throws1 l w (sN σ (0) 0 (nI (0))) 2) gX11_perfect_X11_throwsIf (by decide) (ce_0 w (sN σ (0) 0 (nI (0)))) rfl rfl rfl rfl rfl (by decide +kernel) ⟨by decide, by decide⟩ rfl (Nat.le_of_ble_eq_true rfl) ⟨by decide, by decide⟩ (fun r_5 σ_5 q_5 => ?_)
      obtain ⟨qs_5, qr_5⟩ := q_5
      rw [qr_5]
      refine g_st (σ9 := sN σ (0) 0 (nI (2))) (qs_5.trans (by show sN (sN σ (0) 0 (nI (0))) (0) 0 (nI (2)) = sN σ (0) 0 (nI (2)); rw [sN_sN])) ?_
      refine g_if_eq (pc9 := 42) C rfl 44 dX11_perfect_39 rfl (fun c_6 => ?_) (fun c_6 => ?_)
      · exact absurd c_6 (by decide)
      · refine g_iconst (pc9 := 43) C rfl (nI (0)) dX11_perfect_42 rfl ?_
        exact g_ireturn C hr hlk dX11_perfect_43 (by first | exact Or.inl ⟨hns, rfl⟩ | exact Or.inr (Or.inl ⟨⟨k, hb_k, rfl⟩, hset, rfl⟩))
    · have h0 : ¬ x < nI 1 := c_4
      refine g_iload_n (pc9 := 24) C rfl 1 dX11_perfect_23 rfl rfl ?_
      refine g_sipush (pc9 := 27) C rfl (nI (4095)) dX11_perfect_24 rfl ?_
      refine g_icmp_le (pc9 := 30) C rfl 34 dX11_perfect_27 rfl (fun c_7 => ?_) (fun c_7 => ?_)
      · have hset : okR 1 4095 x := ⟨h0, Int32.not_lt.mpr c_7⟩
        refine g_iconst (pc9 := 35) C rfl (nI (0)) dX11_perfect_34 rfl ?_
        refine g_iconst (pc9 := 36) C rfl (nI (2)) dX11_perfect_35 rfl ?_
        refine g_callVi (nn := 2) (rest := []) (pc9 := 39) C rfl (0) [.int (nI (0)), .int (nI (2))] rfl dX11_perfect_36 (m_throws0 l w (sN σ (0) 0 (nI (0))) 2) gX11_perfect_X11_throwsIf (by decide) (ce_0 w (sN σ (0) 0 (nI (0)))) rfl rfl rfl rfl rfl (by decide +kernel) ⟨by decide, by decide⟩ rfl (Nat.le_of_ble_eq_true rfl) ⟨by decide, by decide⟩ (fun r_8 σ_8 q_8 => ?_)
        obtain ⟨qs_8, qr_8⟩ := q_8
        rw [qs_8, qr_8]
        refine g_if_eq (pc9 := 42) C rfl 44 dX11_perfect_39 rfl (fun c_9 => ?_) (fun c_9 => ?_)
        · refine g_iconst (pc9 := 45) C rfl (nI (0)) dX11_perfect_44 rfl ?_
          refine g_istore_n (pc9 := 46) C rfl [(3, .int (nI (0))), (0, .ref (w.1 (0))), (1, .int (x)), (2, .int (nI (k)))] dX11_perfect_45 rfl (by decide) rfl ?_
          refine g_sub [0, 1, 2, 3] [(3, .int (nI (0))), (0, .ref (w.1 (0))), (1, .int (x)), (2, .int (nI (k)))] rfl ?_
          refine g_lp1 (α := Nat) (fun i => i ≤ z ∧ ∀ i9 k9, i9 < i → k9 < z → ¬ qrl (iA σ 8) x i9 k9) (fun i => z - i) (fun i => G p l e _ s m args below meth c _ w A _ (sN σ (0) 0 (nI (0))) 0 0 46 [(3, .int (nI (i))), (0, .ref (w.1 (0))), (1, .int (x)), (2, .int (nI (k)))] []) (fun i hI ih => ?_) (0) ⟨Nat.zero_le _, fun _ _ h => absurd h (by omega)⟩
          obtain ⟨hi, hu⟩ := hI
          refine g_iload_n (pc9 := 47) C rfl 0 dX11_perfect_46 rfl rfl ?_
          refine g_aload_n (pc9 := 48) C rfl 1 dX11_perfect_47 rfl rfl ?_
          refine g_get (v := .int (nI (z))) (pc9 := 51) C rfl (0) 13 dX11_perfect_48 (by decide) (ce_0 w (sN σ (0) 0 (nI (0)))) hin_11 hl_231 rfl (by decide) rfl (congrArg (fun z => some (Value.int z)) ((nF_k (k := 0) (k9 := 13) (by decide)).trans hz)) ?_
          refine g_icmp_ge (pc9 := 54) C rfl 113 dX11_perfect_51 rfl (fun c_10 => ?_) (fun c_10 => ?_)
          · replace c_10 := (nI_leI (by omega) (by omega)).mp c_10
            refine g_st (σ9 := sI (mT σ 0) 13 (iA σ 13)) (show sI (mT σ 0) 13 (iA (mT σ 0) 13) = mT σ 0 from sI_self).symm ?_
            have hall : ∀ i k, i < z → k < z → ¬ qrl (iA σ 8) x i k := fun i9 k9 h1 h2 => hu i9 k9 (by omega) h2
            refine g_aload_n (pc9 := 114) C rfl 1 dX11_perfect_113 rfl rfl ?_
            refine g_iconst (pc9 := 115) C rfl (nI (0)) dX11_perfect_114 rfl ?_
            refine g_put (pc9 := 118) C rfl (0) 21 dX11_perfect_115 (by decide) (ce_0 w (sI (sN σ (0) 0 (nI (0))) (13) (iA σ 13))) (rfl) hin_11 hl_129 tyX11 tyX11_ok nmX11 rfl (by decide) rfl rfl rfl (Nat.le_of_ble_eq_true rfl) ?_
            refine g_aload_n (pc9 := 119) C rfl 1 dX11_perfect_118 rfl rfl ?_
            refine g_iload_n (pc9 := 120) C rfl 2 dX11_perfect_119 rfl rfl ?_
            refine g_callVv (nn := 1) (rest := []) (pc9 := 123) C rfl (0) [.int (x)] rfl dX11_perfect_120 (m_X11_addsKinds l w (mT σ 0) (0, iA σ 13) (by show 0 < 380; decide) x) gX11_perfect_X11_addsKinds (by decide) (ce_0 w (sN (sI (sN σ (0) 0 (nI (0))) (13) (iA σ 13)) (0) 21 (nI (0)))) rfl rfl rfl rfl rfl (by decide +kernel) ⟨by decide, by decide⟩ rfl (Nat.le_of_ble_eq_true rfl) ⟨by decide, by decide⟩ (fun σ_11 q_11 => ?_)
            replace q_11 : σ_11 = sN (sI (sN σ (0) 0 (nI (0))) (13) ((mpfF σ x 0).2)) (0) 21 (nI ((mpfF σ x 0).1)) := q_11
            rw [q_11]
            clear q_11
            refine g_iconst (pc9 := 124) C rfl (nI (0)) dX11_perfect_123 rfl ?_
            refine g_istore_n (pc9 := 125) C rfl [(3, .int (nI (0))), (0, .ref (w.1 (0))), (1, .int (x)), (2, .int (nI (k)))] dX11_perfect_124 rfl (by decide) rfl ?_
            refine g_sub [0, 1, 2, 3] [(3, .int (nI (0))), (0, .ref (w.1 (0))), (1, .int (x)), (2, .int (nI (k)))] rfl ?_
            refine g_lp1 (α := Nat) (fun v => v ≤ z) (fun v => z - v) (fun v => G p l e _ s m args below meth c _ w A _ (sN (sI (sN σ (0) 0 (nI (0))) (13) ((mpfF σ x v).2)) (0) 21 (nI ((mpfF σ x v).1))) 0 0 125 [(3, .int (nI (v))), (0, .ref (w.1 (0))), (1, .int (x)), (2, .int (nI (k)))] []) (fun v hI ih2 => ?_) (0) (Nat.zero_le _)
            obtain hv := hI
            refine g_iload_n (pc9 := 126) C rfl 0 dX11_perfect_125 rfl rfl ?_
            refine g_aload_n (pc9 := 127) C rfl 1 dX11_perfect_126 rfl rfl ?_
            refine g_get (v := .int (nI (z))) (pc9 := 130) C rfl (0) 13 dX11_perfect_127 (by decide) (ce_0 w (sN (sI (sN σ (0) 0 (nI (0))) (13) ((mpfF σ x v).2)) (0) 21 (nI ((mpfF σ x v).1)))) hin_11 hl_231 rfl (by decide) rfl (congrArg (fun z => some (Value.int z)) ((((nF_k (k := 21) (k9 := 13) (by decide)).trans (nF_I)).trans (nF_k (k := 0) (k9 := 13) (by decide))).trans hz)) ?_
            refine g_icmp_ge (pc9 := 133) C rfl 151 dX11_perfect_130 rfl (fun c_12 => ?_) (fun c_12 => ?_)
            · replace c_12 := (nI_leI (by omega) (by omega)).mp c_12
              have hvz : v = z := by omega
              refine g_aload_n (pc9 := 152) C rfl 1 dX11_perfect_151 rfl rfl ?_
              refine g_iload_n (pc9 := 153) C rfl 3 dX11_perfect_152 rfl rfl ?_
              refine g_callVv (nn := 1) (rest := []) (pc9 := 156) C rfl (0) [.int (nI (k))] rfl dX11_perfect_153 (m_X11_puts l w (mT σ 0) (mpfF σ x v) (by rw [hvz]; exact (hG hset hall).1) (by rw [hvz]; exact (hG hset hall).2) k hb_k) gX11_perfect_X11_puts (by decide) (ce_0 w (sN (sI (sN σ (0) 0 (nI (0))) (13) ((mpfF σ x v).2)) (0) 21 (nI ((mpfF σ x v).1)))) rfl rfl rfl rfl rfl (by decide +kernel) ⟨by decide, by decide⟩ rfl (Nat.le_of_ble_eq_true rfl) ⟨by decide, by decide⟩ (fun σ_13 q_13 => ?_)
              replace q_13 : σ_13 = (puS (mT σ 0) (mpfF σ x v) k) := q_13
              rw [q_13]
              clear q_13
              refine g_iconst (pc9 := 157) C rfl (nI (0)) dX11_perfect_156 rfl ?_
              exact g_ireturn C hr hlk dX11_perfect_157 (Or.inr (Or.inr ⟨k, hb_k, rfl, hset, Or.inr ⟨hall, rfl, by rw [hvz]⟩⟩))
            · replace c_12 := (not_congr (nI_leI (by omega) (by omega))).mp c_12
              refine g_aload_n (pc9 := 134) C rfl 1 dX11_perfect_133 rfl rfl ?_
              refine g_aload_n (pc9 := 135) C rfl 1 dX11_perfect_134 rfl rfl ?_
              refine g_get (v := .ref (w.1 (8))) (pc9 := 138) C rfl (0) 12 dX11_perfect_135 (by decide) (ce_0 w (sN (sI (sN σ (0) 0 (nI (0))) (13) ((mpfF σ x v).2)) (0) 21 (nI ((mpfF σ x v).1)))) hin_11 hl_36 rfl (by decide) rfl rfl ?_
              refine g_iload_n (pc9 := 139) C rfl 0 dX11_perfect_138 rfl rfl ?_
              refine g_iald (x := (iA σ (8)) (v)) (pc9 := 140) C rfl (8) (v) dX11_perfect_139 (by decide) (ce_8 w (sN (sI (sN σ (0) 0 (nI (0))) (13) ((mpfF σ x v).2)) (0) 21 (nI ((mpfF σ x v).1)))) rfl (by omega) (by decide) (congrFun (((iA_N).trans (iA_n (by decide))).trans (iA_N)) _) ?_
              refine g_iload_n (pc9 := 141) C rfl 2 dX11_perfect_140 rfl rfl ?_
              refine g_iand (pc9 := 142) C rfl dX11_perfect_141 ?_
              refine g_callVv (nn := 1) (rest := []) (pc9 := 145) C rfl (0) [.int (((iA σ (8)) (v)) &&& (x))] rfl dX11_perfect_142 (m_X11_adds l w (mT σ 0) (mpfF σ x v) (by have h1 : (mpfF σ x v).1 ≤ _ + v := maUp_le v; have h2 := maK_le (F := (0, iA σ 13)) (x := x); dsimp only at h2; omega) (((iA σ (8)) (v)) &&& (x))) gX11_perfect_X11_adds (by decide) (ce_0 w (sN (sI (sN σ (0) 0 (nI (0))) (13) ((mpfF σ x v).2)) (0) 21 (nI ((mpfF σ x v).1)))) rfl rfl rfl rfl rfl (by decide +kernel) ⟨by decide, by decide⟩ rfl (Nat.le_of_ble_eq_true rfl) ⟨by decide, by decide⟩ (fun σ_14 q_14 => ?_)
              replace q_14 : σ_14 = sN (sI (sN σ (0) 0 (nI (0))) (13) ((mpfF σ x (v + 1)).2)) (0) 21 (nI ((mpfF σ x (v + 1)).1)) := q_14
              rw [q_14]
              clear q_14
              refine g_iinc (pc9 := 148) C rfl [(3, .int (nI (v + 1))), (0, .ref (w.1 (0))), (1, .int (x)), (2, .int (nI (k)))] 0 (nI (v + 1)) dX11_perfect_145 rfl (nI_1 (v)) (by decide) rfl ?_
              refine g_goto C 125 dX11_perfect_148 rfl ?_
              exact ih2 (v + 1) (by omega) (by omega)
          · replace c_10 := (not_congr (nI_leI (by omega) (by omega))).mp c_10
            refine g_iconst (pc9 := 55) C rfl (nI (0)) dX11_perfect_54 rfl ?_
            refine g_istore (pc9 := 57) C rfl [(4, .int (nI (0))), (3, .int (nI (i))), (0, .ref (w.1 (0))), (1, .int (x)), (2, .int (nI (k)))] dX11_perfect_55 (by decide) rfl ?_
            refine g_sub [0, 1, 2, 3, 4] [(4, .int (nI (0))), (3, .int (nI (i))), (0, .ref (w.1 (0))), (1, .int (x)), (2, .int (nI (k)))] rfl ?_
            refine g_lp1 (α := Nat) (fun j => j ≤ z ∧ ∀ k9, k9 < j → ¬ qrl (iA σ 8) x i k9) (fun j => z - j) (fun j => G p l e _ s m args below meth c _ w A _ (sN σ (0) 0 (nI (0))) 0 0 57 [(4, .int (nI (j))), (3, .int (nI (i))), (0, .ref (w.1 (0))), (1, .int (x)), (2, .int (nI (k)))] []) (fun j hI ih2 => ?_) (0) ⟨Nat.zero_le _, fun _ h => absurd h (by omega)⟩
            obtain ⟨hj, hw⟩ := hI
            refine g_iload (pc9 := 59) C rfl 0 dX11_perfect_57 rfl ?_
            refine g_aload_n (pc9 := 60) C rfl 2 dX11_perfect_59 rfl rfl ?_
            refine g_get (v := .int (nI (z))) (pc9 := 63) C rfl (0) 13 dX11_perfect_60 (by decide) (ce_0 w (sN σ (0) 0 (nI (0)))) hin_11 hl_231 rfl (by decide) rfl (congrArg (fun z => some (Value.int z)) ((nF_k (k := 0) (k9 := 13) (by decide)).trans hz)) ?_
            refine g_icmp_ge (pc9 := 66) C rfl 107 dX11_perfect_63 rfl (fun c_15 => ?_) (fun c_15 => ?_)
            · replace c_15 := (nI_leI (by omega) (by omega)).mp c_15
              refine g_iinc (pc9 := 110) C rfl [(3, .int (nI (i + 1))), (4, .int (nI (j))), (0, .ref (w.1 (0))), (1, .int (x)), (2, .int (nI (k)))] 1 (nI (i + 1)) dX11_perfect_107 rfl (nI_1 (i)) (by decide) rfl ?_
              refine g_goto C 46 dX11_perfect_110 rfl ?_
              refine g_sub [0, 2, 3, 4] [(3, .int (nI (i + 1))), (0, .ref (w.1 (0))), (1, .int (x)), (2, .int (nI (k)))] rfl ?_
              exact ih (i + 1) ⟨by omega, fun i9 k9 h1 h2 => by by_cases e : i9 = i; (rw [e]; exact hw k9 (by omega)); exact hu i9 k9 (by omega) h2⟩ (by omega)
            · replace c_15 := (not_congr (nI_leI (by omega) (by omega))).mp c_15
              refine g_aload_n (pc9 := 67) C rfl 2 dX11_perfect_66 rfl rfl ?_
              refine g_get (v := .ref (w.1 (8))) (pc9 := 70) C rfl (0) 12 dX11_perfect_67 (by decide) (ce_0 w (sN σ (0) 0 (nI (0)))) hin_11 hl_36 rfl (by decide) rfl rfl ?_
              refine g_iload_n (pc9 := 71) C rfl 1 dX11_perfect_70 rfl rfl ?_
              refine g_iald (x := (iA σ (8)) (i)) (pc9 := 72) C rfl (8) (i) dX11_perfect_71 (by decide) (ce_8 w (sN σ (0) 0 (nI (0)))) rfl (by omega) (by decide) (congrFun (iA_N) _) ?_
              refine g_iload_n (pc9 := 73) C rfl 3 dX11_perfect_72 rfl rfl ?_
              refine g_iand (pc9 := 74) C rfl dX11_perfect_73 ?_
              refine g_aload_n (pc9 := 75) C rfl 2 dX11_perfect_74 rfl rfl ?_
              refine g_get (v := .ref (w.1 (8))) (pc9 := 78) C rfl (0) 12 dX11_perfect_75 (by decide) (ce_0 w (sN σ (0) 0 (nI (0)))) hin_11 hl_36 rfl (by decide) rfl rfl ?_
              refine g_iload (pc9 := 80) C rfl 0 dX11_perfect_78 rfl ?_
              refine g_iald (x := (iA σ (8)) (j)) (pc9 := 81) C rfl (8) (j) dX11_perfect_80 (by decide) (ce_8 w (sN σ (0) 0 (nI (0)))) rfl (by omega) (by decide) (congrFun (iA_N) _) ?_
              refine g_iload_n (pc9 := 82) C rfl 3 dX11_perfect_81 rfl rfl ?_
              refine g_iand (pc9 := 83) C rfl dX11_perfect_82 ?_
              refine g_callSi (nn := 2) (rest := []) (pc9 := 86) C rfl [.int (((iA σ (8)) (i)) &&& (x)), .int (((iA σ (8)) (j)) &&& (x))] rfl dX11_perfect_83 (m_X11_areAgainst l w (sN σ (0) 0 (nI (0))) (((iA σ (8)) (i)) &&& (x)) (((iA σ (8)) (j)) &&& (x))) gX11_perfect_X11_areAgainst rfl rfl rfl (by decide +kernel) ⟨by decide, by decide⟩ rfl (Nat.le_of_ble_eq_true rfl) ⟨by decide, by decide⟩ (fun r_16 σ_16 q_16 => ?_)
              obtain ⟨qs_16, qr_16⟩ := q_16
              rw [qs_16, qr_16]
              clear qs_16 qr_16
              refine g_if_eq (pc9 := 89) C rfl 101 dX11_perfect_86 rfl (fun c_17 => ?_) (fun c_17 => ?_)
              · have hno : ¬ qrl (iA σ 8) x i j := pI_no c_17
                refine g_iinc (pc9 := 104) C rfl [(4, .int (nI (j + 1))), (3, .int (nI (i))), (0, .ref (w.1 (0))), (1, .int (x)), (2, .int (nI (k)))] 0 (nI (j + 1)) dX11_perfect_101 rfl (nI_1 (j)) (by decide) rfl ?_
                refine g_goto C 57 dX11_perfect_104 rfl ?_
                exact ih2 (j + 1) ⟨by omega, fun k9 h => by by_cases e : k9 = j; (rw [e]; exact hno); exact hw k9 (by omega)⟩ (by omega)
              · have hye : qrl (iA σ 8) x i j := pI_ye c_17
                refine g_bipush (pc9 := 91) C rfl (nI (16)) dX11_perfect_89 rfl ?_
                refine g_iload_n (pc9 := 92) C rfl 1 dX11_perfect_91 rfl rfl ?_
                refine g_imulN (pc9 := 93) C rfl dX11_perfect_92 ?_
                refine g_iload (pc9 := 95) C rfl 0 dX11_perfect_93 rfl ?_
                refine g_iaddN (pc9 := 96) C rfl dX11_perfect_95 ?_
                refine g_sipush (pc9 := 99) C rfl (nI (1000)) dX11_perfect_96 rfl ?_
                refine g_iaddN (pc9 := 100) C rfl dX11_perfect_99 ?_
                exact g_ireturn C hr hlk dX11_perfect_100 (Or.inr (Or.inr ⟨k, hb_k, rfl, hset, Or.inl ⟨⟨i, j, by omega, by omega, hye, rfl, hu, hw⟩, rfl⟩⟩))
        · exact absurd c_9 (by decide)
      · have hset : ¬ okR 1 4095 x := fun h => h.2 (Int32.not_le.mp c_7)
        refine g_iconst (pc9 := 31) C rfl (nI (1)) dX11_perfect_30 rfl ?_
        refine g_goto C 35 dX11_perfect_31 rfl ?_
        refine g_iconst (pc9 := 36) C rfl (nI (2)) dX11_perfect_35 rfl ?_
        refine g_callVi (nn := 2) (rest := []) (pc9 := 39) C rfl (0) [.int (nI (1)), .int (nI (2))] rfl dX11_perfect_36 (m_throws1 l w (sN σ (0) 0 (nI (0))) 2) gX11_perfect_X11_throwsIf (by decide) (ce_0 w (sN σ (0) 0 (nI (0)))) rfl rfl rfl rfl rfl (by decide +kernel) ⟨by decide, by decide⟩ rfl (Nat.le_of_ble_eq_true rfl) ⟨by decide, by decide⟩ (fun r_18 σ_18 q_18 => ?_)
        obtain ⟨qs_18, qr_18⟩ := q_18
        rw [qr_18]
        refine g_st (σ9 := sN σ (0) 0 (nI (2))) (qs_18.trans (by show sN (sN σ (0) 0 (nI (0))) (0) 0 (nI (2)) = sN σ (0) 0 (nI (2)); rw [sN_sN])) ?_
        refine g_if_eq (pc9 := 42) C rfl 44 dX11_perfect_39 rfl (fun c_19 => ?_) (fun c_19 => ?_)
        · exact absurd c_19 (by decide)
        · refine g_iconst (pc9 := 43) C rfl (nI (0)) dX11_perfect_42 rfl ?_
          exact g_ireturn C hr hlk dX11_perfect_43 (by first | exact Or.inl ⟨hns, rfl⟩ | exact Or.inr (Or.inl ⟨⟨k, hb_k, rfl⟩, hset, rfl⟩))
abbrev mD (σ : St) (a b : Nat) : Int32 := iA σ 10 (12 * a + b)
abbrev itP (x y z : Int32) : Prop := (x = y ∧ z ≤ x) ∨ (x = z ∧ y ≤ x) ∨ (y = z ∧ x ≤ y)
set_option maxRecDepth 100000 in
set_option maxHeartbeats 4000000 in
theorem m_X11_d (l : Launch) (w : Wd) (σ : St) (a b : Nat) (ha : a < 12) (hb : b < 12) : MI l yX11_d wsX11_d (rmL 1) w [.ref (w.1 (0)), .int (nI (a)), .int (nI (b))] (σ) (fun r σ9 => σ9 = σ ∧ r = mD σ a b) := by
  refine MI_of (cc := cX11_d) (maxL := 3) (ret := .int) (by decide) rfl (Nat.le_of_ble_eq_true rfl) ?_
  intro p e s m args below meth c A C hr hlk
  have C : Cx p s m args c w A cX11_d RX11 3 wsX11_d := C
  have hin_11 : ∀ u ∈ wsX110, u ∈ wsX11_d := by decide +kernel
  have hl_42 : Cond.fieldLink RX11 42 "LineageBenchModel" "distances" "[I" ∈ wsX11_d := by decide +kernel
  refine g_aload_n (pc9 := 1) C rfl 0 dX11_d_0 rfl rfl ?_
  refine g_get (v := .ref (w.1 (10))) (pc9 := 4) C rfl (0) 15 dX11_d_1 (by decide) (ce_0 w (σ)) hin_11 hl_42 rfl (by decide) rfl rfl ?_
  refine g_bipush (pc9 := 6) C rfl (nI (12)) dX11_d_4 rfl ?_
  refine g_iload_n (pc9 := 7) C rfl 1 dX11_d_6 rfl rfl ?_
  refine g_imulN (pc9 := 8) C rfl dX11_d_7 ?_
  refine g_iload_n (pc9 := 9) C rfl 2 dX11_d_8 rfl rfl ?_
  refine g_iaddN (pc9 := 10) C rfl dX11_d_9 ?_
  refine g_iald (x := (iA σ (10)) ((12 * a) + b)) (pc9 := 11) C rfl (10) ((12 * a) + b) dX11_d_10 (by decide) (ce_10 w (σ)) rfl (by omega) (by decide) rfl ?_
  exact g_ireturn C hr hlk dX11_d_11 ⟨rfl, rfl⟩
set_option maxRecDepth 100000 in
set_option maxHeartbeats 4000000 in
theorem m_X11_isTwice (l : Launch) (w : Wd) (σ : St) (x y z : Int32) : MI l yX11_isTwice wsX11_isTwice (rmL 1) w [.int (x), .int (y), .int (z)] (σ) (fun r σ9 => σ9 = σ ∧ r = pI (itP x y z)) := by
  refine MI_of (cc := cX11_isTwice) (maxL := 3) (ret := .boolean) (by decide) rfl (Nat.le_of_ble_eq_true rfl) ?_
  intro p e s m args below meth c A C hr hlk
  have C : Cx p s m args c w A cX11_isTwice RX11 3 wsX11_isTwice := C
  refine g_iload_n (pc9 := 1) C rfl 0 dX11_isTwice_0 rfl rfl ?_
  refine g_iload_n (pc9 := 2) C rfl 1 dX11_isTwice_1 rfl rfl ?_
  refine g_icmp_ne (pc9 := 5) C rfl 10 dX11_isTwice_2 rfl (fun c_1 => ?_) (fun c_1 => ?_)
  · have b_2_0 := c_1
    refine g_iload_n (pc9 := 11) C rfl 0 dX11_isTwice_10 rfl rfl ?_
    refine g_iload_n (pc9 := 12) C rfl 2 dX11_isTwice_11 rfl rfl ?_
    refine g_icmp_ne (pc9 := 15) C rfl 20 dX11_isTwice_12 rfl (fun c_2 => ?_) (fun c_2 => ?_)
    · have b_12_0 := c_2
      refine g_iload_n (pc9 := 21) C rfl 1 dX11_isTwice_20 rfl rfl ?_
      refine g_iload_n (pc9 := 22) C rfl 2 dX11_isTwice_21 rfl rfl ?_
      refine g_icmp_ne (pc9 := 25) C rfl 34 dX11_isTwice_22 rfl (fun c_3 => ?_) (fun c_3 => ?_)
      · have b_22_0 := c_3
        refine g_iconst (pc9 := 35) C rfl (nI (0)) dX11_isTwice_34 rfl ?_
        exact g_zreturn C hr hlk dX11_isTwice_35 (by decide) ⟨rfl, by first | exact (pI_t (show itP x y z from by first | exact Or.inl ⟨b_2_1, b_7_0⟩ | exact Or.inr (Or.inl ⟨b_12_1, b_17_0⟩) | exact Or.inr (Or.inr ⟨b_22_1, Int32.not_lt.mp b_27_1⟩))).symm | exact (pI_f (show ¬ itP x y z from by intro h; rcases h with ⟨h1, h2⟩ | ⟨h1, h2⟩ | ⟨h1, h2⟩; (first | exact b_2_0 h1 | exact b_7_1 h2); (first | exact b_12_0 h1 | exact b_17_1 h2); (first | exact b_22_0 h1 | exact absurd b_27_0 (Int32.not_lt.mpr h2)))).symm⟩
      · have b_22_1 := c_3
        refine g_iload_n (pc9 := 26) C rfl 1 dX11_isTwice_25 rfl rfl ?_
        refine g_iload_n (pc9 := 27) C rfl 0 dX11_isTwice_26 rfl rfl ?_
        refine g_icmp_lt (pc9 := 30) C rfl 34 dX11_isTwice_27 rfl (fun c_4 => ?_) (fun c_4 => ?_)
        · have b_27_0 := c_4
          refine g_iconst (pc9 := 35) C rfl (nI (0)) dX11_isTwice_34 rfl ?_
          exact g_zreturn C hr hlk dX11_isTwice_35 (by decide) ⟨rfl, by first | exact (pI_t (show itP x y z from by first | exact Or.inl ⟨b_2_1, b_7_0⟩ | exact Or.inr (Or.inl ⟨b_12_1, b_17_0⟩) | exact Or.inr (Or.inr ⟨b_22_1, Int32.not_lt.mp b_27_1⟩))).symm | exact (pI_f (show ¬ itP x y z from by intro h; rcases h with ⟨h1, h2⟩ | ⟨h1, h2⟩ | ⟨h1, h2⟩; (first | exact b_2_0 h1 | exact b_7_1 h2); (first | exact b_12_0 h1 | exact b_17_1 h2); (first | exact b_22_0 h1 | exact absurd b_27_0 (Int32.not_lt.mpr h2)))).symm⟩
        · have b_27_1 := c_4
          refine g_iconst (pc9 := 31) C rfl (nI (1)) dX11_isTwice_30 rfl ?_
          refine g_goto C 35 dX11_isTwice_31 rfl ?_
          exact g_zreturn C hr hlk dX11_isTwice_35 (by decide) ⟨rfl, by first | exact (pI_t (show itP x y z from by first | exact Or.inl ⟨b_2_1, b_7_0⟩ | exact Or.inr (Or.inl ⟨b_12_1, b_17_0⟩) | exact Or.inr (Or.inr ⟨b_22_1, Int32.not_lt.mp b_27_1⟩))).symm | exact (pI_f (show ¬ itP x y z from by intro h; rcases h with ⟨h1, h2⟩ | ⟨h1, h2⟩ | ⟨h1, h2⟩; (first | exact b_2_0 h1 | exact b_7_1 h2); (first | exact b_12_0 h1 | exact b_17_1 h2); (first | exact b_22_0 h1 | exact absurd b_27_0 (Int32.not_lt.mpr h2)))).symm⟩
    · have b_12_1 := c_2
      refine g_iload_n (pc9 := 16) C rfl 0 dX11_isTwice_15 rfl rfl ?_
      refine g_iload_n (pc9 := 17) C rfl 1 dX11_isTwice_16 rfl rfl ?_
      refine g_icmp_ge (pc9 := 20) C rfl 30 dX11_isTwice_17 rfl (fun c_5 => ?_) (fun c_5 => ?_)
      · have b_17_0 := c_5
        refine g_iconst (pc9 := 31) C rfl (nI (1)) dX11_isTwice_30 rfl ?_
        refine g_goto C 35 dX11_isTwice_31 rfl ?_
        exact g_zreturn C hr hlk dX11_isTwice_35 (by decide) ⟨rfl, by first | exact (pI_t (show itP x y z from by first | exact Or.inl ⟨b_2_1, b_7_0⟩ | exact Or.inr (Or.inl ⟨b_12_1, b_17_0⟩) | exact Or.inr (Or.inr ⟨b_22_1, Int32.not_lt.mp b_27_1⟩))).symm | exact (pI_f (show ¬ itP x y z from by intro h; rcases h with ⟨h1, h2⟩ | ⟨h1, h2⟩ | ⟨h1, h2⟩; (first | exact b_2_0 h1 | exact b_7_1 h2); (first | exact b_12_0 h1 | exact b_17_1 h2); (first | exact b_22_0 h1 | exact absurd b_27_0 (Int32.not_lt.mpr h2)))).symm⟩
      · have b_17_1 := c_5
        refine g_iload_n (pc9 := 21) C rfl 1 dX11_isTwice_20 rfl rfl ?_
        refine g_iload_n (pc9 := 22) C rfl 2 dX11_isTwice_21 rfl rfl ?_
        refine g_icmp_ne (pc9 := 25) C rfl 34 dX11_isTwice_22 rfl (fun c_6 => ?_) (fun c_6 => ?_)
        · have b_22_0 := c_6
          refine g_iconst (pc9 := 35) C rfl (nI (0)) dX11_isTwice_34 rfl ?_
          exact g_zreturn C hr hlk dX11_isTwice_35 (by decide) ⟨rfl, by first | exact (pI_t (show itP x y z from by first | exact Or.inl ⟨b_2_1, b_7_0⟩ | exact Or.inr (Or.inl ⟨b_12_1, b_17_0⟩) | exact Or.inr (Or.inr ⟨b_22_1, Int32.not_lt.mp b_27_1⟩))).symm | exact (pI_f (show ¬ itP x y z from by intro h; rcases h with ⟨h1, h2⟩ | ⟨h1, h2⟩ | ⟨h1, h2⟩; (first | exact b_2_0 h1 | exact b_7_1 h2); (first | exact b_12_0 h1 | exact b_17_1 h2); (first | exact b_22_0 h1 | exact absurd b_27_0 (Int32.not_lt.mpr h2)))).symm⟩
        · have b_22_1 := c_6
          refine g_iload_n (pc9 := 26) C rfl 1 dX11_isTwice_25 rfl rfl ?_
          refine g_iload_n (pc9 := 27) C rfl 0 dX11_isTwice_26 rfl rfl ?_
          refine g_icmp_lt (pc9 := 30) C rfl 34 dX11_isTwice_27 rfl (fun c_7 => ?_) (fun c_7 => ?_)
          · have b_27_0 := c_7
            refine g_iconst (pc9 := 35) C rfl (nI (0)) dX11_isTwice_34 rfl ?_
            exact g_zreturn C hr hlk dX11_isTwice_35 (by decide) ⟨rfl, by first | exact (pI_t (show itP x y z from by first | exact Or.inl ⟨b_2_1, b_7_0⟩ | exact Or.inr (Or.inl ⟨b_12_1, b_17_0⟩) | exact Or.inr (Or.inr ⟨b_22_1, Int32.not_lt.mp b_27_1⟩))).symm | exact (pI_f (show ¬ itP x y z from by intro h; rcases h with ⟨h1, h2⟩ | ⟨h1, h2⟩ | ⟨h1, h2⟩; (first | exact b_2_0 h1 | exact b_7_1 h2); (first | exact b_12_0 h1 | exact b_17_1 h2); (first | exact b_22_0 h1 | exact absurd b_27_0 (Int32.not_lt.mpr h2)))).symm⟩
          · have b_27_1 := c_7
            refine g_iconst (pc9 := 31) C rfl (nI (1)) dX11_isTwice_30 rfl ?_
            refine g_goto C 35 dX11_isTwice_31 rfl ?_
            exact g_zreturn C hr hlk dX11_isTwice_35 (by decide) ⟨rfl, by first | exact (pI_t (show itP x y z from by first | exact Or.inl ⟨b_2_1, b_7_0⟩ | exact Or.inr (Or.inl ⟨b_12_1, b_17_0⟩) | exact Or.inr (Or.inr ⟨b_22_1, Int32.not_lt.mp b_27_1⟩))).symm | exact (pI_f (show ¬ itP x y z from by intro h; rcases h with ⟨h1, h2⟩ | ⟨h1, h2⟩ | ⟨h1, h2⟩; (first | exact b_2_0 h1 | exact b_7_1 h2); (first | exact b_12_0 h1 | exact b_17_1 h2); (first | exact b_22_0 h1 | exact absurd b_27_0 (Int32.not_lt.mpr h2)))).symm⟩
  · have b_2_1 := c_1
    refine g_iload_n (pc9 := 6) C rfl 0 dX11_isTwice_5 rfl rfl ?_
    refine g_iload_n (pc9 := 7) C rfl 2 dX11_isTwice_6 rfl rfl ?_
    refine g_icmp_ge (pc9 := 10) C rfl 30 dX11_isTwice_7 rfl (fun c_8 => ?_) (fun c_8 => ?_)
    · have b_7_0 := c_8
      refine g_iconst (pc9 := 31) C rfl (nI (1)) dX11_isTwice_30 rfl ?_
      refine g_goto C 35 dX11_isTwice_31 rfl ?_
      exact g_zreturn C hr hlk dX11_isTwice_35 (by decide) ⟨rfl, by first | exact (pI_t (show itP x y z from by first | exact Or.inl ⟨b_2_1, b_7_0⟩ | exact Or.inr (Or.inl ⟨b_12_1, b_17_0⟩) | exact Or.inr (Or.inr ⟨b_22_1, Int32.not_lt.mp b_27_1⟩))).symm | exact (pI_f (show ¬ itP x y z from by intro h; rcases h with ⟨h1, h2⟩ | ⟨h1, h2⟩ | ⟨h1, h2⟩; (first | exact b_2_0 h1 | exact b_7_1 h2); (first | exact b_12_0 h1 | exact b_17_1 h2); (first | exact b_22_0 h1 | exact absurd b_27_0 (Int32.not_lt.mpr h2)))).symm⟩
    · have b_7_1 := c_8
      refine g_iload_n (pc9 := 11) C rfl 0 dX11_isTwice_10 rfl rfl ?_
      refine g_iload_n (pc9 := 12) C rfl 2 dX11_isTwice_11 rfl rfl ?_
      refine g_icmp_ne (pc9 := 15) C rfl 20 dX11_isTwice_12 rfl (fun c_9 => ?_) (fun c_9 => ?_)
      · have b_12_0 := c_9
        refine g_iload_n (pc9 := 21) C rfl 1 dX11_isTwice_20 rfl rfl ?_
        refine g_iload_n (pc9 := 22) C rfl 2 dX11_isTwice_21 rfl rfl ?_
        refine g_icmp_ne (pc9 := 25) C rfl 34 dX11_isTwice_22 rfl (fun c_10 => ?_) (fun c_10 => ?_)
        · have b_22_0 := c_10
          refine g_iconst (pc9 := 35) C rfl (nI (0)) dX11_isTwice_34 rfl ?_
          exact g_zreturn C hr hlk dX11_isTwice_35 (by decide) ⟨rfl, by first | exact (pI_t (show itP x y z from by first | exact Or.inl ⟨b_2_1, b_7_0⟩ | exact Or.inr (Or.inl ⟨b_12_1, b_17_0⟩) | exact Or.inr (Or.inr ⟨b_22_1, Int32.not_lt.mp b_27_1⟩))).symm | exact (pI_f (show ¬ itP x y z from by intro h; rcases h with ⟨h1, h2⟩ | ⟨h1, h2⟩ | ⟨h1, h2⟩; (first | exact b_2_0 h1 | exact b_7_1 h2); (first | exact b_12_0 h1 | exact b_17_1 h2); (first | exact b_22_0 h1 | exact absurd b_27_0 (Int32.not_lt.mpr h2)))).symm⟩
        · have b_22_1 := c_10
          refine g_iload_n (pc9 := 26) C rfl 1 dX11_isTwice_25 rfl rfl ?_
          refine g_iload_n (pc9 := 27) C rfl 0 dX11_isTwice_26 rfl rfl ?_
          refine g_icmp_lt (pc9 := 30) C rfl 34 dX11_isTwice_27 rfl (fun c_11 => ?_) (fun c_11 => ?_)
          · have b_27_0 := c_11
            refine g_iconst (pc9 := 35) C rfl (nI (0)) dX11_isTwice_34 rfl ?_
            exact g_zreturn C hr hlk dX11_isTwice_35 (by decide) ⟨rfl, by first | exact (pI_t (show itP x y z from by first | exact Or.inl ⟨b_2_1, b_7_0⟩ | exact Or.inr (Or.inl ⟨b_12_1, b_17_0⟩) | exact Or.inr (Or.inr ⟨b_22_1, Int32.not_lt.mp b_27_1⟩))).symm | exact (pI_f (show ¬ itP x y z from by intro h; rcases h with ⟨h1, h2⟩ | ⟨h1, h2⟩ | ⟨h1, h2⟩; (first | exact b_2_0 h1 | exact b_7_1 h2); (first | exact b_12_0 h1 | exact b_17_1 h2); (first | exact b_22_0 h1 | exact absurd b_27_0 (Int32.not_lt.mpr h2)))).symm⟩
          · have b_27_1 := c_11
            refine g_iconst (pc9 := 31) C rfl (nI (1)) dX11_isTwice_30 rfl ?_
            refine g_goto C 35 dX11_isTwice_31 rfl ?_
            exact g_zreturn C hr hlk dX11_isTwice_35 (by decide) ⟨rfl, by first | exact (pI_t (show itP x y z from by first | exact Or.inl ⟨b_2_1, b_7_0⟩ | exact Or.inr (Or.inl ⟨b_12_1, b_17_0⟩) | exact Or.inr (Or.inr ⟨b_22_1, Int32.not_lt.mp b_27_1⟩))).symm | exact (pI_f (show ¬ itP x y z from by intro h; rcases h with ⟨h1, h2⟩ | ⟨h1, h2⟩ | ⟨h1, h2⟩; (first | exact b_2_0 h1 | exact b_7_1 h2); (first | exact b_12_0 h1 | exact b_17_1 h2); (first | exact b_22_0 h1 | exact absurd b_27_0 (Int32.not_lt.mpr h2)))).symm⟩
      · have b_12_1 := c_9
        refine g_iload_n (pc9 := 16) C rfl 0 dX11_isTwice_15 rfl rfl ?_
        refine g_iload_n (pc9 := 17) C rfl 1 dX11_isTwice_16 rfl rfl ?_
        refine g_icmp_ge (pc9 := 20) C rfl 30 dX11_isTwice_17 rfl (fun c_12 => ?_) (fun c_12 => ?_)
        · have b_17_0 := c_12
          refine g_iconst (pc9 := 31) C rfl (nI (1)) dX11_isTwice_30 rfl ?_
          refine g_goto C 35 dX11_isTwice_31 rfl ?_
          exact g_zreturn C hr hlk dX11_isTwice_35 (by decide) ⟨rfl, by first | exact (pI_t (show itP x y z from by first | exact Or.inl ⟨b_2_1, b_7_0⟩ | exact Or.inr (Or.inl ⟨b_12_1, b_17_0⟩) | exact Or.inr (Or.inr ⟨b_22_1, Int32.not_lt.mp b_27_1⟩))).symm | exact (pI_f (show ¬ itP x y z from by intro h; rcases h with ⟨h1, h2⟩ | ⟨h1, h2⟩ | ⟨h1, h2⟩; (first | exact b_2_0 h1 | exact b_7_1 h2); (first | exact b_12_0 h1 | exact b_17_1 h2); (first | exact b_22_0 h1 | exact absurd b_27_0 (Int32.not_lt.mpr h2)))).symm⟩
        · have b_17_1 := c_12
          refine g_iload_n (pc9 := 21) C rfl 1 dX11_isTwice_20 rfl rfl ?_
          refine g_iload_n (pc9 := 22) C rfl 2 dX11_isTwice_21 rfl rfl ?_
          refine g_icmp_ne (pc9 := 25) C rfl 34 dX11_isTwice_22 rfl (fun c_13 => ?_) (fun c_13 => ?_)
          · have b_22_0 := c_13
            refine g_iconst (pc9 := 35) C rfl (nI (0)) dX11_isTwice_34 rfl ?_
            exact g_zreturn C hr hlk dX11_isTwice_35 (by decide) ⟨rfl, by first | exact (pI_t (show itP x y z from by first | exact Or.inl ⟨b_2_1, b_7_0⟩ | exact Or.inr (Or.inl ⟨b_12_1, b_17_0⟩) | exact Or.inr (Or.inr ⟨b_22_1, Int32.not_lt.mp b_27_1⟩))).symm | exact (pI_f (show ¬ itP x y z from by intro h; rcases h with ⟨h1, h2⟩ | ⟨h1, h2⟩ | ⟨h1, h2⟩; (first | exact b_2_0 h1 | exact b_7_1 h2); (first | exact b_12_0 h1 | exact b_17_1 h2); (first | exact b_22_0 h1 | exact absurd b_27_0 (Int32.not_lt.mpr h2)))).symm⟩
          · have b_22_1 := c_13
            refine g_iload_n (pc9 := 26) C rfl 1 dX11_isTwice_25 rfl rfl ?_
            refine g_iload_n (pc9 := 27) C rfl 0 dX11_isTwice_26 rfl rfl ?_
            refine g_icmp_lt (pc9 := 30) C rfl 34 dX11_isTwice_27 rfl (fun c_14 => ?_) (fun c_14 => ?_)
            · have b_27_0 := c_14
              refine g_iconst (pc9 := 35) C rfl (nI (0)) dX11_isTwice_34 rfl ?_
              exact g_zreturn C hr hlk dX11_isTwice_35 (by decide) ⟨rfl, by first | exact (pI_t (show itP x y z from by first | exact Or.inl ⟨b_2_1, b_7_0⟩ | exact Or.inr (Or.inl ⟨b_12_1, b_17_0⟩) | exact Or.inr (Or.inr ⟨b_22_1, Int32.not_lt.mp b_27_1⟩))).symm | exact (pI_f (show ¬ itP x y z from by intro h; rcases h with ⟨h1, h2⟩ | ⟨h1, h2⟩ | ⟨h1, h2⟩; (first | exact b_2_0 h1 | exact b_7_1 h2); (first | exact b_12_0 h1 | exact b_17_1 h2); (first | exact b_22_0 h1 | exact absurd b_27_0 (Int32.not_lt.mpr h2)))).symm⟩
            · have b_27_1 := c_14
              refine g_iconst (pc9 := 31) C rfl (nI (1)) dX11_isTwice_30 rfl ?_
              refine g_goto C 35 dX11_isTwice_31 rfl ?_
              exact g_zreturn C hr hlk dX11_isTwice_35 (by decide) ⟨rfl, by first | exact (pI_t (show itP x y z from by first | exact Or.inl ⟨b_2_1, b_7_0⟩ | exact Or.inr (Or.inl ⟨b_12_1, b_17_0⟩) | exact Or.inr (Or.inr ⟨b_22_1, Int32.not_lt.mp b_27_1⟩))).symm | exact (pI_f (show ¬ itP x y z from by intro h; rcases h with ⟨h1, h2⟩ | ⟨h1, h2⟩ | ⟨h1, h2⟩; (first | exact b_2_0 h1 | exact b_7_1 h2); (first | exact b_12_0 h1 | exact b_17_1 h2); (first | exact b_22_0 h1 | exact absurd b_27_0 (Int32.not_lt.mpr h2)))).symm⟩
abbrev mfQ (σ : St) (i j k t : Nat) : Prop := itP (mD σ i j + mD σ k t) (mD σ i k + mD σ j t) (mD σ i t + mD σ j k)
abbrev mf4 (σ : St) (N i : Nat) : Prop := ∀ i9, i9 < i → ∀ j, j < N → ∀ k, k < N → ∀ t, t < N → mfQ σ i9 j k t
abbrev mf3 (σ : St) (N i j : Nat) : Prop := ∀ j9, j9 < j → ∀ k, k < N → ∀ t, t < N → mfQ σ i j9 k t
abbrev mf2 (σ : St) (N i j k : Nat) : Prop := ∀ k9, k9 < k → ∀ t, t < N → mfQ σ i j k9 t
abbrev mf1 (σ : St) (i j k t : Nat) : Prop := ∀ t9, t9 < t → mfQ σ i j k t9
theorem lt_sc {P : Nat → Prop} {n : Nat} : (∀ k, k < n + 1 → P k) ↔ (∀ k, k < n → P k) ∧ P n := ⟨fun h => ⟨fun k hk => h k (by omega), h n (by omega)⟩, fun h k hk => by by_cases e : k = n; (rw [e]; exact h.2); exact h.1 k (by omega)⟩
theorem lt_z {P : Nat → Prop} : (∀ k, k < 0 → P k) ↔ True := ⟨fun _ => trivial, fun _ k hk => absurd hk (by omega)⟩
set_option maxRecDepth 100000 in
set_option maxHeartbeats 4000000 in
theorem m_X11_fourPoints (l : Launch) (w : Wd) (σ : St) (N : Nat) (hN : nF σ 0 16 = nI N) (h12 : N ≤ 12) : MI l yX11_fourPoints wsX11_fourPoints (rmL 2) w [.ref (w.1 (0))] (σ) (fun r σ9 => σ9 = mT σ 0 ∧ r = pI (mf4 σ N N)) := by
  refine MI_of (cc := cX11_fourPoints) (maxL := 6) (ret := .boolean) (by decide) rfl (Nat.le_of_ble_eq_true rfl) ?_
  intro p e s m args below meth c A C hr hlk
  have C : Cx p s m args c w A cX11_fourPoints RX11 6 wsX11_fourPoints := C
  have hin_11 : ∀ u ∈ wsX110, u ∈ wsX11_fourPoints := by decide +kernel
  have hl_45 : Cond.fieldLink RX11 45 "LineageBenchModel" "n" "I" ∈ wsX11_fourPoints := by decide +kernel
  have hl_107 : Cond.fieldLink RX11 107 "LineageBenchModel" "thrown" "I" ∈ wsX11_fourPoints := by decide +kernel
  refine g_aload_n (pc9 := 1) C rfl 0 dX11_fourPoints_0 rfl rfl ?_
  refine g_iconst (pc9 := 2) C rfl (nI (0)) dX11_fourPoints_1 rfl ?_
  refine g_put (pc9 := 5) C rfl (0) 0 dX11_fourPoints_2 (by decide) (ce_0 w (σ)) (rfl) hin_11 hl_107 tyX11 tyX11_ok nmX11 rfl (by decide) rfl rfl rfl (Nat.le_of_ble_eq_true rfl) ?_
  refine g_iconst (pc9 := 6) C rfl (nI (1)) dX11_fourPoints_5 rfl ?_
  refine g_istore_n (pc9 := 7) C rfl [(1, .int (nI (1))), (0, .ref (w.1 (0)))] dX11_fourPoints_6 rfl (by decide) rfl ?_
  refine g_iconst (pc9 := 8) C rfl (nI (0)) dX11_fourPoints_7 rfl ?_
  refine g_istore_n (pc9 := 9) C rfl [(2, .int (nI (0))), (1, .int (nI (1))), (0, .ref (w.1 (0)))] dX11_fourPoints_8 rfl (by decide) rfl ?_
  refine g_sub [0, 1, 2] [(2, .int (nI (0))), (1, .int (nI (1))), (0, .ref (w.1 (0)))] rfl ?_
  refine g_l2 (x9 := pI (mf4 σ N 0)) (pI_t (fun _ h => absurd h (by omega))).symm ?_
  refine g_lp1 (α := Nat) (fun i => i ≤ N) (fun i => N - i) (fun i => G p l e _ s m args below meth c _ w A _ (sN σ (0) 0 (nI (0))) 0 0 9 [(2, .int (nI (i))), (1, .int (pI (mf4 σ N i))), (0, .ref (w.1 (0)))] []) (fun i hI0 ih0 => ?_) (0) (Nat.zero_le _)
  refine g_iload_n (pc9 := 10) C rfl 0 dX11_fourPoints_9 rfl rfl ?_
  refine g_aload_n (pc9 := 11) C rfl 2 dX11_fourPoints_10 rfl rfl ?_
  refine g_get (v := .int (nI (N))) (pc9 := 14) C rfl (0) 16 dX11_fourPoints_11 (by decide) (ce_0 w (sN σ (0) 0 (nI (0)))) hin_11 hl_45 rfl (by decide) rfl (congrArg (fun z => some (Value.int z)) ((nF_k (k := 0) (k9 := 16) (by decide)).trans hN)) ?_
  refine g_icmp_ge (pc9 := 17) C rfl 136 dX11_fourPoints_14 rfl (fun c_1 => ?_) (fun c_1 => ?_)
  · replace c_1 := (nI_leI (by omega) (by omega)).mp c_1
    refine g_iload_n (pc9 := 137) C rfl 1 dX11_fourPoints_136 rfl rfl ?_
    exact g_zreturn C hr hlk dX11_fourPoints_137 (pI_01 _) ⟨rfl, by rw [show i = N by omega]⟩
  · replace c_1 := (not_congr (nI_leI (by omega) (by omega))).mp c_1
    refine g_iconst (pc9 := 18) C rfl (nI (0)) dX11_fourPoints_17 rfl ?_
    refine g_istore_n (pc9 := 19) C rfl [(3, .int (nI (0))), (2, .int (nI (i))), (1, .int (pI (mf4 σ N i))), (0, .ref (w.1 (0)))] dX11_fourPoints_18 rfl (by decide) rfl ?_
    refine g_sub [0, 2, 1, 3] [(3, .int (nI (0))), (1, .int (pI (mf4 σ N i))), (2, .int (nI (i))), (0, .ref (w.1 (0)))] rfl ?_
    refine g_l2 (x9 := pI (mf4 σ N i ∧ mf3 σ N i 0)) (pI_c ⟨fun h => ⟨h, fun _ q => absurd q (by omega)⟩, fun h => h.1⟩) ?_
    refine g_lp1 (α := Nat) (fun j => j ≤ N) (fun j => N - j) (fun j => G p l e _ s m args below meth c _ w A _ (sN σ (0) 0 (nI (0))) 0 0 19 [(3, .int (nI (j))), (1, .int (pI (mf4 σ N i ∧ mf3 σ N i j))), (2, .int (nI (i))), (0, .ref (w.1 (0)))] []) (fun j hI1 ih1 => ?_) (0) (Nat.zero_le _)
    refine g_iload_n (pc9 := 20) C rfl 0 dX11_fourPoints_19 rfl rfl ?_
    refine g_aload_n (pc9 := 21) C rfl 3 dX11_fourPoints_20 rfl rfl ?_
    refine g_get (v := .int (nI (N))) (pc9 := 24) C rfl (0) 16 dX11_fourPoints_21 (by decide) (ce_0 w (sN σ (0) 0 (nI (0)))) hin_11 hl_45 rfl (by decide) rfl (congrArg (fun z => some (Value.int z)) ((nF_k (k := 0) (k9 := 16) (by decide)).trans hN)) ?_
    refine g_icmp_ge (pc9 := 27) C rfl 130 dX11_fourPoints_24 rfl (fun c_2 => ?_) (fun c_2 => ?_)
    · replace c_2 := (nI_leI (by omega) (by omega)).mp c_2
      refine g_iinc (pc9 := 133) C rfl [(2, .int (nI (i + 1))), (3, .int (nI (j))), (1, .int (pI (mf4 σ N i ∧ mf3 σ N i j))), (0, .ref (w.1 (0)))] 2 (nI (i + 1)) dX11_fourPoints_130 rfl (nI_1 (i)) (by decide) rfl ?_
      refine g_goto C 9 dX11_fourPoints_133 rfl ?_
      refine g_sub [0, 2, 3] [(2, .int (nI (i + 1))), (1, .int (pI (mf4 σ N i ∧ mf3 σ N i j))), (0, .ref (w.1 (0)))] rfl ?_
      refine g_l2 (x9 := pI (mf4 σ N (i + 1))) (pI_c (by rw [show j = N by omega]; simp only [mf4, mf3]; rw [lt_sc]; try simp only [and_assoc])) ?_
      exact ih0 (i + 1) (by omega) (by omega)
    · replace c_2 := (not_congr (nI_leI (by omega) (by omega))).mp c_2
      refine g_iconst (pc9 := 28) C rfl (nI (0)) dX11_fourPoints_27 rfl ?_
      refine g_istore (pc9 := 30) C rfl [(4, .int (nI (0))), (3, .int (nI (j))), (1, .int (pI (mf4 σ N i ∧ mf3 σ N i j))), (2, .int (nI (i))), (0, .ref (w.1 (0)))] dX11_fourPoints_28 (by decide) rfl ?_
      refine g_sub [0, 2, 1, 3, 4] [(4, .int (nI (0))), (1, .int (pI (mf4 σ N i ∧ mf3 σ N i j))), (3, .int (nI (j))), (2, .int (nI (i))), (0, .ref (w.1 (0)))] rfl ?_
      refine g_l2 (x9 := pI (mf4 σ N i ∧ mf3 σ N i j ∧ mf2 σ N i j 0)) (pI_c ⟨fun h => ⟨h.1, h.2, fun _ q => absurd q (by omega)⟩, fun h => ⟨h.1, h.2.1⟩⟩) ?_
      refine g_lp1 (α := Nat) (fun k => k ≤ N) (fun k => N - k) (fun k => G p l e _ s m args below meth c _ w A _ (sN σ (0) 0 (nI (0))) 0 0 30 [(4, .int (nI (k))), (1, .int (pI (mf4 σ N i ∧ mf3 σ N i j ∧ mf2 σ N i j k))), (3, .int (nI (j))), (2, .int (nI (i))), (0, .ref (w.1 (0)))] []) (fun k hI2 ih2 => ?_) (0) (Nat.zero_le _)
      refine g_iload (pc9 := 32) C rfl 0 dX11_fourPoints_30 rfl ?_
      refine g_aload_n (pc9 := 33) C rfl 4 dX11_fourPoints_32 rfl rfl ?_
      refine g_get (v := .int (nI (N))) (pc9 := 36) C rfl (0) 16 dX11_fourPoints_33 (by decide) (ce_0 w (sN σ (0) 0 (nI (0)))) hin_11 hl_45 rfl (by decide) rfl (congrArg (fun z => some (Value.int z)) ((nF_k (k := 0) (k9 := 16) (by decide)).trans hN)) ?_
      refine g_icmp_ge (pc9 := 39) C rfl 124 dX11_fourPoints_36 rfl (fun c_3 => ?_) (fun c_3 => ?_)
      · replace c_3 := (nI_leI (by omega) (by omega)).mp c_3
        refine g_iinc (pc9 := 127) C rfl [(3, .int (nI (j + 1))), (4, .int (nI (k))), (1, .int (pI (mf4 σ N i ∧ mf3 σ N i j ∧ mf2 σ N i j k))), (2, .int (nI (i))), (0, .ref (w.1 (0)))] 2 (nI (j + 1)) dX11_fourPoints_124 rfl (nI_1 (j)) (by decide) rfl ?_
        refine g_goto C 19 dX11_fourPoints_127 rfl ?_
        refine g_sub [0, 2, 3, 4] [(3, .int (nI (j + 1))), (1, .int (pI (mf4 σ N i ∧ mf3 σ N i j ∧ mf2 σ N i j k))), (2, .int (nI (i))), (0, .ref (w.1 (0)))] rfl ?_
        refine g_l2 (x9 := pI (mf4 σ N i ∧ mf3 σ N i (j + 1))) (pI_c (by rw [show k = N by omega]; simp only [mf3, mf2]; rw [lt_sc]; try simp only [and_assoc])) ?_
        exact ih1 (j + 1) (by omega) (by omega)
      · replace c_3 := (not_congr (nI_leI (by omega) (by omega))).mp c_3
        refine g_iconst (pc9 := 40) C rfl (nI (0)) dX11_fourPoints_39 rfl ?_
        refine g_istore (pc9 := 42) C rfl [(5, .int (nI (0))), (4, .int (nI (k))), (1, .int (pI (mf4 σ N i ∧ mf3 σ N i j ∧ mf2 σ N i j k))), (3, .int (nI (j))), (2, .int (nI (i))), (0, .ref (w.1 (0)))] dX11_fourPoints_40 (by decide) rfl ?_
        refine g_sub [0, 2, 1, 3, 4, 5] [(5, .int (nI (0))), (1, .int (pI (mf4 σ N i ∧ mf3 σ N i j ∧ mf2 σ N i j k))), (4, .int (nI (k))), (3, .int (nI (j))), (2, .int (nI (i))), (0, .ref (w.1 (0)))] rfl ?_
        refine g_l2 (x9 := pI (mf4 σ N i ∧ mf3 σ N i j ∧ mf2 σ N i j k ∧ mf1 σ i j k 0)) (pI_c ⟨fun h => ⟨h.1, h.2.1, h.2.2, fun _ q => absurd q (by omega)⟩, fun h => ⟨h.1, h.2.1, h.2.2.1⟩⟩) ?_
        refine g_lp1 (α := Nat) (fun t => t ≤ N) (fun t => N - t) (fun t => G p l e _ s m args below meth c _ w A _ (sN σ (0) 0 (nI (0))) 0 0 42 [(5, .int (nI (t))), (1, .int (pI (mf4 σ N i ∧ mf3 σ N i j ∧ mf2 σ N i j k ∧ mf1 σ i j k t))), (4, .int (nI (k))), (3, .int (nI (j))), (2, .int (nI (i))), (0, .ref (w.1 (0)))] []) (fun t hI3 ih3 => ?_) (0) (Nat.zero_le _)
        refine g_iload (pc9 := 44) C rfl 0 dX11_fourPoints_42 rfl ?_
        refine g_aload_n (pc9 := 45) C rfl 5 dX11_fourPoints_44 rfl rfl ?_
        refine g_get (v := .int (nI (N))) (pc9 := 48) C rfl (0) 16 dX11_fourPoints_45 (by decide) (ce_0 w (sN σ (0) 0 (nI (0)))) hin_11 hl_45 rfl (by decide) rfl (congrArg (fun z => some (Value.int z)) ((nF_k (k := 0) (k9 := 16) (by decide)).trans hN)) ?_
        refine g_icmp_ge (pc9 := 51) C rfl 118 dX11_fourPoints_48 rfl (fun c_4 => ?_) (fun c_4 => ?_)
        · replace c_4 := (nI_leI (by omega) (by omega)).mp c_4
          refine g_iinc (pc9 := 121) C rfl [(4, .int (nI (k + 1))), (5, .int (nI (t))), (1, .int (pI (mf4 σ N i ∧ mf3 σ N i j ∧ mf2 σ N i j k ∧ mf1 σ i j k t))), (3, .int (nI (j))), (2, .int (nI (i))), (0, .ref (w.1 (0)))] 2 (nI (k + 1)) dX11_fourPoints_118 rfl (nI_1 (k)) (by decide) rfl ?_
          refine g_goto C 30 dX11_fourPoints_121 rfl ?_
          refine g_sub [0, 2, 3, 4, 5] [(4, .int (nI (k + 1))), (1, .int (pI (mf4 σ N i ∧ mf3 σ N i j ∧ mf2 σ N i j k ∧ mf1 σ i j k t))), (3, .int (nI (j))), (2, .int (nI (i))), (0, .ref (w.1 (0)))] rfl ?_
          refine g_l2 (x9 := pI (mf4 σ N i ∧ mf3 σ N i j ∧ mf2 σ N i j (k + 1))) (pI_c (by rw [show t = N by omega]; simp only [mf2, mf1]; rw [lt_sc]; try simp only [and_assoc])) ?_
          exact ih2 (k + 1) (by omega) (by omega)
        · replace c_4 := (not_congr (nI_leI (by omega) (by omega))).mp c_4
          refine g_iload_n (pc9 := 52) C rfl 1 dX11_fourPoints_51 rfl rfl ?_
          refine g_if_eq (pc9 := 55) C rfl 110 dX11_fourPoints_52 rfl (fun c_5 => ?_) (fun c_5 => ?_)
          · have hs : pI (mf4 σ N i ∧ mf3 σ N i j ∧ mf2 σ N i j k ∧ mf1 σ i j k (t + 1)) = nI 0 := pI_f (fun h => pI_no c_5 ⟨h.1, h.2.1, h.2.2.1, fun t9 h9 => h.2.2.2 t9 (by omega)⟩)
            refine g_iconst (pc9 := 111) C rfl (nI (0)) dX11_fourPoints_110 rfl ?_
            refine g_istore_n (pc9 := 112) C rfl [(1, .int (nI (0))), (5, .int (nI (t))), (4, .int (nI (k))), (3, .int (nI (j))), (2, .int (nI (i))), (0, .ref (w.1 (0)))] dX11_fourPoints_111 rfl (by decide) rfl ?_
            refine g_iinc (pc9 := 115) C rfl [(5, .int (nI (t + 1))), (1, .int (nI (0))), (4, .int (nI (k))), (3, .int (nI (j))), (2, .int (nI (i))), (0, .ref (w.1 (0)))] 1 (nI (t + 1)) dX11_fourPoints_112 rfl (nI_1 (t)) (by decide) rfl ?_
            refine g_goto C 42 dX11_fourPoints_115 rfl ?_
            refine g_sub [0, 1, 2, 3, 4, 5] [(5, .int (nI (t + 1))), (1, .int (nI (0))), (4, .int (nI (k))), (3, .int (nI (j))), (2, .int (nI (i))), (0, .ref (w.1 (0)))] rfl ?_
            refine g_l2 hs.symm ?_
            exact ih3 (t + 1) (by omega) (by omega)
          · have hq := pI_ye c_5
            refine g_aload_n (pc9 := 56) C rfl 5 dX11_fourPoints_55 rfl rfl ?_
            refine g_iload_n (pc9 := 57) C rfl 4 dX11_fourPoints_56 rfl rfl ?_
            refine g_iload_n (pc9 := 58) C rfl 3 dX11_fourPoints_57 rfl rfl ?_
            refine g_callVi (nn := 2) (rest := []) (pc9 := 61) C rfl (0) [.int (nI (i)), .int (nI (j))] rfl dX11_fourPoints_58 (m_X11_d l w (sN σ (0) 0 (nI (0))) (i) (j) (by omega) (by omega)) gX11_fourPoints_X11_d (by decide) (ce_0 w (sN σ (0) 0 (nI (0)))) rfl rfl rfl rfl rfl (by decide +kernel) ⟨by decide, by decide⟩ rfl (Nat.le_of_ble_eq_true rfl) ⟨by decide, by decide⟩ (fun r_6 σ_6 q_6 => ?_)
            obtain ⟨qs_6, qr_6⟩ := q_6
            replace qr_6 : r_6 = mD σ (i) (j) := qr_6
            rw [qs_6, qr_6]
            clear qs_6 qr_6
            refine g_aload_n (pc9 := 62) C rfl 5 dX11_fourPoints_61 rfl rfl ?_
            refine g_iload (pc9 := 64) C rfl 2 dX11_fourPoints_62 rfl ?_
            refine g_iload (pc9 := 66) C rfl 0 dX11_fourPoints_64 rfl ?_
            refine g_callVi (nn := 2) (rest := [.int (mD σ (i) (j))]) (pc9 := 69) C rfl (0) [.int (nI (k)), .int (nI (t))] rfl dX11_fourPoints_66 (m_X11_d l w (sN σ (0) 0 (nI (0))) (k) (t) (by omega) (by omega)) gX11_fourPoints_X11_d (by decide) (ce_0 w (sN σ (0) 0 (nI (0)))) rfl rfl rfl rfl rfl (by decide +kernel) ⟨by decide, by decide⟩ rfl (Nat.le_of_ble_eq_true rfl) ⟨by decide, by decide⟩ (fun r_7 σ_7 q_7 => ?_)
            obtain ⟨qs_7, qr_7⟩ := q_7
            replace qr_7 : r_7 = mD σ (k) (t) := qr_7
            rw [qs_7, qr_7]
            clear qs_7 qr_7
            refine g_iadd (pc9 := 70) C rfl dX11_fourPoints_69 ?_
            refine g_aload_n (pc9 := 71) C rfl 5 dX11_fourPoints_70 rfl rfl ?_
            refine g_iload_n (pc9 := 72) C rfl 4 dX11_fourPoints_71 rfl rfl ?_
            refine g_iload (pc9 := 74) C rfl 2 dX11_fourPoints_72 rfl ?_
            refine g_callVi (nn := 2) (rest := [.int ((mD σ (i) (j)) + (mD σ (k) (t)))]) (pc9 := 77) C rfl (0) [.int (nI (i)), .int (nI (k))] rfl dX11_fourPoints_74 (m_X11_d l w (sN σ (0) 0 (nI (0))) (i) (k) (by omega) (by omega)) gX11_fourPoints_X11_d (by decide) (ce_0 w (sN σ (0) 0 (nI (0)))) rfl rfl rfl rfl rfl (by decide +kernel) ⟨by decide, by decide⟩ rfl (Nat.le_of_ble_eq_true rfl) ⟨by decide, by decide⟩ (fun r_8 σ_8 q_8 => ?_)
            obtain ⟨qs_8, qr_8⟩ := q_8
            replace qr_8 : r_8 = mD σ (i) (k) := qr_8
            rw [qs_8, qr_8]
            clear qs_8 qr_8
            refine g_aload_n (pc9 := 78) C rfl 5 dX11_fourPoints_77 rfl rfl ?_
            refine g_iload_n (pc9 := 79) C rfl 3 dX11_fourPoints_78 rfl rfl ?_
            refine g_iload (pc9 := 81) C rfl 0 dX11_fourPoints_79 rfl ?_
            refine g_callVi (nn := 2) (rest := [.int (mD σ (i) (k)), .int ((mD σ (i) (j)) + (mD σ (k) (t)))]) (pc9 := 84) C rfl (0) [.int (nI (j)), .int (nI (t))] rfl dX11_fourPoints_81 (m_X11_d l w (sN σ (0) 0 (nI (0))) (j) (t) (by omega) (by omega)) gX11_fourPoints_X11_d (by decide) (ce_0 w (sN σ (0) 0 (nI (0)))) rfl rfl rfl rfl rfl (by decide +kernel) ⟨by decide, by decide⟩ rfl (Nat.le_of_ble_eq_true rfl) ⟨by decide, by decide⟩ (fun r_9 σ_9 q_9 => ?_)
            obtain ⟨qs_9, qr_9⟩ := q_9
            replace qr_9 : r_9 = mD σ (j) (t) := qr_9
            rw [qs_9, qr_9]
            clear qs_9 qr_9
            refine g_iadd (pc9 := 85) C rfl dX11_fourPoints_84 ?_
            refine g_aload_n (pc9 := 86) C rfl 5 dX11_fourPoints_85 rfl rfl ?_
            refine g_iload_n (pc9 := 87) C rfl 4 dX11_fourPoints_86 rfl rfl ?_
            refine g_iload (pc9 := 89) C rfl 0 dX11_fourPoints_87 rfl ?_
            refine g_callVi (nn := 2) (rest := [.int ((mD σ (i) (k)) + (mD σ (j) (t))), .int ((mD σ (i) (j)) + (mD σ (k) (t)))]) (pc9 := 92) C rfl (0) [.int (nI (i)), .int (nI (t))] rfl dX11_fourPoints_89 (m_X11_d l w (sN σ (0) 0 (nI (0))) (i) (t) (by omega) (by omega)) gX11_fourPoints_X11_d (by decide) (ce_0 w (sN σ (0) 0 (nI (0)))) rfl rfl rfl rfl rfl (by decide +kernel) ⟨by decide, by decide⟩ rfl (Nat.le_of_ble_eq_true rfl) ⟨by decide, by decide⟩ (fun r_10 σ_10 q_10 => ?_)
            obtain ⟨qs_10, qr_10⟩ := q_10
            replace qr_10 : r_10 = mD σ (i) (t) := qr_10
            rw [qs_10, qr_10]
            clear qs_10 qr_10
            refine g_aload_n (pc9 := 93) C rfl 5 dX11_fourPoints_92 rfl rfl ?_
            refine g_iload_n (pc9 := 94) C rfl 3 dX11_fourPoints_93 rfl rfl ?_
            refine g_iload (pc9 := 96) C rfl 2 dX11_fourPoints_94 rfl ?_
            refine g_callVi (nn := 2) (rest := [.int (mD σ (i) (t)), .int ((mD σ (i) (k)) + (mD σ (j) (t))), .int ((mD σ (i) (j)) + (mD σ (k) (t)))]) (pc9 := 99) C rfl (0) [.int (nI (j)), .int (nI (k))] rfl dX11_fourPoints_96 (m_X11_d l w (sN σ (0) 0 (nI (0))) (j) (k) (by omega) (by omega)) gX11_fourPoints_X11_d (by decide) (ce_0 w (sN σ (0) 0 (nI (0)))) rfl rfl rfl rfl rfl (by decide +kernel) ⟨by decide, by decide⟩ rfl (Nat.le_of_ble_eq_true rfl) ⟨by decide, by decide⟩ (fun r_11 σ_11 q_11 => ?_)
            obtain ⟨qs_11, qr_11⟩ := q_11
            replace qr_11 : r_11 = mD σ (j) (k) := qr_11
            rw [qs_11, qr_11]
            clear qs_11 qr_11
            refine g_iadd (pc9 := 100) C rfl dX11_fourPoints_99 ?_
            refine g_callSi (nn := 3) (rest := []) (pc9 := 103) C rfl [.int ((mD σ (i) (j)) + (mD σ (k) (t))), .int ((mD σ (i) (k)) + (mD σ (j) (t))), .int ((mD σ (i) (t)) + (mD σ (j) (k)))] rfl dX11_fourPoints_100 (m_X11_isTwice l w (sN σ (0) 0 (nI (0))) ((mD σ (i) (j)) + (mD σ (k) (t))) ((mD σ (i) (k)) + (mD σ (j) (t))) ((mD σ (i) (t)) + (mD σ (j) (k)))) gX11_fourPoints_X11_isTwice rfl rfl rfl (by decide +kernel) ⟨by decide, by decide⟩ rfl (Nat.le_of_ble_eq_true rfl) ⟨by decide, by decide⟩ (fun r_12 σ_12 q_12 => ?_)
            obtain ⟨qs_12, qr_12⟩ := q_12
            rw [qs_12, qr_12]
            clear qs_12 qr_12
            refine g_if_eq (pc9 := 106) C rfl 110 dX11_fourPoints_103 rfl (fun c_13 => ?_) (fun c_13 => ?_)
            · have hs : pI (mf4 σ N i ∧ mf3 σ N i j ∧ mf2 σ N i j k ∧ mf1 σ i j k (t + 1)) = nI 0 := pI_f (fun h => pI_no c_13 (h.2.2.2 t (by omega)))
              refine g_iconst (pc9 := 111) C rfl (nI (0)) dX11_fourPoints_110 rfl ?_
              refine g_istore_n (pc9 := 112) C rfl [(1, .int (nI (0))), (5, .int (nI (t))), (4, .int (nI (k))), (3, .int (nI (j))), (2, .int (nI (i))), (0, .ref (w.1 (0)))] dX11_fourPoints_111 rfl (by decide) rfl ?_
              refine g_iinc (pc9 := 115) C rfl [(5, .int (nI (t + 1))), (1, .int (nI (0))), (4, .int (nI (k))), (3, .int (nI (j))), (2, .int (nI (i))), (0, .ref (w.1 (0)))] 1 (nI (t + 1)) dX11_fourPoints_112 rfl (nI_1 (t)) (by decide) rfl ?_
              refine g_goto C 42 dX11_fourPoints_115 rfl ?_
              refine g_sub [0, 1, 2, 3, 4, 5] [(5, .int (nI (t + 1))), (1, .int (nI (0))), (4, .int (nI (k))), (3, .int (nI (j))), (2, .int (nI (i))), (0, .ref (w.1 (0)))] rfl ?_
              refine g_l2 hs.symm ?_
              exact ih3 (t + 1) (by omega) (by omega)
            · have hs : pI (mf4 σ N i ∧ mf3 σ N i j ∧ mf2 σ N i j k ∧ mf1 σ i j k (t + 1)) = nI 1 := pI_t ⟨hq.1, hq.2.1, hq.2.2.1, lt_sc.mpr ⟨hq.2.2.2, pI_ye c_13⟩⟩
              refine g_iconst (pc9 := 107) C rfl (nI (1)) dX11_fourPoints_106 rfl ?_
              refine g_goto C 111 dX11_fourPoints_107 rfl ?_
              refine g_istore_n (pc9 := 112) C rfl [(1, .int (nI (1))), (5, .int (nI (t))), (4, .int (nI (k))), (3, .int (nI (j))), (2, .int (nI (i))), (0, .ref (w.1 (0)))] dX11_fourPoints_111 rfl (by decide) rfl ?_
              refine g_iinc (pc9 := 115) C rfl [(5, .int (nI (t + 1))), (1, .int (nI (1))), (4, .int (nI (k))), (3, .int (nI (j))), (2, .int (nI (i))), (0, .ref (w.1 (0)))] 1 (nI (t + 1)) dX11_fourPoints_112 rfl (nI_1 (t)) (by decide) rfl ?_
              refine g_goto C 42 dX11_fourPoints_115 rfl ?_
              refine g_sub [0, 1, 2, 3, 4, 5] [(5, .int (nI (t + 1))), (1, .int (nI (1))), (4, .int (nI (k))), (3, .int (nI (j))), (2, .int (nI (i))), (0, .ref (w.1 (0)))] rfl ?_
              refine g_l2 hs.symm ?_
              exact ih3 (t + 1) (by omega) (by omega)

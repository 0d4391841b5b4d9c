/-! The reference: unlike, alike, nearer, cut, feed, read; triple, sign, state, kinds, distance, count -/
def np9 (σ : St) (x y : Int32) (σ9 : St) : Prop := (¬ (okI 8 x ∧ okI 8 y) ∧ σ9 = mT σ 1) ∨ (∃ i k, i < 8 ∧ k < 8 ∧ x = nI i ∧ y = nI k ∧ ¬ (mPl σ i ∧ mPl σ k) ∧ σ9 = mT σ 2)
set_option maxRecDepth 100000 in
set_option maxHeartbeats 4000000 in
theorem m_X11_unlike (l : Launch) (w : Wd) (σ : St) (hM : ∀ i, i < 8 → mtOk σ i) (x y : Int32) : MI l yX11_unlike wsX11_unlike (rmL 4) w [.ref (w.1 (0)), .int (x), .int (y)] (σ) (fun r σ9 => np9 σ x y σ9 ∨ (∃ i k, i < 8 ∧ k < 8 ∧ x = nI i ∧ y = nI k ∧ mPl σ i ∧ mPl σ k ∧ m12 σ σ9 ∧ r = nI (cntU (maC σ i k) (mN σ i) + cntU (maC σ k i) (mN σ k)))) := by
  refine MI_of (cc := cX11_unlike) (maxL := 3) (ret := .int) (by decide) rfl (Nat.le_of_ble_eq_true rfl) ?_
  intro p e s m args below meth c A C hr hlk
  have C : Cx p s m args c w A cX11_unlike RX11 3 wsX11_unlike := C
  have hin_11 : ∀ u ∈ wsX110, u ∈ wsX11_unlike := by decide +kernel
  have hl_107 : Cond.fieldLink RX11 107 "LineageBenchModel" "thrown" "I" ∈ wsX11_unlike := by decide +kernel
  refine g_aload_n (pc9 := 1) C rfl 0 dX11_unlike_0 rfl rfl ?_
  refine g_iconst (pc9 := 2) C rfl (nI (0)) dX11_unlike_1 rfl ?_
  refine g_put (pc9 := 5) C rfl (0) 0 dX11_unlike_2 (by decide) (ce_0 w (σ)) (rfl) hin_11 hl_107 tyX11 tyX11_ok nmX11 rfl (by decide) rfl rfl rfl (Nat.le_of_ble_eq_true rfl) ?_
  refine g_aload_n (pc9 := 6) C rfl 0 dX11_unlike_5 rfl rfl ?_
  refine g_iload_n (pc9 := 7) C rfl 1 dX11_unlike_6 rfl rfl ?_
  refine g_iload_n (pc9 := 8) C rfl 2 dX11_unlike_7 rfl rfl ?_
  refine g_callVi (nn := 2) (rest := []) (pc9 := 11) C rfl (0) [.int (x), .int (y)] rfl dX11_unlike_8 (m_X11_noPair l w σ hM x y) gX11_unlike_X11_noPair (by decide) (ce_0 w (sN σ (0) 0 (nI (0)))) rfl rfl rfl rfl rfl (by decide +kernel) ⟨by decide, by decide⟩ rfl (Nat.le_of_ble_eq_true rfl) ⟨by decide, by decide⟩ (fun r_1 σ_1 q_1 => ?_)
  rcases q_1 with ⟨hns, qr, qs⟩ | ⟨i, k, hb_i, hb_k, hx_i, hx_k, hq⟩
  · rw [qr, qs]
    refine g_if_eq (pc9 := 14) C rfl 18 dX11_unlike_11 rfl (fun c_2 => ?_) (fun c_2 => ?_)
    · exact absurd c_2 (by decide)
    · refine g_iconst (pc9 := 15) C rfl (nI (0)) dX11_unlike_14 rfl ?_
      refine g_goto C 31 dX11_unlike_15 rfl ?_
      exact g_ireturn C hr hlk dX11_unlike_31 (Or.inl (Or.inl ⟨hns, rfl⟩))
  · subst hx_i
    subst hx_k
    rcases hq with ⟨hpl, qr, qs⟩ | ⟨hp1, hp2, qr, qs⟩
    · rw [qr, qs]
      refine g_if_eq (pc9 := 14) C rfl 18 dX11_unlike_11 rfl (fun c_3 => ?_) (fun c_3 => ?_)
      · exact absurd c_3 (by decide)
      · refine g_iconst (pc9 := 15) C rfl (nI (0)) dX11_unlike_14 rfl ?_
        refine g_goto C 31 dX11_unlike_15 rfl ?_
        exact g_ireturn C hr hlk dX11_unlike_31 (Or.inl (Or.inr ⟨i, k, hb_i, hb_k, rfl, rfl, hpl, rfl⟩))
    · rw [qr, qs]
      refine g_if_eq (pc9 := 14) C rfl 18 dX11_unlike_11 rfl (fun c_4 => ?_) (fun c_4 => ?_)
      · refine g_aload_n (pc9 := 19) C rfl 0 dX11_unlike_18 rfl rfl ?_
        refine g_iload_n (pc9 := 20) C rfl 1 dX11_unlike_19 rfl rfl ?_
        refine g_iload_n (pc9 := 21) C rfl 2 dX11_unlike_20 rfl rfl ?_
        refine g_callVi (nn := 2) (rest := []) (pc9 := 24) C rfl (0) [.int (nI (i)), .int (nI (k))] rfl dX11_unlike_21 (m_X11_alone l w (sN σ (0) 0 (nI (0))) i k hb_i hb_k (hM i hb_i) (hM k hb_k) hp1.1 hp2.1) gX11_unlike_X11_alone (by decide) (ce_0 w (sN σ (0) 0 (nI (0)))) rfl rfl rfl rfl rfl (by decide +kernel) ⟨by decide, by decide⟩ rfl (Nat.le_of_ble_eq_true rfl) ⟨by decide, by decide⟩ (fun r_5 σ_5 q_5 => ?_)
        obtain ⟨⟨g1, qs_5⟩, qr_5⟩ := q_5
        replace qr_5 : r_5 = nI (cntU (maC σ i k) (mN σ i)) := qr_5
        rw [qs_5, qr_5]
        refine g_aload_n (pc9 := 25) C rfl 0 dX11_unlike_24 rfl rfl ?_
        refine g_iload_n (pc9 := 26) C rfl 2 dX11_unlike_25 rfl rfl ?_
        refine g_iload_n (pc9 := 27) C rfl 1 dX11_unlike_26 rfl rfl ?_
        refine g_callVi (nn := 2) (rest := [.int (nI (cntU (maC σ i k) (mN σ i)))]) (pc9 := 30) C rfl (0) [.int (nI (k)), .int (nI (i))] rfl dX11_unlike_27 (m_X11_alone l w (sI (sN σ (0) 0 (nI (0))) (12) (g1)) k i hb_k hb_i (hM k hb_k) (hM i hb_i) hp2.1 hp1.1) gX11_unlike_X11_alone (by decide) (ce_0 w (sI (sN σ (0) 0 (nI (0))) (12) (g1))) rfl rfl rfl rfl rfl (by decide +kernel) ⟨by decide, by decide⟩ rfl (Nat.le_of_ble_eq_true rfl) ⟨by decide, by decide⟩ (fun r_6 σ_6 q_6 => ?_)
        obtain ⟨⟨g2, qs_6⟩, qr_6⟩ := q_6
        rw [sI_sI] at qs_6
        replace qr_6 : r_6 = nI (cntU (maC σ k i) (mN σ k)) := qr_6
        rw [qs_6, qr_6]
        refine g_iaddN (pc9 := 31) C rfl dX11_unlike_30 ?_
        exact g_ireturn C hr hlk dX11_unlike_31 (Or.inr ⟨i, k, hb_i, hb_k, rfl, rfl, hp1, hp2, ⟨g2, rfl⟩, rfl⟩)
      · exact absurd c_4 (by decide)
def malQ (σ : St) (i k a b d : Nat) : Prop := al3 a b d &&& ((mKs σ i &&& mKs σ k) ^^^ (-1)) = 0 ∧ msO σ i a b d = msO σ k a b d
set_option maxRecDepth 100000 in
set_option maxHeartbeats 4000000 in
theorem m_X11_alike (l : Launch) (w : Wd) (σ : St) (hM : ∀ i, i < 8 → mtOk σ i) (x y : Int32) : MI l yX11_alike wsX11_alike (rmL 5) w [.ref (w.1 (0)), .int (x), .int (y)] (σ) (fun r σ9 => np9 σ x y σ9 ∨ (∃ i k, i < 8 ∧ k < 8 ∧ x = nI i ∧ y = nI k ∧ mPl σ i ∧ mPl σ k ∧ m12 σ σ9 ∧ r = nI (alC3 (malQ σ i k) 12))) := by
  refine MI_of (cc := cX11_alike) (maxL := 8) (ret := .int) (by decide) rfl (Nat.le_of_ble_eq_true rfl) ?_
  intro p e s m args below meth c A C hr hlk
  have C : Cx p s m args c w A cX11_alike RX11 8 wsX11_alike := C
  have hin_11 : ∀ u ∈ wsX110, u ∈ wsX11_alike := by decide +kernel
  have hl_107 : Cond.fieldLink RX11 107 "LineageBenchModel" "thrown" "I" ∈ wsX11_alike := by decide +kernel
  refine g_aload_n (pc9 := 1) C rfl 0 dX11_alike_0 rfl rfl ?_
  refine g_iconst (pc9 := 2) C rfl (nI (0)) dX11_alike_1 rfl ?_
  refine g_put (pc9 := 5) C rfl (0) 0 dX11_alike_2 (by decide) (ce_0 w (σ)) (rfl) hin_11 hl_107 tyX11 tyX11_ok nmX11 rfl (by decide) rfl rfl rfl (Nat.le_of_ble_eq_true rfl) ?_
  refine g_aload_n (pc9 := 6) C rfl 0 dX11_alike_5 rfl rfl ?_
  refine g_iload_n (pc9 := 7) C rfl 1 dX11_alike_6 rfl rfl ?_
  refine g_iload_n (pc9 := 8) C rfl 2 dX11_alike_7 rfl rfl ?_
  refine g_callVi (nn := 2) (rest := []) (pc9 := 11) C rfl (0) [.int (x), .int (y)] rfl dX11_alike_8 (m_X11_noPair l w σ hM x y) gX11_alike_X11_noPair (by decide) (ce_0 w (sN σ (0) 0 (nI (0)))) rfl rfl rfl rfl rfl (by decide +kernel) ⟨by decide, by decide⟩ rfl (Nat.le_of_ble_eq_true rfl) ⟨by decide, by decide⟩ (fun r_1 σ_1 q_1 => ?_)
  rcases q_1 with ⟨hns, qr, qs⟩ | ⟨i, k, hb_i, hb_k, hx_i, hx_k, hq⟩
  · rw [qr, qs]
    refine g_if_eq (pc9 := 14) C rfl 16 dX11_alike_11 rfl (fun c_2 => ?_) (fun c_2 => ?_)
    · exact absurd c_2 (by decide)
    · refine g_iconst (pc9 := 15) C rfl (nI (0)) dX11_alike_14 rfl ?_
      exact g_ireturn C hr hlk dX11_alike_15 (Or.inl (Or.inl ⟨hns, rfl⟩))
  · subst hx_i
    subst hx_k
    rcases hq with ⟨hpl, qr, qs⟩ | ⟨hp1, hp2, qr, qs⟩
    · rw [qr, qs]
      refine g_if_eq (pc9 := 14) C rfl 16 dX11_alike_11 rfl (fun c_3 => ?_) (fun c_3 => ?_)
      · exact absurd c_3 (by decide)
      · refine g_iconst (pc9 := 15) C rfl (nI (0)) dX11_alike_14 rfl ?_
        exact g_ireturn C hr hlk dX11_alike_15 (Or.inl (Or.inr ⟨i, k, hb_i, hb_k, rfl, rfl, hpl, rfl⟩))
    · rw [qr, qs]
      refine g_if_eq (pc9 := 14) C rfl 16 dX11_alike_11 rfl (fun c_4 => ?_) (fun c_4 => ?_)
      · refine g_aload_n (pc9 := 17) C rfl 0 dX11_alike_16 rfl rfl ?_
        refine g_iload_n (pc9 := 18) C rfl 1 dX11_alike_17 rfl rfl ?_
        refine g_callVi (nn := 1) (rest := []) (pc9 := 21) C rfl (0) [.int (nI (i))] rfl dX11_alike_18 (m_X11_kindsOf l w (mT σ 0) i hb_i (hM i hb_i)) gX11_alike_X11_kindsOf (by decide) (ce_0 w (sN σ (0) 0 (nI (0)))) rfl rfl rfl rfl rfl (by decide +kernel) ⟨by decide, by decide⟩ rfl (Nat.le_of_ble_eq_true rfl) ⟨by decide, by decide⟩ (fun r_5 σ_5 q_5 => ?_)
        obtain ⟨qs_5, qr_5⟩ := q_5
        replace qr_5 : r_5 = mKs σ i := qr_5
        rw [qs_5, qr_5]
        clear qs_5 qr_5
        refine g_aload_n (pc9 := 22) C rfl 0 dX11_alike_21 rfl rfl ?_
        refine g_iload_n (pc9 := 23) C rfl 2 dX11_alike_22 rfl rfl ?_
        refine g_callVi (nn := 1) (rest := [.int (mKs σ i)]) (pc9 := 26) C rfl (0) [.int (nI (k))] rfl dX11_alike_23 (m_X11_kindsOf l w (mT σ 0) k hb_k (hM k hb_k)) gX11_alike_X11_kindsOf (by decide) (ce_0 w (sN σ (0) 0 (nI (0)))) rfl rfl rfl rfl rfl (by decide +kernel) ⟨by decide, by decide⟩ rfl (Nat.le_of_ble_eq_true rfl) ⟨by decide, by decide⟩ (fun r_6 σ_6 q_6 => ?_)
        obtain ⟨qs_6, qr_6⟩ := q_6
        replace qr_6 : r_6 = mKs σ k := qr_6
        rw [qs_6, qr_6]
        clear qs_6 qr_6
        refine g_iand (pc9 := 27) C rfl dX11_alike_26 ?_
        refine g_istore_n (pc9 := 28) C rfl [(3, .int ((mKs σ i) &&& (mKs σ k))), (0, .ref (w.1 (0))), (1, .int (nI (i))), (2, .int (nI (k)))] dX11_alike_27 rfl (by decide) rfl ?_
        refine g_iconst (pc9 := 29) C rfl (nI (0)) dX11_alike_28 rfl ?_
        refine g_istore (pc9 := 31) C rfl [(4, .int (nI (0))), (3, .int ((mKs σ i) &&& (mKs σ k))), (0, .ref (w.1 (0))), (1, .int (nI (i))), (2, .int (nI (k)))] dX11_alike_29 (by decide) rfl ?_
        refine g_iconst (pc9 := 32) C rfl (nI (0)) dX11_alike_31 rfl ?_
        refine g_istore (pc9 := 34) C rfl [(5, .int (nI (0))), (4, .int (nI (0))), (3, .int ((mKs σ i) &&& (mKs σ k))), (0, .ref (w.1 (0))), (1, .int (nI (i))), (2, .int (nI (k)))] dX11_alike_32 (by decide) rfl ?_
        refine g_sub [0, 1, 3, 4, 5, 2] [(5, .int (nI (0))), (4, .int (nI (0))), (0, .ref (w.1 (0))), (1, .int (nI (i))), (2, .int (nI (k))), (3, .int ((mKs σ i) &&& (mKs σ k)))] rfl ?_
        refine g_st (σ9 := sI (mT σ 0) 12 (iA σ 12)) (show sI (mT σ 0) 12 (iA (mT σ 0) 12) = mT σ 0 from sI_self).symm ?_
        refine g_lp2 (α := Nat) (β := Nat → Int32) (fun a g0 => a ≤ 12) (fun a g0 => 12 - a) (fun a g0 => G p l e _ s m args below meth c _ w A _ (sI (sN σ (0) 0 (nI (0))) (12) (g0)) 0 0 34 [(5, .int (nI (a))), (4, .int (nI (alC3 (malQ σ i k) a))), (0, .ref (w.1 (0))), (1, .int (nI (i))), (2, .int (nI (k))), (3, .int ((mKs σ i) &&& (mKs σ k)))] []) (fun a g0 hI ih => ?_) (0) (iA σ 12) (Nat.zero_le _)
        obtain ha := hI
        have hm1 := alC3_le (malQ σ i k) a
        refine g_iload (pc9 := 36) C rfl 0 dX11_alike_34 rfl ?_
        refine g_bipush (pc9 := 38) C rfl (nI (12)) dX11_alike_36 rfl ?_
        refine g_icmp_ge (pc9 := 41) C rfl 144 dX11_alike_38 rfl (fun c_7 => ?_) (fun c_7 => ?_)
        · replace c_7 := (nI_leI (by omega) (by omega)).mp c_7
          refine g_iload (pc9 := 146) C rfl 1 dX11_alike_144 rfl ?_
          exact g_ireturn C hr hlk dX11_alike_146 (Or.inr ⟨i, k, hb_i, hb_k, rfl, rfl, hp1, hp2, ⟨g0, rfl⟩, by rw [show a = 12 by omega]⟩)
        · replace c_7 := (not_congr (nI_leI (by omega) (by omega))).mp c_7
          refine g_iload (pc9 := 43) C rfl 0 dX11_alike_41 rfl ?_
          refine g_iconst (pc9 := 44) C rfl (nI (1)) dX11_alike_43 rfl ?_
          refine g_iaddN (pc9 := 45) C rfl dX11_alike_44 ?_
          refine g_istore (pc9 := 47) C rfl [(6, .int (nI (a + 1))), (5, .int (nI (a))), (4, .int (nI (alC3 (malQ σ i k) a))), (0, .ref (w.1 (0))), (1, .int (nI (i))), (2, .int (nI (k))), (3, .int ((mKs σ i) &&& (mKs σ k)))] dX11_alike_45 (by decide) rfl ?_
          refine g_sub [0, 1, 2, 3, 4, 5, 6] [(6, .int (nI (a + 1))), (5, .int (nI (a))), (4, .int (nI (alC3 (malQ σ i k) a))), (0, .ref (w.1 (0))), (1, .int (nI (i))), (2, .int (nI (k))), (3, .int ((mKs σ i) &&& (mKs σ k)))] rfl ?_
          refine g_lp2 (α := Nat) (β := Nat → Int32) (fun u g1 => u ≤ 11 - a) (fun u g1 => 12 - u) (fun u g1 => G p l e _ s m args below meth c _ w A _ (sI (sN σ (0) 0 (nI (0))) (12) (g1)) 0 0 47 [(6, .int (nI (a + 1 + u))), (5, .int (nI (a))), (4, .int (nI (alC3 (malQ σ i k) a + alC2 (malQ σ i k) a u))), (0, .ref (w.1 (0))), (1, .int (nI (i))), (2, .int (nI (k))), (3, .int ((mKs σ i) &&& (mKs σ k)))] []) (fun u g1 hI ih2 => ?_) (0) (g0) (Nat.zero_le _)
          obtain hu := hI
          have hm2 := alC2_le (malQ σ i k) a u
          refine g_iload (pc9 := 49) C rfl 0 dX11_alike_47 rfl ?_
          refine g_bipush (pc9 := 51) C rfl (nI (12)) dX11_alike_49 rfl ?_
          refine g_icmp_ge (pc9 := 54) C rfl 138 dX11_alike_51 rfl (fun c_8 => ?_) (fun c_8 => ?_)
          · replace c_8 := (nI_leI (by omega) (by omega)).mp c_8
            have he : u = 11 - a := by omega
            refine g_iinc (pc9 := 141) C rfl [(5, .int (nI (a + 1))), (6, .int (nI (a + 1 + u))), (4, .int (nI (alC3 (malQ σ i k) a + alC2 (malQ σ i k) a u))), (0, .ref (w.1 (0))), (1, .int (nI (i))), (2, .int (nI (k))), (3, .int ((mKs σ i) &&& (mKs σ k)))] 1 (nI (a + 1)) dX11_alike_138 rfl (nI_1 (a)) (by decide) rfl ?_
            refine g_goto C 34 dX11_alike_141 rfl ?_
            refine g_sub [0, 2, 3, 4, 5, 6] [(5, .int (nI (a + 1))), (4, .int (nI (alC3 (malQ σ i k) a + alC2 (malQ σ i k) a u))), (0, .ref (w.1 (0))), (1, .int (nI (i))), (2, .int (nI (k))), (3, .int ((mKs σ i) &&& (mKs σ k)))] rfl ?_
            rw [show alC3 (malQ σ i k) a + alC2 (malQ σ i k) a u = alC3 (malQ σ i k) (a + 1) from by rw [he]; rfl]
            exact ih (a + 1) g1 (by omega) (by omega)
          · replace c_8 := (not_congr (nI_leI (by omega) (by omega))).mp c_8
            refine g_iload (pc9 := 56) C rfl 0 dX11_alike_54 rfl ?_
            refine g_iconst (pc9 := 57) C rfl (nI (1)) dX11_alike_56 rfl ?_
            refine g_iaddN (pc9 := 58) C rfl dX11_alike_57 ?_
            refine g_istore (pc9 := 60) C rfl [(7, .int (nI ((a + 1 + u) + 1))), (6, .int (nI (a + 1 + u))), (5, .int (nI (a))), (4, .int (nI (alC3 (malQ σ i k) a + alC2 (malQ σ i k) a u))), (0, .ref (w.1 (0))), (1, .int (nI (i))), (2, .int (nI (k))), (3, .int ((mKs σ i) &&& (mKs σ k)))] dX11_alike_58 (by decide) rfl ?_
            refine g_sub [0, 1, 2, 3, 4, 5, 6, 7] [(7, .int (nI ((a + 1 + u) + 1))), (6, .int (nI (a + 1 + u))), (5, .int (nI (a))), (4, .int (nI (alC3 (malQ σ i k) a + alC2 (malQ σ i k) a u))), (0, .ref (w.1 (0))), (1, .int (nI (i))), (2, .int (nI (k))), (3, .int ((mKs σ i) &&& (mKs σ k)))] rfl ?_
            refine g_lp2 (α := Nat) (β := Nat → Int32) (fun q g2 => q ≤ 11 - (a + 1 + u)) (fun q g2 => 12 - q) (fun q g2 => G p l e _ s m args below meth c _ w A _ (sI (sN σ (0) 0 (nI (0))) (12) (g2)) 0 0 60 [(7, .int (nI (a + 1 + u + 1 + q))), (6, .int (nI (a + 1 + u))), (5, .int (nI (a))), (4, .int (nI (alC3 (malQ σ i k) a + alC2 (malQ σ i k) a u + alC1 (malQ σ i k) a (a + 1 + u) q))), (0, .ref (w.1 (0))), (1, .int (nI (i))), (2, .int (nI (k))), (3, .int ((mKs σ i) &&& (mKs σ k)))] []) (fun q g2 hI ih3 => ?_) (0) (g1) (Nat.zero_le _)
            obtain hq := hI
            have hm3 := alC1_le (malQ σ i k) a (a + 1 + u) q
            refine g_iload (pc9 := 62) C rfl 0 dX11_alike_60 rfl ?_
            refine g_bipush (pc9 := 64) C rfl (nI (12)) dX11_alike_62 rfl ?_
            refine g_icmp_ge (pc9 := 67) C rfl 132 dX11_alike_64 rfl (fun c_9 => ?_) (fun c_9 => ?_)
            · replace c_9 := (nI_leI (by omega) (by omega)).mp c_9
              have he : q = 11 - (a + 1 + u) := by omega
              refine g_iinc (pc9 := 135) C rfl [(6, .int (nI (a + 1 + u + 1))), (7, .int (nI (a + 1 + u + 1 + q))), (5, .int (nI (a))), (4, .int (nI (alC3 (malQ σ i k) a + alC2 (malQ σ i k) a u + alC1 (malQ σ i k) a (a + 1 + u) q))), (0, .ref (w.1 (0))), (1, .int (nI (i))), (2, .int (nI (k))), (3, .int ((mKs σ i) &&& (mKs σ k)))] 1 (nI (a + 1 + u + 1)) dX11_alike_132 rfl (nI_1 (a + 1 + u)) (by decide) rfl ?_
              refine g_goto C 47 dX11_alike_135 rfl ?_
              refine g_sub [0, 2, 3, 4, 5, 6, 7] [(6, .int (nI (a + 1 + u + 1))), (5, .int (nI (a))), (4, .int (nI (alC3 (malQ σ i k) a + alC2 (malQ σ i k) a u + alC1 (malQ σ i k) a (a + 1 + u) q))), (0, .ref (w.1 (0))), (1, .int (nI (i))), (2, .int (nI (k))), (3, .int ((mKs σ i) &&& (mKs σ k)))] rfl ?_
              rw [show alC3 (malQ σ i k) a + alC2 (malQ σ i k) a u + alC1 (malQ σ i k) a (a + 1 + u) q = alC3 (malQ σ i k) a + alC2 (malQ σ i k) a (u + 1) from by rw [he]; exact Nat.add_assoc _ _ _]
              exact ih2 (u + 1) g2 (by omega) (by omega)
            · replace c_9 := (not_congr (nI_leI (by omega) (by omega))).mp c_9
              refine g_iconst (pc9 := 68) C rfl (nI (1)) dX11_alike_67 rfl ?_
              refine g_iload (pc9 := 70) C rfl 2 dX11_alike_68 rfl ?_
              refine g_ishl (pc9 := 71) C rfl dX11_alike_70 ?_
              refine g_iconst (pc9 := 72) C rfl (nI (1)) dX11_alike_71 rfl ?_
              refine g_iload (pc9 := 74) C rfl 1 dX11_alike_72 rfl ?_
              refine g_ishl (pc9 := 75) C rfl dX11_alike_74 ?_
              refine g_ior (pc9 := 76) C rfl dX11_alike_75 ?_
              refine g_iconst (pc9 := 77) C rfl (nI (1)) dX11_alike_76 rfl ?_
              refine g_iload (pc9 := 79) C rfl 0 dX11_alike_77 rfl ?_
              refine g_ishl (pc9 := 80) C rfl dX11_alike_79 ?_
              refine g_ior (pc9 := 81) C rfl dX11_alike_80 ?_
              refine g_iload_n (pc9 := 82) C rfl 7 dX11_alike_81 rfl rfl ?_
              refine g_iconst (pc9 := 83) C rfl ((-1)) dX11_alike_82 rfl ?_
              refine g_ixor (pc9 := 84) C rfl dX11_alike_83 ?_
              refine g_iand (pc9 := 85) C rfl dX11_alike_84 ?_
              refine g_if_eq (pc9 := 88) C rfl 91 dX11_alike_85 rfl (fun c_10 => ?_) (fun c_10 => ?_)
              · have hth := Classical.not_not.mp (fun h => h c_10)
                refine g_iload (pc9 := 93) C rfl 3 dX11_alike_91 rfl ?_
                refine g_aload_n (pc9 := 94) C rfl 4 dX11_alike_93 rfl rfl ?_
                refine g_iload_n (pc9 := 95) C rfl 5 dX11_alike_94 rfl rfl ?_
                refine g_iload (pc9 := 97) C rfl 2 dX11_alike_95 rfl ?_
                refine g_iload (pc9 := 99) C rfl 1 dX11_alike_97 rfl ?_
                refine g_iload (pc9 := 101) C rfl 0 dX11_alike_99 rfl ?_
                refine g_callVi (nn := 4) (rest := [.int (nI (alC3 (malQ σ i k) a + alC2 (malQ σ i k) a u + alC1 (malQ σ i k) a (a + 1 + u) q))]) (pc9 := 104) C rfl (0) [.int (nI (i)), .int (nI (a)), .int (nI (a + 1 + u)), .int (nI (a + 1 + u + 1 + q))] rfl dX11_alike_101 (m_X11_shownOf l w (sI (sN σ (0) 0 (nI (0))) (12) (g2)) i hb_i (hM i hb_i) hp1.1 a (a + 1 + u) (a + 1 + u + 1 + q) (by omega) (by omega) (by omega)) gX11_alike_X11_shownOf (by decide) (ce_0 w (sI (sN σ (0) 0 (nI (0))) (12) (g2))) rfl rfl rfl rfl rfl (by decide +kernel) ⟨by decide, by decide⟩ rfl (Nat.le_of_ble_eq_true rfl) ⟨by decide, by decide⟩ (fun r_11 σ_11 q_11 => ?_)
                obtain ⟨⟨g3, qs_11⟩, qr_11⟩ := q_11
                rw [sI_sI] at qs_11
                replace qr_11 : r_11 = msO σ i a (a + 1 + u) (a + 1 + u + 1 + q) := qr_11
                rw [qs_11, qr_11]
                refine g_aload_n (pc9 := 105) C rfl 4 dX11_alike_104 rfl rfl ?_
                refine g_iload_n (pc9 := 106) C rfl 6 dX11_alike_105 rfl rfl ?_
                refine g_iload (pc9 := 108) C rfl 2 dX11_alike_106 rfl ?_
                refine g_iload (pc9 := 110) C rfl 1 dX11_alike_108 rfl ?_
                refine g_iload (pc9 := 112) C rfl 0 dX11_alike_110 rfl ?_
                refine g_callVi (nn := 4) (rest := [.int (msO σ i a (a + 1 + u) (a + 1 + u + 1 + q)), .int (nI (alC3 (malQ σ i k) a + alC2 (malQ σ i k) a u + alC1 (malQ σ i k) a (a + 1 + u) q))]) (pc9 := 115) C rfl (0) [.int (nI (k)), .int (nI (a)), .int (nI (a + 1 + u)), .int (nI (a + 1 + u + 1 + q))] rfl dX11_alike_112 (m_X11_shownOf l w (sI (sN σ (0) 0 (nI (0))) (12) (g3)) k hb_k (hM k hb_k) hp2.1 a (a + 1 + u) (a + 1 + u + 1 + q) (by omega) (by omega) (by omega)) gX11_alike_X11_shownOf (by decide) (ce_0 w (sI (sN σ (0) 0 (nI (0))) (12) (g3))) rfl rfl rfl rfl rfl (by decide +kernel) ⟨by decide, by decide⟩ rfl (Nat.le_of_ble_eq_true rfl) ⟨by decide, by decide⟩ (fun r_12 σ_12 q_12 => ?_)
                obtain ⟨⟨g4, qs_12⟩, qr_12⟩ := q_12
                rw [sI_sI] at qs_12
                replace qr_12 : r_12 = msO σ k a (a + 1 + u) (a + 1 + u + 1 + q) := qr_12
                rw [qs_12, qr_12]
                refine g_icmp_ne (pc9 := 118) C rfl 122 dX11_alike_115 rfl (fun c_13 => ?_) (fun c_13 => ?_)
                · have hs : alC1 (malQ σ i k) a (a + 1 + u) (q + 1) = alC1 (malQ σ i k) a (a + 1 + u) q := cntU_n (fun h => c_13 h.2)
                  refine g_iconst (pc9 := 123) C rfl (nI (0)) dX11_alike_122 rfl ?_
                  refine g_iaddN (pc9 := 124) C rfl dX11_alike_123 ?_
                  refine g_istore (pc9 := 126) C rfl [(4, .int (nI ((alC3 (malQ σ i k) a + alC2 (malQ σ i k) a u + alC1 (malQ σ i k) a (a + 1 + u) q) + 0))), (7, .int (nI (a + 1 + u + 1 + q))), (6, .int (nI (a + 1 + u))), (5, .int (nI (a))), (0, .ref (w.1 (0))), (1, .int (nI (i))), (2, .int (nI (k))), (3, .int ((mKs σ i) &&& (mKs σ k)))] dX11_alike_124 (by decide) rfl ?_
                  refine g_iinc (pc9 := 129) C rfl [(7, .int (nI (a + 1 + u + 1 + q + 1))), (4, .int (nI ((alC3 (malQ σ i k) a + alC2 (malQ σ i k) a u + alC1 (malQ σ i k) a (a + 1 + u) q) + 0))), (6, .int (nI (a + 1 + u))), (5, .int (nI (a))), (0, .ref (w.1 (0))), (1, .int (nI (i))), (2, .int (nI (k))), (3, .int ((mKs σ i) &&& (mKs σ k)))] 1 (nI (a + 1 + u + 1 + q + 1)) dX11_alike_126 rfl (nI_1 (a + 1 + u + 1 + q)) (by decide) rfl ?_
                  refine g_goto C 60 dX11_alike_129 rfl ?_
                  refine g_sub [0, 2, 3, 1, 4, 5, 6, 7] [(7, .int (nI (a + 1 + u + 1 + q + 1))), (6, .int (nI (a + 1 + u))), (5, .int (nI (a))), (4, .int (nI ((alC3 (malQ σ i k) a + alC2 (malQ σ i k) a u + alC1 (malQ σ i k) a (a + 1 + u) q) + 0))), (0, .ref (w.1 (0))), (1, .int (nI (i))), (2, .int (nI (k))), (3, .int ((mKs σ i) &&& (mKs σ k)))] rfl ?_
                  rw [show (alC3 (malQ σ i k) a + alC2 (malQ σ i k) a u + alC1 (malQ σ i k) a (a + 1 + u) q) + 0 = alC3 (malQ σ i k) a + alC2 (malQ σ i k) a u + alC1 (malQ σ i k) a (a + 1 + u) (q + 1) from by omega]
                  exact ih3 (q + 1) g4 (by omega) (by omega)
                · have hs : alC1 (malQ σ i k) a (a + 1 + u) (q + 1) = alC1 (malQ σ i k) a (a + 1 + u) q + 1 := cntU_y ⟨hth, c_13⟩
                  refine g_iconst (pc9 := 119) C rfl (nI (1)) dX11_alike_118 rfl ?_
                  refine g_goto C 123 dX11_alike_119 rfl ?_
                  refine g_iaddN (pc9 := 124) C rfl dX11_alike_123 ?_
                  refine g_istore (pc9 := 126) C rfl [(4, .int (nI ((alC3 (malQ σ i k) a + alC2 (malQ σ i k) a u + alC1 (malQ σ i k) a (a + 1 + u) q) + 1))), (7, .int (nI (a + 1 + u + 1 + q))), (6, .int (nI (a + 1 + u))), (5, .int (nI (a))), (0, .ref (w.1 (0))), (1, .int (nI (i))), (2, .int (nI (k))), (3, .int ((mKs σ i) &&& (mKs σ k)))] dX11_alike_124 (by decide) rfl ?_
                  refine g_iinc (pc9 := 129) C rfl [(7, .int (nI (a + 1 + u + 1 + q + 1))), (4, .int (nI ((alC3 (malQ σ i k) a + alC2 (malQ σ i k) a u + alC1 (malQ σ i k) a (a + 1 + u) q) + 1))), (6, .int (nI (a + 1 + u))), (5, .int (nI (a))), (0, .ref (w.1 (0))), (1, .int (nI (i))), (2, .int (nI (k))), (3, .int ((mKs σ i) &&& (mKs σ k)))] 1 (nI (a + 1 + u + 1 + q + 1)) dX11_alike_126 rfl (nI_1 (a + 1 + u + 1 + q)) (by decide) rfl ?_
                  refine g_goto C 60 dX11_alike_129 rfl ?_
                  refine g_sub [0, 2, 3, 1, 4, 5, 6, 7] [(7, .int (nI (a + 1 + u + 1 + q + 1))), (6, .int (nI (a + 1 + u))), (5, .int (nI (a))), (4, .int (nI ((alC3 (malQ σ i k) a + alC2 (malQ σ i k) a u + alC1 (malQ σ i k) a (a + 1 + u) q) + 1))), (0, .ref (w.1 (0))), (1, .int (nI (i))), (2, .int (nI (k))), (3, .int ((mKs σ i) &&& (mKs σ k)))] rfl ?_
                  rw [show (alC3 (malQ σ i k) a + alC2 (malQ σ i k) a u + alC1 (malQ σ i k) a (a + 1 + u) q) + 1 = alC3 (malQ σ i k) a + alC2 (malQ σ i k) a u + alC1 (malQ σ i k) a (a + 1 + u) (q + 1) from by omega]
                  exact ih3 (q + 1) g4 (by omega) (by omega)
              · have hs : alC1 (malQ σ i k) a (a + 1 + u) (q + 1) = alC1 (malQ σ i k) a (a + 1 + u) q := cntU_n (fun h => c_10 h.1)
                refine g_goto C 126 dX11_alike_88 rfl ?_
                refine g_iinc (pc9 := 129) C rfl [(7, .int (nI (a + 1 + u + 1 + q + 1))), (6, .int (nI (a + 1 + u))), (5, .int (nI (a))), (4, .int (nI (alC3 (malQ σ i k) a + alC2 (malQ σ i k) a u + alC1 (malQ σ i k) a (a + 1 + u) q))), (0, .ref (w.1 (0))), (1, .int (nI (i))), (2, .int (nI (k))), (3, .int ((mKs σ i) &&& (mKs σ k)))] 0 (nI (a + 1 + u + 1 + q + 1)) dX11_alike_126 rfl (nI_1 (a + 1 + u + 1 + q)) (by decide) rfl ?_
                refine g_goto C 60 dX11_alike_129 rfl ?_
                refine g_sub [0, 1, 2, 3, 4, 5, 6, 7] [(7, .int (nI (a + 1 + u + 1 + q + 1))), (6, .int (nI (a + 1 + u))), (5, .int (nI (a))), (4, .int (nI (alC3 (malQ σ i k) a + alC2 (malQ σ i k) a u + alC1 (malQ σ i k) a (a + 1 + u) q))), (0, .ref (w.1 (0))), (1, .int (nI (i))), (2, .int (nI (k))), (3, .int ((mKs σ i) &&& (mKs σ k)))] rfl ?_
                rw [show alC3 (malQ σ i k) a + alC2 (malQ σ i k) a u + alC1 (malQ σ i k) a (a + 1 + u) q = alC3 (malQ σ i k) a + alC2 (malQ σ i k) a u + alC1 (malQ σ i k) a (a + 1 + u) (q + 1) from by omega]
                exact ih3 (q + 1) g2 (by omega) (by omega)
      · exact absurd c_4 (by decide)
def mneP (σ : St) (x a b d : Int32) (r : Int32) (σ9 : St) : Prop := (¬ (okI 8 x ∧ okI 12 a ∧ okI 12 b ∧ okI 12 d) ∧ σ9 = mT σ 1) ∨ (∃ i q u v, i < 8 ∧ q < 12 ∧ u < 12 ∧ v < 12 ∧ x = nI i ∧ a = nI q ∧ b = nI u ∧ d = nI v ∧ ((¬ mPl σ i ∧ σ9 = mT σ 2) ∨ (mPl σ i ∧ (q = u ∨ q = v ∨ u = v ∨ ¬ al3 q u v &&& (mKs σ i ^^^ (-1)) = 0) ∧ σ9 = mT σ 3) ∨ (mPl σ i ∧ ¬ (q = u ∨ q = v ∨ u = v) ∧ al3 q u v &&& (mKs σ i ^^^ (-1)) = 0 ∧ m12 σ σ9 ∧ r = msO σ i q u v)))
set_option maxRecDepth 100000 in
set_option maxHeartbeats 4000000 in
theorem m_X11_nearer (l : Launch) (w : Wd) (σ : St) (hM : ∀ i, i < 8 → mtOk σ i) (x a b d : Int32) : MI l yX11_nearer wsX11_nearer (rmL 5) w [.ref (w.1 (0)), .int (x), .int (a), .int (b), .int (d)] (σ) (mneP σ x a b d) := by
  refine MI_of (cc := cX11_nearer) (maxL := 5) (ret := .int) (by decide) rfl (Nat.le_of_ble_eq_true rfl) ?_
  intro p e s m args below meth c A C hr hlk
  have C : Cx p s m args c w A cX11_nearer RX11 5 wsX11_nearer := C
  have hin_11 : ∀ u ∈ wsX110, u ∈ wsX11_nearer := by decide +kernel
  have hl_107 : Cond.fieldLink RX11 107 "LineageBenchModel" "thrown" "I" ∈ wsX11_nearer := by decide +kernel
  refine g_aload_n (pc9 := 1) C rfl 0 dX11_nearer_0 rfl rfl ?_
  refine g_iconst (pc9 := 2) C rfl (nI (0)) dX11_nearer_1 rfl ?_
  refine g_put (pc9 := 5) C rfl (0) 0 dX11_nearer_2 (by decide) (ce_0 w (σ)) (rfl) hin_11 hl_107 tyX11 tyX11_ok nmX11 rfl (by decide) rfl rfl rfl (Nat.le_of_ble_eq_true rfl) ?_
  refine g_aload_n (pc9 := 6) C rfl 0 dX11_nearer_5 rfl rfl ?_
  refine g_iload_n (pc9 := 7) C rfl 1 dX11_nearer_6 rfl rfl ?_
  refine g_callSi (nn := 1) (rest := [.ref (w.1 (0))]) (pc9 := 10) C rfl [.int (x)] rfl dX11_nearer_7 (m_X11_noShelf l w (sN σ (0) 0 (nI (0))) x) gX11_nearer_X11_noShelf rfl rfl rfl (by decide +kernel) ⟨by decide, by decide⟩ rfl (Nat.le_of_ble_eq_true rfl) ⟨by decide, by decide⟩ (fun r_1 σ_1 q_1 => ?_)
  obtain ⟨qs_1, qr_1⟩ := q_1
  rw [qs_1, qr_1]
  clear qs_1 qr_1
  refine g_if_ne (pc9 := 13) C rfl 35 dX11_nearer_10 rfl (fun c_2 => ?_) (fun c_2 => ?_)
  · have hns : ¬ (okI 8 x ∧ okI 12 a ∧ okI 12 b ∧ okI 12 d) := fun h => pI_ye c_2 h.1
    refine g_iconst (pc9 := 36) C rfl (nI (1)) dX11_nearer_35 rfl ?_
    refine g_goto C 40 dX11_nearer_36 rfl ?_
    refine g_iconst (pc9 := 41) C rfl (nI (1)) dX11_nearer_40 rfl ?_
    refine g_callVi (nn := 2) (rest := []) (pc9 := 44) C rfl (0) [.int (nI (1)), .int (nI (1))] rfl dX11_nearer_41 (m_throws1 l w (sN σ (0) 0 (nI (0))) 1) gX11_nearer_X11_throwsIf (by decide) (ce_0 w (sN σ (0) 0 (nI (0)))) rfl rfl rfl rfl rfl (by decide +kernel) ⟨by decide, by decide⟩ rfl (Nat.le_of_ble_eq_true rfl) ⟨by decide, by decide⟩ (fun r_3 σ_3 q_3 => ?_)
    obtain ⟨qs_3, qr_3⟩ := q_3
    rw [qr_3]
    refine g_st (σ9 := sN σ (0) 0 (nI (1))) (qs_3.trans (by show sN (sN σ (0) 0 (nI (0))) (0) 0 (nI (1)) = sN σ (0) 0 (nI (1)); rw [sN_sN])) ?_
    refine g_if_ne (pc9 := 47) C rfl 68 dX11_nearer_44 rfl (fun c_4 => ?_) (fun c_4 => ?_)
    · refine g_iconst (pc9 := 69) C rfl (nI (0)) dX11_nearer_68 rfl ?_
      exact g_ireturn C hr hlk dX11_nearer_69 (by first | exact Or.inl ⟨hns, rfl⟩ | exact Or.inr ⟨i, q, u, v, hb_i, hb_q, hb_u, hb_v, rfl, rfl, rfl, rfl, Or.inl ⟨hpl, rfl⟩⟩)
    · exact absurd c_4 (by decide)
  · have hs_10 := Classical.not_not.mp (pI_no c_2)
    refine g_iload_n (pc9 := 14) C rfl 2 dX11_nearer_13 rfl rfl ?_
    refine g_callSi (nn := 1) (rest := [.ref (w.1 (0))]) (pc9 := 17) C rfl [.int (a)] rfl dX11_nearer_14 (m_X11_noKind l w (sN σ (0) 0 (nI (0))) a) gX11_nearer_X11_noKind rfl rfl rfl (by decide +kernel) ⟨by decide, by decide⟩ rfl (Nat.le_of_ble_eq_true rfl) ⟨by decide, by decide⟩ (fun r_5 σ_5 q_5 => ?_)
    obtain ⟨qs_5, qr_5⟩ := q_5
    rw [qs_5, qr_5]
    clear qs_5 qr_5
    refine g_if_ne (pc9 := 20) C rfl 35 dX11_nearer_17 rfl (fun c_6 => ?_) (fun c_6 => ?_)
    · have hns : ¬ (okI 8 x ∧ okI 12 a ∧ okI 12 b ∧ okI 12 d) := fun h => pI_ye c_6 h.2.1
      refine g_iconst (pc9 := 36) C rfl (nI (1)) dX11_nearer_35 rfl ?_
      refine g_goto C 40 dX11_nearer_36 rfl ?_
      refine g_iconst (pc9 := 41) C rfl (nI (1)) dX11_nearer_40 rfl ?_
      refine g_callVi (nn := 2) (rest := []) (pc9 := 44) C rfl (0) [.int (nI (1)), .int (nI (1))] rfl dX11_nearer_41 (m_throws1 l w (sN σ (0) 0 (nI (0))) 1) gX11_nearer_X11_throwsIf (by decide) (ce_0 w (sN σ (0) 0 (nI (0)))) rfl rfl rfl rfl rfl (by decide +kernel) ⟨by decide, by decide⟩ rfl (Nat.le_of_ble_eq_true rfl) ⟨by decide, by decide⟩ (fun r_7 σ_7 q_7 => ?_)
      obtain ⟨qs_7, qr_7⟩ := q_7
      rw [qr_7]
      refine g_st (σ9 := sN σ (0) 0 (nI (1))) (qs_7.trans (by show sN (sN σ (0) 0 (nI (0))) (0) 0 (nI (1)) = sN σ (0) 0 (nI (1)); rw [sN_sN])) ?_
      refine g_if_ne (pc9 := 47) C rfl 68 dX11_nearer_44 rfl (fun c_8 => ?_) (fun c_8 => ?_)
      · refine g_iconst (pc9 := 69) C rfl (nI (0)) dX11_nearer_68 rfl ?_
        exact g_ireturn C hr hlk dX11_nearer_69 (by first | exact Or.inl ⟨hns, rfl⟩ | exact Or.inr ⟨i, q, u, v, hb_i, hb_q, hb_u, hb_v, rfl, rfl, rfl, rfl, Or.inl ⟨hpl, rfl⟩⟩)
      · exact absurd c_8 (by decide)
    · have hs_17 := Classical.not_not.mp (pI_no c_6)
      refine g_iload_n (pc9 := 21) C rfl 3 dX11_nearer_20 rfl rfl ?_
      refine g_callSi (nn := 1) (rest := [.ref (w.1 (0))]) (pc9 := 24) C rfl [.int (b)] rfl dX11_nearer_21 (m_X11_noKind l w (sN σ (0) 0 (nI (0))) b) gX11_nearer_X11_noKind rfl rfl rfl (by decide +kernel) ⟨by decide, by decide⟩ rfl (Nat.le_of_ble_eq_true rfl) ⟨by decide, by decide⟩ (fun r_9 σ_9 q_9 => ?_)
      obtain ⟨qs_9, qr_9⟩ := q_9
      rw [qs_9, qr_9]
      clear qs_9 qr_9
      refine g_if_ne (pc9 := 27) C rfl 35 dX11_nearer_24 rfl (fun c_10 => ?_) (fun c_10 => ?_)
      · have hns : ¬ (okI 8 x ∧ okI 12 a ∧ okI 12 b ∧ okI 12 d) := fun h => pI_ye c_10 h.2.2.1
        refine g_iconst (pc9 := 36) C rfl (nI (1)) dX11_nearer_35 rfl ?_
        refine g_goto C 40 dX11_nearer_36 rfl ?_
        refine g_iconst (pc9 := 41) C rfl (nI (1)) dX11_nearer_40 rfl ?_
        refine g_callVi (nn := 2) (rest := []) (pc9 := 44) C rfl (0) [.int (nI (1)), .int (nI (1))] rfl dX11_nearer_41 (m_throws1 l w (sN σ (0) 0 (nI (0))) 1) gX11_nearer_X11_throwsIf (by decide) (ce_0 w (sN σ (0) 0 (nI (0)))) rfl rfl rfl rfl rfl (by decide +kernel) ⟨by decide, by decide⟩ rfl (Nat.le_of_ble_eq_true rfl) ⟨by decide, by decide⟩ (fun r_11 σ_11 q_11 => ?_)
        obtain ⟨qs_11, qr_11⟩ := q_11
        rw [qr_11]
        refine g_st (σ9 := sN σ (0) 0 (nI (1))) (qs_11.trans (by show sN (sN σ (0) 0 (nI (0))) (0) 0 (nI (1)) = sN σ (0) 0 (nI (1)); rw [sN_sN])) ?_
        refine g_if_ne (pc9 := 47) C rfl 68 dX11_nearer_44 rfl (fun c_12 => ?_) (fun c_12 => ?_)
        · refine g_iconst (pc9 := 69) C rfl (nI (0)) dX11_nearer_68 rfl ?_
          exact g_ireturn C hr hlk dX11_nearer_69 (by first | exact Or.inl ⟨hns, rfl⟩ | exact Or.inr ⟨i, q, u, v, hb_i, hb_q, hb_u, hb_v, rfl, rfl, rfl, rfl, Or.inl ⟨hpl, rfl⟩⟩)
        · exact absurd c_12 (by decide)
      · have hs_24 := Classical.not_not.mp (pI_no c_10)
        refine g_iload (pc9 := 29) C rfl 4 dX11_nearer_27 rfl ?_
        refine g_callSi (nn := 1) (rest := [.ref (w.1 (0))]) (pc9 := 32) C rfl [.int (d)] rfl dX11_nearer_29 (m_X11_noKind l w (sN σ (0) 0 (nI (0))) d) gX11_nearer_X11_noKind rfl rfl rfl (by decide +kernel) ⟨by decide, by decide⟩ rfl (Nat.le_of_ble_eq_true rfl) ⟨by decide, by decide⟩ (fun r_13 σ_13 q_13 => ?_)
        obtain ⟨qs_13, qr_13⟩ := q_13
        rw [qs_13, qr_13]
        clear qs_13 qr_13
        refine g_if_eq (pc9 := 35) C rfl 39 dX11_nearer_32 rfl (fun c_14 => ?_) (fun c_14 => ?_)
        · have hs_32 := Classical.not_not.mp (pI_no c_14)
          obtain ⟨i, hb_i, hx_i⟩ := hs_10
          obtain ⟨q, hb_q, hx_q⟩ := hs_17
          obtain ⟨u, hb_u, hx_u⟩ := hs_24
          obtain ⟨v, hb_v, hx_v⟩ := hs_32
          subst hx_i
          subst hx_q
          subst hx_u
          subst hx_v
          refine g_iconst (pc9 := 40) C rfl (nI (0)) dX11_nearer_39 rfl ?_
          refine g_iconst (pc9 := 41) C rfl (nI (1)) dX11_nearer_40 rfl ?_
          refine g_callVi (nn := 2) (rest := []) (pc9 := 44) C rfl (0) [.int (nI (0)), .int (nI (1))] rfl dX11_nearer_41 (m_throws0 l w (sN σ (0) 0 (nI (0))) 1) gX11_nearer_X11_throwsIf (by decide) (ce_0 w (sN σ (0) 0 (nI (0)))) rfl rfl rfl rfl rfl (by decide +kernel) ⟨by decide, by decide⟩ rfl (Nat.le_of_ble_eq_true rfl) ⟨by decide, by decide⟩ (fun r_15 σ_15 q_15 => ?_)
          obtain ⟨qs_15, qr_15⟩ := q_15
          rw [qs_15, qr_15]
          refine g_if_ne (pc9 := 47) C rfl 68 dX11_nearer_44 rfl (fun c_16 => ?_) (fun c_16 => ?_)
          · exact absurd c_16 (by decide)
          · refine g_aload_n (pc9 := 48) C rfl 0 dX11_nearer_47 rfl rfl ?_
            refine g_aload_n (pc9 := 49) C rfl 0 dX11_nearer_48 rfl rfl ?_
            refine g_iload_n (pc9 := 50) C rfl 1 dX11_nearer_49 rfl rfl ?_
            refine g_callVi (nn := 1) (rest := [.ref (w.1 (0))]) (pc9 := 53) C rfl (0) [.int (nI (i))] rfl dX11_nearer_50 (m_X11_isPlain l w (sN σ (0) 0 (nI (0))) i hb_i (hM i hb_i)) gX11_nearer_X11_isPlain (by decide) (ce_0 w (sN σ (0) 0 (nI (0)))) rfl rfl rfl rfl rfl (by decide +kernel) ⟨by decide, by decide⟩ rfl (Nat.le_of_ble_eq_true rfl) ⟨by decide, by decide⟩ (fun r_17 σ_17 q_17 => ?_)
            obtain ⟨qs_17, qr_17⟩ := q_17
            replace qr_17 : r_17 = pI (mPl σ i) := qr_17
            rw [qs_17, qr_17]
            clear qs_17 qr_17
            refine g_if_ne (pc9 := 56) C rfl 60 dX11_nearer_53 rfl (fun c_18 => ?_) (fun c_18 => ?_)
            · have hpl : mPl σ i := pI_ye c_18
              refine g_iconst (pc9 := 61) C rfl (nI (0)) dX11_nearer_60 rfl ?_
              refine g_iconst (pc9 := 62) C rfl (nI (2)) dX11_nearer_61 rfl ?_
              refine g_callVi (nn := 2) (rest := []) (pc9 := 65) C rfl (0) [.int (nI (0)), .int (nI (2))] rfl dX11_nearer_62 (m_throws0 l w (sN σ (0) 0 (nI (0))) 2) gX11_nearer_X11_throwsIf (by decide) (ce_0 w (sN σ (0) 0 (nI (0)))) rfl rfl rfl rfl rfl (by decide +kernel) ⟨by decide, by decide⟩ rfl (Nat.le_of_ble_eq_true rfl) ⟨by decide, by decide⟩ (fun r_19 σ_19 q_19 => ?_)
              obtain ⟨qs_19, qr_19⟩ := q_19
              rw [qs_19, qr_19]
              refine g_if_eq (pc9 := 68) C rfl 70 dX11_nearer_65 rfl (fun c_20 => ?_) (fun c_20 => ?_)
              · refine g_aload_n (pc9 := 71) C rfl 0 dX11_nearer_70 rfl rfl ?_
                refine g_iload_n (pc9 := 72) C rfl 2 dX11_nearer_71 rfl rfl ?_
                refine g_iload_n (pc9 := 73) C rfl 3 dX11_nearer_72 rfl rfl ?_
                refine g_icmp_eq (pc9 := 76) C rfl 111 dX11_nearer_73 rfl (fun c_21 => ?_) (fun c_21 => ?_)
                · replace c_21 := (nI_eq (by omega) (by omega)).mp c_21
                  have hbd : q = u ∨ q = v ∨ u = v ∨ ¬ al3 q u v &&& (mKs σ i ^^^ (-1)) = 0 := Or.inl c_21
                  refine g_iconst (pc9 := 112) C rfl (nI (1)) dX11_nearer_111 rfl ?_
                  refine g_goto C 116 dX11_nearer_112 rfl ?_
                  refine g_iconst (pc9 := 117) C rfl (nI (3)) dX11_nearer_116 rfl ?_
                  refine g_callVi (nn := 2) (rest := []) (pc9 := 120) C rfl (0) [.int (nI (1)), .int (nI (3))] rfl dX11_nearer_117 (m_throws1 l w (sN σ (0) 0 (nI (0))) 3) gX11_nearer_X11_throwsIf (by decide) (ce_0 w (sN σ (0) 0 (nI (0)))) rfl rfl rfl rfl rfl (by decide +kernel) ⟨by decide, by decide⟩ rfl (Nat.le_of_ble_eq_true rfl) ⟨by decide, by decide⟩ (fun r_22 σ_22 q_22 => ?_)
                  obtain ⟨qs_22, qr_22⟩ := q_22
                  rw [qr_22]
                  refine g_st (σ9 := sN σ (0) 0 (nI (3))) (qs_22.trans (by show sN (sN σ (0) 0 (nI (0))) (0) 0 (nI (3)) = sN σ (0) 0 (nI (3)); rw [sN_sN])) ?_
                  refine g_if_eq (pc9 := 123) C rfl 125 dX11_nearer_120 rfl (fun c_23 => ?_) (fun c_23 => ?_)
                  · exact absurd c_23 (by decide)
                  · refine g_iconst (pc9 := 124) C rfl (nI (0)) dX11_nearer_123 rfl ?_
                    exact g_ireturn C hr hlk dX11_nearer_124 (Or.inr ⟨i, q, u, v, hb_i, hb_q, hb_u, hb_v, rfl, rfl, rfl, rfl, Or.inr (Or.inl ⟨hpl, hbd, rfl⟩)⟩)
                · replace c_21 := (not_congr (nI_eq (by omega) (by omega))).mp c_21
                  refine g_iload_n (pc9 := 77) C rfl 2 dX11_nearer_76 rfl rfl ?_
                  refine g_iload (pc9 := 79) C rfl 4 dX11_nearer_77 rfl ?_
                  refine g_icmp_eq (pc9 := 82) C rfl 111 dX11_nearer_79 rfl (fun c_24 => ?_) (fun c_24 => ?_)
                  · replace c_24 := (nI_eq (by omega) (by omega)).mp c_24
                    have hbd : q = u ∨ q = v ∨ u = v ∨ ¬ al3 q u v &&& (mKs σ i ^^^ (-1)) = 0 := Or.inr (Or.inl c_24)
                    refine g_iconst (pc9 := 112) C rfl (nI (1)) dX11_nearer_111 rfl ?_
                    refine g_goto C 116 dX11_nearer_112 rfl ?_
                    refine g_iconst (pc9 := 117) C rfl (nI (3)) dX11_nearer_116 rfl ?_
                    refine g_callVi (nn := 2) (rest := []) (pc9 := 120) C rfl (0) [.int (nI (1)), .int (nI (3))] rfl dX11_nearer_117 (m_throws1 l w (sN σ (0) 0 (nI (0))) 3) gX11_nearer_X11_throwsIf (by decide) (ce_0 w (sN σ (0) 0 (nI (0)))) rfl rfl rfl rfl rfl (by decide +kernel) ⟨by decide, by decide⟩ rfl (Nat.le_of_ble_eq_true rfl) ⟨by decide, by decide⟩ (fun r_25 σ_25 q_25 => ?_)
                    obtain ⟨qs_25, qr_25⟩ := q_25
                    rw [qr_25]
                    refine g_st (σ9 := sN σ (0) 0 (nI (3))) (qs_25.trans (by show sN (sN σ (0) 0 (nI (0))) (0) 0 (nI (3)) = sN σ (0) 0 (nI (3)); rw [sN_sN])) ?_
                    refine g_if_eq (pc9 := 123) C rfl 125 dX11_nearer_120 rfl (fun c_26 => ?_) (fun c_26 => ?_)
                    · exact absurd c_26 (by decide)
                    · refine g_iconst (pc9 := 124) C rfl (nI (0)) dX11_nearer_123 rfl ?_
                      exact g_ireturn C hr hlk dX11_nearer_124 (Or.inr ⟨i, q, u, v, hb_i, hb_q, hb_u, hb_v, rfl, rfl, rfl, rfl, Or.inr (Or.inl ⟨hpl, hbd, rfl⟩)⟩)
                  · replace c_24 := (not_congr (nI_eq (by omega) (by omega))).mp c_24
                    refine g_iload_n (pc9 := 83) C rfl 3 dX11_nearer_82 rfl rfl ?_
                    refine g_iload (pc9 := 85) C rfl 4 dX11_nearer_83 rfl ?_
                    refine g_icmp_eq (pc9 := 88) C rfl 111 dX11_nearer_85 rfl (fun c_27 => ?_) (fun c_27 => ?_)
                    · replace c_27 := (nI_eq (by omega) (by omega)).mp c_27
                      have hbd : q = u ∨ q = v ∨ u = v ∨ ¬ al3 q u v &&& (mKs σ i ^^^ (-1)) = 0 := Or.inr (Or.inr (Or.inl c_27))
                      refine g_iconst (pc9 := 112) C rfl (nI (1)) dX11_nearer_111 rfl ?_
                      refine g_goto C 116 dX11_nearer_112 rfl ?_
                      refine g_iconst (pc9 := 117) C rfl (nI (3)) dX11_nearer_116 rfl ?_
                      refine g_callVi (nn := 2) (rest := []) (pc9 := 120) C rfl (0) [.int (nI (1)), .int (nI (3))] rfl dX11_nearer_117 (m_throws1 l w (sN σ (0) 0 (nI (0))) 3) gX11_nearer_X11_throwsIf (by decide) (ce_0 w (sN σ (0) 0 (nI (0)))) rfl rfl rfl rfl rfl (by decide +kernel) ⟨by decide, by decide⟩ rfl (Nat.le_of_ble_eq_true rfl) ⟨by decide, by decide⟩ (fun r_28 σ_28 q_28 => ?_)
                      obtain ⟨qs_28, qr_28⟩ := q_28
                      rw [qr_28]
                      refine g_st (σ9 := sN σ (0) 0 (nI (3))) (qs_28.trans (by show sN (sN σ (0) 0 (nI (0))) (0) 0 (nI (3)) = sN σ (0) 0 (nI (3)); rw [sN_sN])) ?_
                      refine g_if_eq (pc9 := 123) C rfl 125 dX11_nearer_120 rfl (fun c_29 => ?_) (fun c_29 => ?_)
                      · exact absurd c_29 (by decide)
                      · refine g_iconst (pc9 := 124) C rfl (nI (0)) dX11_nearer_123 rfl ?_
                        exact g_ireturn C hr hlk dX11_nearer_124 (Or.inr ⟨i, q, u, v, hb_i, hb_q, hb_u, hb_v, rfl, rfl, rfl, rfl, Or.inr (Or.inl ⟨hpl, hbd, rfl⟩)⟩)
                    · replace c_27 := (not_congr (nI_eq (by omega) (by omega))).mp c_27
                      refine g_iconst (pc9 := 89) C rfl (nI (1)) dX11_nearer_88 rfl ?_
                      refine g_iload_n (pc9 := 90) C rfl 2 dX11_nearer_89 rfl rfl ?_
                      refine g_ishl (pc9 := 91) C rfl dX11_nearer_90 ?_
                      refine g_iconst (pc9 := 92) C rfl (nI (1)) dX11_nearer_91 rfl ?_
                      refine g_iload_n (pc9 := 93) C rfl 3 dX11_nearer_92 rfl rfl ?_
                      refine g_ishl (pc9 := 94) C rfl dX11_nearer_93 ?_
                      refine g_ior (pc9 := 95) C rfl dX11_nearer_94 ?_
                      refine g_iconst (pc9 := 96) C rfl (nI (1)) dX11_nearer_95 rfl ?_
                      refine g_iload (pc9 := 98) C rfl 4 dX11_nearer_96 rfl ?_
                      refine g_ishl (pc9 := 99) C rfl dX11_nearer_98 ?_
                      refine g_ior (pc9 := 100) C rfl dX11_nearer_99 ?_
                      refine g_aload_n (pc9 := 101) C rfl 0 dX11_nearer_100 rfl rfl ?_
                      refine g_iload_n (pc9 := 102) C rfl 1 dX11_nearer_101 rfl rfl ?_
                      refine g_callVi (nn := 1) (rest := [.int ((((nI (1)) <<< ((nI (q)) &&& 31)) ||| ((nI (1)) <<< ((nI (u)) &&& 31))) ||| ((nI (1)) <<< ((nI (v)) &&& 31))), .ref (w.1 (0))]) (pc9 := 105) C rfl (0) [.int (nI (i))] rfl dX11_nearer_102 (m_X11_kindsOf l w (mT σ 0) i hb_i (hM i hb_i)) gX11_nearer_X11_kindsOf (by decide) (ce_0 w (sN σ (0) 0 (nI (0)))) rfl rfl rfl rfl rfl (by decide +kernel) ⟨by decide, by decide⟩ rfl (Nat.le_of_ble_eq_true rfl) ⟨by decide, by decide⟩ (fun r_30 σ_30 q_30 => ?_)
                      obtain ⟨qs_30, qr_30⟩ := q_30
                      replace qr_30 : r_30 = mKs σ i := qr_30
                      rw [qs_30, qr_30]
                      clear qs_30 qr_30
                      refine g_iconst (pc9 := 106) C rfl ((-1)) dX11_nearer_105 rfl ?_
                      refine g_ixor (pc9 := 107) C rfl dX11_nearer_106 ?_
                      refine g_iand (pc9 := 108) C rfl dX11_nearer_107 ?_
                      refine g_if_eq (pc9 := 111) C rfl 115 dX11_nearer_108 rfl (fun c_31 => ?_) (fun c_31 => ?_)
                      · have hgd := Classical.not_not.mp (fun h => h c_31)
                        have hne : ¬ (q = u ∨ q = v ∨ u = v) := fun h => by rcases h with h | h | h <;> contradiction
                        refine g_iconst (pc9 := 116) C rfl (nI (0)) dX11_nearer_115 rfl ?_
                        refine g_iconst (pc9 := 117) C rfl (nI (3)) dX11_nearer_116 rfl ?_
                        refine g_callVi (nn := 2) (rest := []) (pc9 := 120) C rfl (0) [.int (nI (0)), .int (nI (3))] rfl dX11_nearer_117 (m_throws0 l w (sN σ (0) 0 (nI (0))) 3) gX11_nearer_X11_throwsIf (by decide) (ce_0 w (sN σ (0) 0 (nI (0)))) rfl rfl rfl rfl rfl (by decide +kernel) ⟨by decide, by decide⟩ rfl (Nat.le_of_ble_eq_true rfl) ⟨by decide, by decide⟩ (fun r_32 σ_32 q_32 => ?_)
                        obtain ⟨qs_32, qr_32⟩ := q_32
                        rw [qs_32, qr_32]
                        refine g_if_eq (pc9 := 123) C rfl 125 dX11_nearer_120 rfl (fun c_33 => ?_) (fun c_33 => ?_)
                        · refine g_aload_n (pc9 := 126) C rfl 0 dX11_nearer_125 rfl rfl ?_
                          refine g_iload_n (pc9 := 127) C rfl 1 dX11_nearer_126 rfl rfl ?_
                          refine g_iload_n (pc9 := 128) C rfl 2 dX11_nearer_127 rfl rfl ?_
                          refine g_iload_n (pc9 := 129) C rfl 3 dX11_nearer_128 rfl rfl ?_
                          refine g_iload (pc9 := 131) C rfl 4 dX11_nearer_129 rfl ?_
                          refine g_callVi (nn := 4) (rest := []) (pc9 := 134) C rfl (0) [.int (nI (i)), .int (nI (q)), .int (nI (u)), .int (nI (v))] rfl dX11_nearer_131 (m_X11_shownOf l w (mT σ 0) i hb_i (hM i hb_i) hpl.1 q u v hb_q hb_u hb_v) gX11_nearer_X11_shownOf (by decide) (ce_0 w (sN σ (0) 0 (nI (0)))) rfl rfl rfl rfl rfl (by decide +kernel) ⟨by decide, by decide⟩ rfl (Nat.le_of_ble_eq_true rfl) ⟨by decide, by decide⟩ (fun r_34 σ_34 q_34 => ?_)
                          obtain ⟨⟨g9, qs_34⟩, qr_34⟩ := q_34
                          replace qr_34 : r_34 = msO σ i q u v := qr_34
                          rw [qs_34, qr_34]
                          exact g_ireturn C hr hlk dX11_nearer_134 (Or.inr ⟨i, q, u, v, hb_i, hb_q, hb_u, hb_v, rfl, rfl, rfl, rfl, Or.inr (Or.inr ⟨hpl, hne, hgd, ⟨g9, rfl⟩, rfl⟩)⟩)
                        · exact absurd c_33 (by decide)
                      · have hbd : q = u ∨ q = v ∨ u = v ∨ ¬ al3 q u v &&& (mKs σ i ^^^ (-1)) = 0 := Or.inr (Or.inr (Or.inr c_31))
                        refine g_iconst (pc9 := 112) C rfl (nI (1)) dX11_nearer_111 rfl ?_
                        refine g_goto C 116 dX11_nearer_112 rfl ?_
                        refine g_iconst (pc9 := 117) C rfl (nI (3)) dX11_nearer_116 rfl ?_
                        refine g_callVi (nn := 2) (rest := []) (pc9 := 120) C rfl (0) [.int (nI (1)), .int (nI (3))] rfl dX11_nearer_117 (m_throws1 l w (sN σ (0) 0 (nI (0))) 3) gX11_nearer_X11_throwsIf (by decide) (ce_0 w (sN σ (0) 0 (nI (0)))) rfl rfl rfl rfl rfl (by decide +kernel) ⟨by decide, by decide⟩ rfl (Nat.le_of_ble_eq_true rfl) ⟨by decide, by decide⟩ (fun r_35 σ_35 q_35 => ?_)
                        obtain ⟨qs_35, qr_35⟩ := q_35
                        rw [qr_35]
                        refine g_st (σ9 := sN σ (0) 0 (nI (3))) (qs_35.trans (by show sN (sN σ (0) 0 (nI (0))) (0) 0 (nI (3)) = sN σ (0) 0 (nI (3)); rw [sN_sN])) ?_
                        refine g_if_eq (pc9 := 123) C rfl 125 dX11_nearer_120 rfl (fun c_36 => ?_) (fun c_36 => ?_)
                        · exact absurd c_36 (by decide)
                        · refine g_iconst (pc9 := 124) C rfl (nI (0)) dX11_nearer_123 rfl ?_
                          exact g_ireturn C hr hlk dX11_nearer_124 (Or.inr ⟨i, q, u, v, hb_i, hb_q, hb_u, hb_v, rfl, rfl, rfl, rfl, Or.inr (Or.inl ⟨hpl, hbd, rfl⟩)⟩)
              · exact absurd c_20 (by decide)
            · have hpl : ¬ mPl σ i := pI_no c_18
              refine g_iconst (pc9 := 57) C rfl (nI (1)) dX11_nearer_56 rfl ?_
              refine g_goto C 61 dX11_nearer_57 rfl ?_
              refine g_iconst (pc9 := 62) C rfl (nI (2)) dX11_nearer_61 rfl ?_
              refine g_callVi (nn := 2) (rest := []) (pc9 := 65) C rfl (0) [.int (nI (1)), .int (nI (2))] rfl dX11_nearer_62 (m_throws1 l w (sN σ (0) 0 (nI (0))) 2) gX11_nearer_X11_throwsIf (by decide) (ce_0 w (sN σ (0) 0 (nI (0)))) rfl rfl rfl rfl rfl (by decide +kernel) ⟨by decide, by decide⟩ rfl (Nat.le_of_ble_eq_true rfl) ⟨by decide, by decide⟩ (fun r_37 σ_37 q_37 => ?_)
              obtain ⟨qs_37, qr_37⟩ := q_37
              rw [qr_37]
              refine g_st (σ9 := sN σ (0) 0 (nI (2))) (qs_37.trans (by show sN (sN σ (0) 0 (nI (0))) (0) 0 (nI (2)) = sN σ (0) 0 (nI (2)); rw [sN_sN])) ?_
              refine g_if_eq (pc9 := 68) C rfl 70 dX11_nearer_65 rfl (fun c_38 => ?_) (fun c_38 => ?_)
              · exact absurd c_38 (by decide)
              · refine g_iconst (pc9 := 69) C rfl (nI (0)) dX11_nearer_68 rfl ?_
                exact g_ireturn C hr hlk dX11_nearer_69 (by first | exact Or.inl ⟨hns, rfl⟩ | exact Or.inr ⟨i, q, u, v, hb_i, hb_q, hb_u, hb_v, rfl, rfl, rfl, rfl, Or.inl ⟨hpl, rfl⟩⟩)
        · have hns : ¬ (okI 8 x ∧ okI 12 a ∧ okI 12 b ∧ okI 12 d) := fun h => pI_ye c_14 h.2.2.2
          refine g_iconst (pc9 := 36) C rfl (nI (1)) dX11_nearer_35 rfl ?_
          refine g_goto C 40 dX11_nearer_36 rfl ?_
          refine g_iconst (pc9 := 41) C rfl (nI (1)) dX11_nearer_40 rfl ?_
          refine g_callVi (nn := 2) (rest := []) (pc9 := 44) C rfl (0) [.int (nI (1)), .int (nI (1))] rfl dX11_nearer_41 (m_throws1 l w (sN σ (0) 0 (nI (0))) 1) gX11_nearer_X11_throwsIf (by decide) (ce_0 w (sN σ (0) 0 (nI (0)))) rfl rfl rfl rfl rfl (by decide +kernel) ⟨by decide, by decide⟩ rfl (Nat.le_of_ble_eq_true rfl) ⟨by decide, by decide⟩ (fun r_39 σ_39 q_39 => ?_)
          obtain ⟨qs_39, qr_39⟩ := q_39
          rw [qr_39]
          refine g_st (σ9 := sN σ (0) 0 (nI (1))) (qs_39.trans (by show sN (sN σ (0) 0 (nI (0))) (0) 0 (nI (1)) = sN σ (0) 0 (nI (1)); rw [sN_sN])) ?_
          refine g_if_ne (pc9 := 47) C rfl 68 dX11_nearer_44 rfl (fun c_40 => ?_) (fun c_40 => ?_)
          · refine g_iconst (pc9 := 69) C rfl (nI (0)) dX11_nearer_68 rfl ?_
            exact g_ireturn C hr hlk dX11_nearer_69 (by first | exact Or.inl ⟨hns, rfl⟩ | exact Or.inr ⟨i, q, u, v, hb_i, hb_q, hb_u, hb_v, rfl, rfl, rfl, rfl, Or.inl ⟨hpl, rfl⟩⟩)
          · exact absurd c_40 (by decide)
noncomputable abbrev mcuF (σ : St) (i : Nat) (y : Int32) (v : Nat) : Fam := maUp (fun v => mcl σ i v &&& (y &&& mKs σ i)) (0, iA σ 13) v
def mcuP (σ : St) (x y u : Int32) (r : Int32) (σ9 : St) : Prop := (¬ (okI 8 x ∧ okI 8 u) ∧ σ9 = mT σ 1) ∨ (∃ i k, i < 8 ∧ k < 8 ∧ x = nI i ∧ u = nI k ∧ ((¬ mPl σ i ∧ σ9 = mT σ 2) ∨ (mPl σ i ∧ y &&& mKs σ i = 0 ∧ σ9 = mT σ 3) ∨ (mPl σ i ∧ ¬ y &&& mKs σ i = 0 ∧ (∃ g, σ9 = puS (sI (mT σ 0) 12 g) (mcuF σ i y (mN σ i)) k) ∧ r = bC (y &&& mKs σ i))))
set_option maxRecDepth 100000 in
set_option maxHeartbeats 4000000 in
theorem m_X11_cut (l : Launch) (w : Wd) (σ : St) (hM : ∀ i, i < 8 → mtOk σ i) (x y u : Int32) (hG : ∀ i, i < 8 → mPl σ i → ¬ y &&& mKs σ i = 0 → 0 < (mcuF σ i y (mN σ i)).1 ∧ (mcuF σ i y (mN σ i)).1 ≤ 47) : MI l yX11_cut wsX11_cut (rmL 3) w [.ref (w.1 (0)), .int (x), .int (y), .int (u)] (σ) (mcuP σ x y u) := by
  refine MI_of (cc := cX11_cut) (maxL := 6) (ret := .int) (by decide) rfl (Nat.le_of_ble_eq_true rfl) ?_
  intro p e s m args below meth c A C hr hlk
  have C : Cx p s m args c w A cX11_cut RX11 6 wsX11_cut := C
  have hin_11 : ∀ u ∈ wsX110, u ∈ wsX11_cut := by decide +kernel
  have hl_17 : Cond.fieldLink RX11 17 "LineageBenchModel" "many" "[I" ∈ wsX11_cut := by decide +kernel
  have hl_51 : Cond.fieldLink RX11 51 "LineageBenchModel" "clusters" "[I" ∈ wsX11_cut := by decide +kernel
  have hl_107 : Cond.fieldLink RX11 107 "LineageBenchModel" "thrown" "I" ∈ wsX11_cut := by decide +kernel
  have hl_129 : Cond.fieldLink RX11 129 "LineageBenchModel" "setMany" "I" ∈ wsX11_cut := by decide +kernel
  refine g_aload_n (pc9 := 1) C rfl 0 dX11_cut_0 rfl rfl ?_
  refine g_iconst (pc9 := 2) C rfl (nI (0)) dX11_cut_1 rfl ?_
  refine g_put (pc9 := 5) C rfl (0) 0 dX11_cut_2 (by decide) (ce_0 w (σ)) (rfl) hin_11 hl_107 tyX11 tyX11_ok nmX11 rfl (by decide) rfl rfl rfl (Nat.le_of_ble_eq_true rfl) ?_
  refine g_aload_n (pc9 := 6) C rfl 0 dX11_cut_5 rfl rfl ?_
  refine g_iload_n (pc9 := 7) C rfl 1 dX11_cut_6 rfl rfl ?_
  refine g_callSi (nn := 1) (rest := [.ref (w.1 (0))]) (pc9 := 10) C rfl [.int (x)] rfl dX11_cut_7 (m_X11_noShelf l w (sN σ (0) 0 (nI (0))) x) gX11_cut_X11_noShelf rfl rfl rfl (by decide +kernel) ⟨by decide, by decide⟩ rfl (Nat.le_of_ble_eq_true rfl) ⟨by decide, by decide⟩ (fun r_1 σ_1 q_1 => ?_)
  obtain ⟨qs_1, qr_1⟩ := q_1
  rw [qs_1, qr_1]
  clear qs_1 qr_1
  refine g_if_ne (pc9 := 13) C rfl 20 dX11_cut_10 rfl (fun c_2 => ?_) (fun c_2 => ?_)
  · have hns : ¬ (okI 8 x ∧ okI 8 u) := fun h => pI_ye c_2 h.1
    refine g_iconst (pc9 := 21) C rfl (nI (1)) dX11_cut_20 rfl ?_
    refine g_goto C 25 dX11_cut_21 rfl ?_
    refine g_iconst (pc9 := 26) C rfl (nI (1)) dX11_cut_25 rfl ?_
    refine g_callVi (nn := 2) (rest := []) (pc9 := 29) C rfl (0) [.int (nI (1)), .int (nI (1))] rfl dX11_cut_26 (m_throws1 l w (sN σ (0) 0 (nI (0))) 1) gX11_cut_X11_throwsIf (by decide) (ce_0 w (sN σ (0) 0 (nI (0)))) rfl rfl rfl rfl rfl (by decide +kernel) ⟨by decide, by decide⟩ rfl (Nat.le_of_ble_eq_true rfl) ⟨by decide, by decide⟩ (fun r_3 σ_3 q_3 => ?_)
    obtain ⟨qs_3, qr_3⟩ := q_3
    rw [qr_3]
    refine g_st (σ9 := sN σ (0) 0 (nI (1))) (qs_3.trans (by show sN (sN σ (0) 0 (nI (0))) (0) 0 (nI (1)) = sN σ (0) 0 (nI (1)); rw [sN_sN])) ?_
    refine g_if_ne (pc9 := 32) C rfl 53 dX11_cut_29 rfl (fun c_4 => ?_) (fun c_4 => ?_)
    · refine g_iconst (pc9 := 54) C rfl (nI (0)) dX11_cut_53 rfl ?_
      exact g_ireturn C hr hlk dX11_cut_54 (by first | exact Or.inl ⟨hns, rfl⟩ | exact Or.inr ⟨i, k, hb_i, hb_k, rfl, rfl, Or.inl ⟨hpl, rfl⟩⟩)
    · exact absurd c_4 (by decide)
  · have hs_10 := Classical.not_not.mp (pI_no c_2)
    refine g_iload_n (pc9 := 14) C rfl 3 dX11_cut_13 rfl rfl ?_
    refine g_callSi (nn := 1) (rest := [.ref (w.1 (0))]) (pc9 := 17) C rfl [.int (u)] rfl dX11_cut_14 (m_X11_noShelf l w (sN σ (0) 0 (nI (0))) u) gX11_cut_X11_noShelf rfl rfl rfl (by decide +kernel) ⟨by decide, by decide⟩ rfl (Nat.le_of_ble_eq_true rfl) ⟨by decide, by decide⟩ (fun r_5 σ_5 q_5 => ?_)
    obtain ⟨qs_5, qr_5⟩ := q_5
    rw [qs_5, qr_5]
    clear qs_5 qr_5
    refine g_if_eq (pc9 := 20) C rfl 24 dX11_cut_17 rfl (fun c_6 => ?_) (fun c_6 => ?_)
    · have hs_17 := Classical.not_not.mp (pI_no c_6)
      obtain ⟨i, hb_i, hx_i⟩ := hs_10
      obtain ⟨k, hb_k, hx_k⟩ := hs_17
      subst hx_i
      subst hx_k
      refine g_iconst (pc9 := 25) C rfl (nI (0)) dX11_cut_24 rfl ?_
      refine g_iconst (pc9 := 26) C rfl (nI (1)) dX11_cut_25 rfl ?_
      refine g_callVi (nn := 2) (rest := []) (pc9 := 29) C rfl (0) [.int (nI (0)), .int (nI (1))] rfl dX11_cut_26 (m_throws0 l w (sN σ (0) 0 (nI (0))) 1) gX11_cut_X11_throwsIf (by decide) (ce_0 w (sN σ (0) 0 (nI (0)))) rfl rfl rfl rfl rfl (by decide +kernel) ⟨by decide, by decide⟩ rfl (Nat.le_of_ble_eq_true rfl) ⟨by decide, by decide⟩ (fun r_7 σ_7 q_7 => ?_)
      obtain ⟨qs_7, qr_7⟩ := q_7
      rw [qs_7, qr_7]
      refine g_if_ne (pc9 := 32) C rfl 53 dX11_cut_29 rfl (fun c_8 => ?_) (fun c_8 => ?_)
      · exact absurd c_8 (by decide)
      · refine g_aload_n (pc9 := 33) C rfl 0 dX11_cut_32 rfl rfl ?_
        refine g_aload_n (pc9 := 34) C rfl 0 dX11_cut_33 rfl rfl ?_
        refine g_iload_n (pc9 := 35) C rfl 1 dX11_cut_34 rfl rfl ?_
        refine g_callVi (nn := 1) (rest := [.ref (w.1 (0))]) (pc9 := 38) C rfl (0) [.int (nI (i))] rfl dX11_cut_35 (m_X11_isPlain l w (sN σ (0) 0 (nI (0))) i hb_i (hM i hb_i)) gX11_cut_X11_isPlain (by decide) (ce_0 w (sN σ (0) 0 (nI (0)))) rfl rfl rfl rfl rfl (by decide +kernel) ⟨by decide, by decide⟩ rfl (Nat.le_of_ble_eq_true rfl) ⟨by decide, by decide⟩ (fun r_9 σ_9 q_9 => ?_)
        obtain ⟨qs_9, qr_9⟩ := q_9
        replace qr_9 : r_9 = pI (mPl σ i) := qr_9
        rw [qs_9, qr_9]
        clear qs_9 qr_9
        refine g_if_ne (pc9 := 41) C rfl 45 dX11_cut_38 rfl (fun c_10 => ?_) (fun c_10 => ?_)
        · have hpl : mPl σ i := pI_ye c_10
          refine g_iconst (pc9 := 46) C rfl (nI (0)) dX11_cut_45 rfl ?_
          refine g_iconst (pc9 := 47) C rfl (nI (2)) dX11_cut_46 rfl ?_
          refine g_callVi (nn := 2) (rest := []) (pc9 := 50) C rfl (0) [.int (nI (0)), .int (nI (2))] rfl dX11_cut_47 (m_throws0 l w (sN σ (0) 0 (nI (0))) 2) gX11_cut_X11_throwsIf (by decide) (ce_0 w (sN σ (0) 0 (nI (0)))) rfl rfl rfl rfl rfl (by decide +kernel) ⟨by decide, by decide⟩ rfl (Nat.le_of_ble_eq_true rfl) ⟨by decide, by decide⟩ (fun r_11 σ_11 q_11 => ?_)
          obtain ⟨qs_11, qr_11⟩ := q_11
          rw [qs_11, qr_11]
          refine g_if_eq (pc9 := 53) C rfl 55 dX11_cut_50 rfl (fun c_12 => ?_) (fun c_12 => ?_)
          · refine g_iload_n (pc9 := 56) C rfl 2 dX11_cut_55 rfl rfl ?_
            refine g_aload_n (pc9 := 57) C rfl 0 dX11_cut_56 rfl rfl ?_
            refine g_iload_n (pc9 := 58) C rfl 1 dX11_cut_57 rfl rfl ?_
            refine g_callVi (nn := 1) (rest := [.int (y)]) (pc9 := 61) C rfl (0) [.int (nI (i))] rfl dX11_cut_58 (m_X11_kindsOf l w (mT σ 0) i hb_i (hM i hb_i)) gX11_cut_X11_kindsOf (by decide) (ce_0 w (sN σ (0) 0 (nI (0)))) rfl rfl rfl rfl rfl (by decide +kernel) ⟨by decide, by decide⟩ rfl (Nat.le_of_ble_eq_true rfl) ⟨by decide, by decide⟩ (fun r_13 σ_13 q_13 => ?_)
            obtain ⟨qs_13, qr_13⟩ := q_13
            replace qr_13 : r_13 = mKs σ i := qr_13
            rw [qs_13, qr_13]
            clear qs_13 qr_13
            refine g_iand (pc9 := 62) C rfl dX11_cut_61 ?_
            refine g_istore (pc9 := 64) C rfl [(4, .int ((y) &&& (mKs σ i))), (0, .ref (w.1 (0))), (1, .int (nI (i))), (2, .int (y)), (3, .int (nI (k)))] dX11_cut_62 (by decide) rfl ?_
            refine g_aload_n (pc9 := 65) C rfl 1 dX11_cut_64 rfl rfl ?_
            refine g_iload (pc9 := 67) C rfl 0 dX11_cut_65 rfl ?_
            refine g_if_ne (pc9 := 70) C rfl 74 dX11_cut_67 rfl (fun c_14 => ?_) (fun c_14 => ?_)
            · have hz : ¬ y &&& mKs σ i = 0 := c_14
              refine g_iconst (pc9 := 75) C rfl (nI (0)) dX11_cut_74 rfl ?_
              refine g_iconst (pc9 := 76) C rfl (nI (3)) dX11_cut_75 rfl ?_
              refine g_callVi (nn := 2) (rest := []) (pc9 := 79) C rfl (0) [.int (nI (0)), .int (nI (3))] rfl dX11_cut_76 (m_throws0 l w (sN σ (0) 0 (nI (0))) 3) gX11_cut_X11_throwsIf (by decide) (ce_0 w (sN σ (0) 0 (nI (0)))) rfl rfl rfl rfl rfl (by decide +kernel) ⟨by decide, by decide⟩ rfl (Nat.le_of_ble_eq_true rfl) ⟨by decide, by decide⟩ (fun r_15 σ_15 q_15 => ?_)
              obtain ⟨qs_15, qr_15⟩ := q_15
              rw [qs_15, qr_15]
              refine g_if_eq (pc9 := 82) C rfl 84 dX11_cut_79 rfl (fun c_16 => ?_) (fun c_16 => ?_)
              · refine g_aload_n (pc9 := 85) C rfl 1 dX11_cut_84 rfl rfl ?_
                refine g_iload_n (pc9 := 86) C rfl 2 dX11_cut_85 rfl rfl ?_
                refine g_callVv (nn := 1) (rest := []) (pc9 := 89) C rfl (0) [.int (nI (i))] rfl dX11_cut_86 (m_clu l w (mT σ 0) i hb_i (hM i hb_i) hpl.1) gX11_cut_X11_clusters (by decide) (ce_0 w (sN σ (0) 0 (nI (0)))) rfl rfl rfl rfl rfl (by decide +kernel) ⟨by decide, by decide⟩ rfl (Nat.le_of_ble_eq_true rfl) ⟨by decide, by decide⟩ (fun σ_17 q_17 => ?_)
                obtain ⟨g9, qs_17, hg9⟩ := q_17
                replace hg9 : ∀ v, v < mN σ i → g9 v = mcl σ i v := hg9
                refine g_st (σ9 := sI (sI (mT σ 0) 12 g9) 13 (iA σ 13)) (qs_17.trans (show sI (sI (mT σ 0) 12 g9) 13 (iA (sI (mT σ 0) 12 g9) 13) = _ from sI_self).symm) ?_
                refine g_aload_n (pc9 := 90) C rfl 1 dX11_cut_89 rfl rfl ?_
                refine g_iconst (pc9 := 91) C rfl (nI (0)) dX11_cut_90 rfl ?_
                refine g_put (pc9 := 94) C rfl (0) 21 dX11_cut_91 (by decide) (ce_0 w (sI (sI (sN σ (0) 0 (nI (0))) (12) (g9)) (13) (iA σ 13))) (rfl) hin_11 hl_129 tyX11 tyX11_ok nmX11 rfl (by decide) rfl rfl rfl (Nat.le_of_ble_eq_true rfl) ?_
                refine g_iconst (pc9 := 95) C rfl (nI (0)) dX11_cut_94 rfl ?_
                refine g_istore (pc9 := 97) C rfl [(5, .int (nI (0))), (4, .int ((y) &&& (mKs σ i))), (0, .ref (w.1 (0))), (1, .int (nI (i))), (2, .int (y)), (3, .int (nI (k)))] dX11_cut_95 (by decide) rfl ?_
                refine g_sub [0, 2, 3, 4, 5, 1] [(5, .int (nI (0))), (0, .ref (w.1 (0))), (1, .int (nI (i))), (2, .int (y)), (3, .int (nI (k))), (4, .int ((y) &&& (mKs σ i)))] rfl ?_
                have h47 := (hM i hb_i).2.1
                refine g_st (σ9 := sN (sI (sI (sN σ (0) 0 (nI (0))) (12) (g9)) (13) ((mcuF σ i y (0)).2)) (0) 21 (nI ((mcuF σ i y (0)).1))) rfl ?_
                refine g_lp1 (α := Nat) (fun v => v ≤ mN σ i) (fun v => mN σ i - v) (fun v => G p l e _ s m args below meth c _ w A _ (sN (sI (sI (sN σ (0) 0 (nI (0))) (12) (g9)) (13) ((mcuF σ i y (v)).2)) (0) 21 (nI ((mcuF σ i y (v)).1))) 0 0 97 [(5, .int (nI (v))), (0, .ref (w.1 (0))), (1, .int (nI (i))), (2, .int (y)), (3, .int (nI (k))), (4, .int ((y) &&& (mKs σ i)))] []) (fun v hI ih => ?_) (0) (Nat.zero_le _)
                obtain hv := hI
                refine g_iload (pc9 := 99) C rfl 0 dX11_cut_97 rfl ?_
                refine g_aload_n (pc9 := 100) C rfl 1 dX11_cut_99 rfl rfl ?_
                refine g_get (v := .ref (w.1 (2))) (pc9 := 103) C rfl (0) 5 dX11_cut_100 (by decide) (ce_0 w (sN (sI (sI (sN σ (0) 0 (nI (0))) (12) (g9)) (13) ((mcuF σ i y (v)).2)) (0) 21 (nI ((mcuF σ i y (v)).1)))) hin_11 hl_17 rfl (by decide) rfl rfl ?_
                refine g_iload_n (pc9 := 104) C rfl 2 dX11_cut_103 rfl rfl ?_
                refine g_iald (x := nI (mN σ (i))) (pc9 := 105) C rfl (2) (i) dX11_cut_104 (by decide) (ce_2 w (sN (sI (sI (sN σ (0) 0 (nI (0))) (12) (g9)) (13) ((mcuF σ i y (v)).2)) (0) 21 (nI ((mcuF σ i y (v)).1)))) rfl (by omega) (by decide) ((congrFun ((((iA_N).trans (iA_n (by decide))).trans (iA_n (by decide))).trans (iA_N)) _).trans (hM i hb_i).1) ?_
                refine g_icmp_ge (pc9 := 108) C rfl 128 dX11_cut_105 rfl (fun c_18 => ?_) (fun c_18 => ?_)
                · replace c_18 := (nI_leI (by omega) (by omega)).mp c_18
                  have hvn : v = mN σ i := by omega
                  refine g_aload_n (pc9 := 129) C rfl 1 dX11_cut_128 rfl rfl ?_
                  refine g_iload_n (pc9 := 130) C rfl 4 dX11_cut_129 rfl rfl ?_
                  refine g_callVv (nn := 1) (rest := []) (pc9 := 133) C rfl (0) [.int (nI (k))] rfl dX11_cut_130 (m_X11_puts l w (sI (sN σ (0) 0 (nI (0))) (12) (g9)) (mcuF σ i y (v)) (by rw [hvn]; exact (hG i hb_i hpl hz).1) (by rw [hvn]; exact (hG i hb_i hpl hz).2) k hb_k) gX11_cut_X11_puts (by decide) (ce_0 w (sN (sI (sI (sN σ (0) 0 (nI (0))) (12) (g9)) (13) ((mcuF σ i y (v)).2)) (0) 21 (nI ((mcuF σ i y (v)).1)))) rfl rfl rfl rfl rfl (by decide +kernel) ⟨by decide, by decide⟩ rfl (Nat.le_of_ble_eq_true rfl) ⟨by decide, by decide⟩ (fun σ_19 q_19 => ?_)
                  replace q_19 : σ_19 = (puS (sI (sN σ (0) 0 (nI (0))) (12) (g9)) (mcuF σ i y (v)) k) := q_19
                  rw [q_19]
                  clear q_19
                  refine g_iload (pc9 := 135) C rfl 5 dX11_cut_133 rfl ?_
                  refine g_callSi (nn := 1) (rest := []) (pc9 := 138) C rfl [.int ((y) &&& (mKs σ i))] rfl dX11_cut_135 (m_bitCount l w _ ((y) &&& (mKs σ i))) gX11_cut_J6_bitCount_0f7a4 rfl rfl rfl (by decide +kernel) ⟨by decide, by decide⟩ rfl (Nat.le_of_ble_eq_true rfl) ⟨by decide, by decide⟩ (fun r_20 σ_20 q_20 => ?_)
                  obtain ⟨qs_20, qr_20⟩ := q_20
                  rw [qs_20, qr_20]
                  clear qs_20 qr_20
                  exact g_ireturn C hr hlk dX11_cut_138 (Or.inr ⟨i, k, hb_i, hb_k, rfl, rfl, Or.inr (Or.inr ⟨hpl, hz, ⟨g9, by rw [hvn]⟩, rfl⟩)⟩)
                · replace c_18 := (not_congr (nI_leI (by omega) (by omega))).mp c_18
                  refine g_aload_n (pc9 := 109) C rfl 1 dX11_cut_108 rfl rfl ?_
                  refine g_aload_n (pc9 := 110) C rfl 1 dX11_cut_109 rfl rfl ?_
                  refine g_get (v := .ref (w.1 (12))) (pc9 := 113) C rfl (0) 19 dX11_cut_110 (by decide) (ce_0 w (sN (sI (sI (sN σ (0) 0 (nI (0))) (12) (g9)) (13) ((mcuF σ i y (v)).2)) (0) 21 (nI ((mcuF σ i y (v)).1)))) hin_11 hl_51 rfl (by decide) rfl rfl ?_
                  refine g_iload (pc9 := 115) C rfl 0 dX11_cut_113 rfl ?_
                  refine g_iald (x := mcl σ i (v)) (pc9 := 116) C rfl (12) (v) dX11_cut_115 (by decide) (ce_12 w (sN (sI (sI (sN σ (0) 0 (nI (0))) (12) (g9)) (13) ((mcuF σ i y (v)).2)) (0) 21 (nI ((mcuF σ i y (v)).1)))) rfl (by omega) (by decide) ((congrFun (((iA_N).trans (iA_n (by decide))).trans (iA_s)) _).trans (hg9 (v) (by omega))) ?_
                  refine g_iload (pc9 := 118) C rfl 5 dX11_cut_116 rfl ?_
                  refine g_iand (pc9 := 119) C rfl dX11_cut_118 ?_
                  refine g_callVv (nn := 1) (rest := []) (pc9 := 122) C rfl (0) [.int ((mcl σ i (v)) &&& ((y) &&& (mKs σ i)))] rfl dX11_cut_119 (m_X11_adds l w (sI (sN σ (0) 0 (nI (0))) (12) (g9)) (mcuF σ i y (v)) (by have h1 : (mcuF σ i y v).1 ≤ 0 + v := maUp_le v; omega) ((mcl σ i (v)) &&& ((y) &&& (mKs σ i)))) gX11_cut_X11_adds (by decide) (ce_0 w (sN (sI (sI (sN σ (0) 0 (nI (0))) (12) (g9)) (13) ((mcuF σ i y (v)).2)) (0) 21 (nI ((mcuF σ i y (v)).1)))) rfl rfl rfl rfl rfl (by decide +kernel) ⟨by decide, by decide⟩ rfl (Nat.le_of_ble_eq_true rfl) ⟨by decide, by decide⟩ (fun σ_21 q_21 => ?_)
                  replace q_21 : σ_21 = sN (sI (sI (sN σ (0) 0 (nI (0))) (12) (g9)) (13) ((mcuF σ i y (v + 1)).2)) (0) 21 (nI ((mcuF σ i y (v + 1)).1)) := q_21
                  rw [q_21]
                  clear q_21
                  refine g_iinc (pc9 := 125) C rfl [(5, .int (nI (v + 1))), (0, .ref (w.1 (0))), (1, .int (nI (i))), (2, .int (y)), (3, .int (nI (k))), (4, .int ((y) &&& (mKs σ i)))] 0 (nI (v + 1)) dX11_cut_122 rfl (nI_1 (v)) (by decide) rfl ?_
                  refine g_goto C 97 dX11_cut_125 rfl ?_
                  exact ih (v + 1) (by omega) (by omega)
              · exact absurd c_16 (by decide)
            · have hz : y &&& mKs σ i = 0 := c_14
              refine g_iconst (pc9 := 71) C rfl (nI (1)) dX11_cut_70 rfl ?_
              refine g_goto C 75 dX11_cut_71 rfl ?_
              refine g_iconst (pc9 := 76) C rfl (nI (3)) dX11_cut_75 rfl ?_
              refine g_callVi (nn := 2) (rest := []) (pc9 := 79) C rfl (0) [.int (nI (1)), .int (nI (3))] rfl dX11_cut_76 (m_throws1 l w (sN σ (0) 0 (nI (0))) 3) gX11_cut_X11_throwsIf (by decide) (ce_0 w (sN σ (0) 0 (nI (0)))) rfl rfl rfl rfl rfl (by decide +kernel) ⟨by decide, by decide⟩ rfl (Nat.le_of_ble_eq_true rfl) ⟨by decide, by decide⟩ (fun r_22 σ_22 q_22 => ?_)
              obtain ⟨qs_22, qr_22⟩ := q_22
              rw [qr_22]
              refine g_st (σ9 := sN σ (0) 0 (nI (3))) (qs_22.trans (by show sN (sN σ (0) 0 (nI (0))) (0) 0 (nI (3)) = sN σ (0) 0 (nI (3)); rw [sN_sN])) ?_
              refine g_if_eq (pc9 := 82) C rfl 84 dX11_cut_79 rfl (fun c_23 => ?_) (fun c_23 => ?_)
              · exact absurd c_23 (by decide)
              · refine g_iconst (pc9 := 83) C rfl (nI (0)) dX11_cut_82 rfl ?_
                exact g_ireturn C hr hlk dX11_cut_83 (Or.inr ⟨i, k, hb_i, hb_k, rfl, rfl, Or.inr (Or.inl ⟨hpl, hz, rfl⟩)⟩)
          · exact absurd c_12 (by decide)
        · have hpl : ¬ mPl σ i := pI_no c_10
          refine g_iconst (pc9 := 42) C rfl (nI (1)) dX11_cut_41 rfl ?_
          refine g_goto C 46 dX11_cut_42 rfl ?_
          refine g_iconst (pc9 := 47) C rfl (nI (2)) dX11_cut_46 rfl ?_
          refine g_callVi (nn := 2) (rest := []) (pc9 := 50) C rfl (0) [.int (nI (1)), .int (nI (2))] rfl dX11_cut_47 (m_throws1 l w (sN σ (0) 0 (nI (0))) 2) gX11_cut_X11_throwsIf (by decide) (ce_0 w (sN σ (0) 0 (nI (0)))) rfl rfl rfl rfl rfl (by decide +kernel) ⟨by decide, by decide⟩ rfl (Nat.le_of_ble_eq_true rfl) ⟨by decide, by decide⟩ (fun r_24 σ_24 q_24 => ?_)
          obtain ⟨qs_24, qr_24⟩ := q_24
          rw [qr_24]
          refine g_st (σ9 := sN σ (0) 0 (nI (2))) (qs_24.trans (by show sN (sN σ (0) 0 (nI (0))) (0) 0 (nI (2)) = sN σ (0) 0 (nI (2)); rw [sN_sN])) ?_
          refine g_if_eq (pc9 := 53) C rfl 55 dX11_cut_50 rfl (fun c_25 => ?_) (fun c_25 => ?_)
          · exact absurd c_25 (by decide)
          · refine g_iconst (pc9 := 54) C rfl (nI (0)) dX11_cut_53 rfl ?_
            exact g_ireturn C hr hlk dX11_cut_54 (by first | exact Or.inl ⟨hns, rfl⟩ | exact Or.inr ⟨i, k, hb_i, hb_k, rfl, rfl, Or.inl ⟨hpl, rfl⟩⟩)
    · have hns : ¬ (okI 8 x ∧ okI 8 u) := fun h => pI_ye c_6 h.2
      refine g_iconst (pc9 := 21) C rfl (nI (1)) dX11_cut_20 rfl ?_
      refine g_goto C 25 dX11_cut_21 rfl ?_
      refine g_iconst (pc9 := 26) C rfl (nI (1)) dX11_cut_25 rfl ?_
      refine g_callVi (nn := 2) (rest := []) (pc9 := 29) C rfl (0) [.int (nI (1)), .int (nI (1))] rfl dX11_cut_26 (m_throws1 l w (sN σ (0) 0 (nI (0))) 1) gX11_cut_X11_throwsIf (by decide) (ce_0 w (sN σ (0) 0 (nI (0)))) rfl rfl rfl rfl rfl (by decide +kernel) ⟨by decide, by decide⟩ rfl (Nat.le_of_ble_eq_true rfl) ⟨by decide, by decide⟩ (fun r_26 σ_26 q_26 => ?_)
      obtain ⟨qs_26, qr_26⟩ := q_26
      rw [qr_26]
      refine g_st (σ9 := sN σ (0) 0 (nI (1))) (qs_26.trans (by show sN (sN σ (0) 0 (nI (0))) (0) 0 (nI (1)) = sN σ (0) 0 (nI (1)); rw [sN_sN])) ?_
      refine g_if_ne (pc9 := 32) C rfl 53 dX11_cut_29 rfl (fun c_27 => ?_) (fun c_27 => ?_)
      · refine g_iconst (pc9 := 54) C rfl (nI (0)) dX11_cut_53 rfl ?_
        exact g_ireturn C hr hlk dX11_cut_54 (by first | exact Or.inl ⟨hns, rfl⟩ | exact Or.inr ⟨i, k, hb_i, hb_k, rfl, rfl, Or.inl ⟨hpl, rfl⟩⟩)
      · exact absurd c_27 (by decide)

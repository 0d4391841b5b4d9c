/-! The reference: look, has, least, nearer, unlike, alike, shown -/
abbrev m12 (σ σ9 : St) : Prop := s12 (mT σ 0) σ9
/-- no shelf, or a shelf without a tree -/
def mt1 (σ : St) (x : Int32) (σ9 : St) : Prop := (¬ okI 8 x ∧ σ9 = mT σ 1) ∨ (∃ i, i < 8 ∧ x = nI i ∧ mN σ i = 0 ∧ σ9 = mT σ 2)
def mp1 (σ : St) (x : Int32) (σ9 : St) : Prop := (¬ okI 8 x ∧ σ9 = mT σ 1) ∨ (∃ i, i < 8 ∧ x = nI i ∧ ¬ mPl σ i ∧ σ9 = mT σ 2)
noncomputable def mlkR (σ : St) (i : Nat) (y : Int32) : Int32 := if y = nI 0 then nI (mLs σ i) else if y = nI 1 then nI (mN σ i) else if y = nI 2 then mKs σ i else if y = nI 3 then pI (mPl σ i) else if y = nI 4 then pI (mBi σ i) else nI (maxF (dep (mp σ i)) (mN σ i))
def mlkP (σ : St) (x y : Int32) (r : Int32) (σ9 : St) : Prop := mt1 σ x σ9 ∨ (∃ i, i < 8 ∧ x = nI i ∧ ¬ mN σ i = 0 ∧ ((¬ okI 6 y ∧ σ9 = mT σ 3) ∨ (okI 6 y ∧ σ9 = mT σ 0 ∧ r = mlkR σ i y)))
set_option maxRecDepth 100000 in
set_option maxHeartbeats 4000000 in
theorem m_X11_look (l : Launch) (w : Wd) (σ : St) (hM : ∀ i, i < 8 → mtOk σ i) (x y : Int32) : MI l yX11_look wsX11_look (rmL 3) w [.ref (w.1 (0)), .int (x), .int (y)] (σ) (mlkP σ x y) := by
  refine MI_of (cc := cX11_look) (maxL := 3) (ret := .int) (by decide) rfl (Nat.le_of_ble_eq_true rfl) ?_
  intro p e s m args below meth c A C hr hlk
  have C : Cx p s m args c w A cX11_look RX11 3 wsX11_look := C
  have hin_11 : ∀ u ∈ wsX110, u ∈ wsX11_look := by decide +kernel
  have hl_17 : Cond.fieldLink RX11 17 "LineageBenchModel" "many" "[I" ∈ wsX11_look := by decide +kernel
  have hl_107 : Cond.fieldLink RX11 107 "LineageBenchModel" "thrown" "I" ∈ wsX11_look := by decide +kernel
  refine g_aload_n (pc9 := 1) C rfl 0 dX11_look_0 rfl rfl ?_
  refine g_iconst (pc9 := 2) C rfl (nI (0)) dX11_look_1 rfl ?_
  refine g_put (pc9 := 5) C rfl (0) 0 dX11_look_2 (by decide) (ce_0 w (σ)) (rfl) hin_11 hl_107 tyX11 tyX11_ok nmX11 rfl (by decide) rfl rfl rfl (Nat.le_of_ble_eq_true rfl) ?_
  refine g_aload_n (pc9 := 6) C rfl 0 dX11_look_5 rfl rfl ?_
  refine g_iload_n (pc9 := 7) C rfl 1 dX11_look_6 rfl rfl ?_
  refine g_callSi (nn := 1) (rest := [.ref (w.1 (0))]) (pc9 := 10) C rfl [.int (x)] rfl dX11_look_7 (m_X11_noShelf l w (sN σ (0) 0 (nI (0))) x) gX11_look_X11_noShelf rfl rfl rfl (by decide +kernel) ⟨by decide, by decide⟩ rfl (Nat.le_of_ble_eq_true rfl) ⟨by decide, by decide⟩ (fun r_1 σ_1 q_1 => ?_)
  obtain ⟨qs_1, qr_1⟩ := q_1
  rw [qs_1, qr_1]
  clear qs_1 qr_1
  refine g_iconst (pc9 := 11) C rfl (nI (1)) dX11_look_10 rfl ?_
  refine g_callVi (nn := 2) (rest := []) (pc9 := 14) C rfl (0) [.int (pI (¬ okI 8 x)), .int (nI (1))] rfl dX11_look_11 (m_throwsP l w (sN σ (0) 0 (nI (0))) (¬ okI 8 x) 1) gX11_look_X11_throwsIf (by decide) (ce_0 w (sN σ (0) 0 (nI (0)))) rfl rfl rfl rfl rfl (by decide +kernel) ⟨by decide, by decide⟩ rfl (Nat.le_of_ble_eq_true rfl) ⟨by decide, by decide⟩ (fun r_2 σ_2 q_2 => ?_)
  obtain ⟨qr_2, qt_2, qf_2⟩ := q_2
  rw [qr_2]
  refine g_if_ne (pc9 := 17) C rfl 39 dX11_look_14 rfl (fun c_3 => ?_) (fun c_3 => ?_)
  · have hns : ¬ okI 8 x := pI_ye c_3
    refine g_st (σ9 := sN σ (0) 0 (nI (1))) ((qt_2 hns).trans (by show sN (sN σ (0) 0 (nI (0))) (0) 0 (nI (1)) = sN σ (0) 0 (nI (1)); rw [sN_sN])) ?_
    refine g_iconst (pc9 := 40) C rfl (nI (0)) dX11_look_39 rfl ?_
    exact g_ireturn C hr hlk dX11_look_40 (by first | exact Or.inl (Or.inl ⟨hns, rfl⟩) | exact Or.inl (Or.inr ⟨i, hb_i, rfl, hz_i, rfl⟩))
  · have hns : ¬ (¬ okI 8 x) := pI_no c_3
    rw [qf_2 hns]
    obtain ⟨i, hb_i, hx_i⟩ := Classical.not_not.mp hns
    subst hx_i
    refine g_aload_n (pc9 := 18) C rfl 0 dX11_look_17 rfl rfl ?_
    refine g_aload_n (pc9 := 19) C rfl 0 dX11_look_18 rfl rfl ?_
    refine g_get (v := .ref (w.1 (2))) (pc9 := 22) C rfl (0) 5 dX11_look_19 (by decide) (ce_0 w (sN σ (0) 0 (nI (0)))) hin_11 hl_17 rfl (by decide) rfl rfl ?_
    refine g_iload_n (pc9 := 23) C rfl 1 dX11_look_22 rfl rfl ?_
    refine g_iald (x := nI (mN σ (i))) (pc9 := 24) C rfl (2) (i) dX11_look_23 (by decide) (ce_2 w (sN σ (0) 0 (nI (0)))) rfl (by omega) (by decide) ((congrFun (iA_N) _).trans (hM i hb_i).1) ?_
    have h47_i := (hM i hb_i).2.1
    refine g_if_ne (pc9 := 27) C rfl 31 dX11_look_24 rfl (fun c_4 => ?_) (fun c_4 => ?_)
    · replace c_4 := (not_congr (z_eq (by omega))).mp c_4
      have hz_i : ¬ mN σ i = 0 := by omega
      refine g_iconst (pc9 := 32) C rfl (nI (0)) dX11_look_31 rfl ?_
      refine g_iconst (pc9 := 33) C rfl (nI (2)) dX11_look_32 rfl ?_
      refine g_callVi (nn := 2) (rest := []) (pc9 := 36) C rfl (0) [.int (nI (0)), .int (nI (2))] rfl dX11_look_33 (m_throws0 l w (sN σ (0) 0 (nI (0))) 2) gX11_look_X11_throwsIf (by decide) (ce_0 w (sN σ (0) 0 (nI (0)))) rfl rfl rfl rfl rfl (by decide +kernel) ⟨by decide, by decide⟩ rfl (Nat.le_of_ble_eq_true rfl) ⟨by decide, by decide⟩ (fun r_5 σ_5 q_5 => ?_)
      obtain ⟨qs_5, qr_5⟩ := q_5
      rw [qs_5, qr_5]
      refine g_if_eq (pc9 := 39) C rfl 41 dX11_look_36 rfl (fun c_6 => ?_) (fun c_6 => ?_)
      · refine g_iload_n (pc9 := 42) C rfl 2 dX11_look_41 rfl rfl ?_
        rcases sw_in (y) (n := 6) (by decide) with ⟨i_7, hi_7, hx_7⟩ | hx_7
        · rcases (show i_7 = 0 ∨ i_7 = 1 ∨ i_7 = 2 ∨ i_7 = 3 ∨ i_7 = 4 ∨ i_7 = 5 by omega) with h_7 | h_7 | h_7 | h_7 | h_7 | h_7
          · subst h_7
            subst hx_7
            refine g_tableIn C 80 (off := 38) dX11_look_42 (by decide) (by decide) (by decide) rfl ?_
            refine g_aload_n (pc9 := 81) C rfl 0 dX11_look_80 rfl rfl ?_
            refine g_iload_n (pc9 := 82) C rfl 1 dX11_look_81 rfl rfl ?_
            refine g_callVi (nn := 1) (rest := []) (pc9 := 85) C rfl (0) [.int (nI (i))] rfl dX11_look_82 (m_X11_leavesOf l w (mT σ 0) i hb_i (hM i hb_i)) gX11_look_X11_leavesOf (by decide) (ce_0 w (sN σ (0) 0 (nI (0)))) rfl rfl rfl rfl rfl (by decide +kernel) ⟨by decide, by decide⟩ rfl (Nat.le_of_ble_eq_true rfl) ⟨by decide, by decide⟩ (fun r_8 σ_8 q_8 => ?_)
            obtain ⟨qs_8, qr_8⟩ := q_8
            replace qr_8 : r_8 = nI (mLs σ i) := qr_8
            rw [qs_8, qr_8]
            clear qs_8 qr_8
            exact g_ireturn C hr hlk dX11_look_85 (Or.inr ⟨i, hb_i, rfl, hz_i, Or.inr ⟨⟨_, by decide, rfl⟩, rfl, rfl⟩⟩)
          · subst h_7
            subst hx_7
            refine g_tableIn C 86 (off := 44) dX11_look_42 (by decide) (by decide) (by decide) rfl ?_
            refine g_aload_n (pc9 := 87) C rfl 0 dX11_look_86 rfl rfl ?_
            refine g_get (v := .ref (w.1 (2))) (pc9 := 90) C rfl (0) 5 dX11_look_87 (by decide) (ce_0 w (sN σ (0) 0 (nI (0)))) hin_11 hl_17 rfl (by decide) rfl rfl ?_
            refine g_iload_n (pc9 := 91) C rfl 1 dX11_look_90 rfl rfl ?_
            refine g_iald (x := nI (mN σ (i))) (pc9 := 92) C rfl (2) (i) dX11_look_91 (by decide) (ce_2 w (sN σ (0) 0 (nI (0)))) rfl (by omega) (by decide) ((congrFun (iA_N) _).trans (hM i hb_i).1) ?_
            exact g_ireturn C hr hlk dX11_look_92 (Or.inr ⟨i, hb_i, rfl, hz_i, Or.inr ⟨⟨_, by decide, rfl⟩, rfl, rfl⟩⟩)
          · subst h_7
            subst hx_7
            refine g_tableIn C 93 (off := 51) dX11_look_42 (by decide) (by decide) (by decide) rfl ?_
            refine g_aload_n (pc9 := 94) C rfl 0 dX11_look_93 rfl rfl ?_
            refine g_iload_n (pc9 := 95) C rfl 1 dX11_look_94 rfl rfl ?_
            refine g_callVi (nn := 1) (rest := []) (pc9 := 98) C rfl (0) [.int (nI (i))] rfl dX11_look_95 (m_X11_kindsOf l w (mT σ 0) i hb_i (hM i hb_i)) gX11_look_X11_kindsOf (by decide) (ce_0 w (sN σ (0) 0 (nI (0)))) rfl rfl rfl rfl rfl (by decide +kernel) ⟨by decide, by decide⟩ rfl (Nat.le_of_ble_eq_true rfl) ⟨by decide, by decide⟩ (fun r_9 σ_9 q_9 => ?_)
            obtain ⟨qs_9, qr_9⟩ := q_9
            replace qr_9 : r_9 = mKs σ i := qr_9
            rw [qs_9, qr_9]
            clear qs_9 qr_9
            exact g_ireturn C hr hlk dX11_look_98 (Or.inr ⟨i, hb_i, rfl, hz_i, Or.inr ⟨⟨_, by decide, rfl⟩, rfl, rfl⟩⟩)
          · subst h_7
            subst hx_7
            refine g_tableIn C 99 (off := 57) dX11_look_42 (by decide) (by decide) (by decide) rfl ?_
            refine g_aload_n (pc9 := 100) C rfl 0 dX11_look_99 rfl rfl ?_
            refine g_iload_n (pc9 := 101) C rfl 1 dX11_look_100 rfl rfl ?_
            refine g_callVi (nn := 1) (rest := []) (pc9 := 104) C rfl (0) [.int (nI (i))] rfl dX11_look_101 (m_X11_isPlain l w (sN σ (0) 0 (nI (0))) i hb_i (hM i hb_i)) gX11_look_X11_isPlain (by decide) (ce_0 w (sN σ (0) 0 (nI (0)))) rfl rfl rfl rfl rfl (by decide +kernel) ⟨by decide, by decide⟩ rfl (Nat.le_of_ble_eq_true rfl) ⟨by decide, by decide⟩ (fun r_10 σ_10 q_10 => ?_)
            obtain ⟨qs_10, qr_10⟩ := q_10
            replace qr_10 : r_10 = pI (mPl σ i) := qr_10
            rw [qs_10, qr_10]
            clear qs_10 qr_10
            refine g_if_eq (pc9 := 107) C rfl 111 dX11_look_104 rfl (fun c_11 => ?_) (fun c_11 => ?_)
            · have hpl := pI_no c_11
              refine g_iconst (pc9 := 112) C rfl (nI (0)) dX11_look_111 rfl ?_
              exact g_ireturn C hr hlk dX11_look_112 (Or.inr ⟨i, hb_i, rfl, hz_i, Or.inr ⟨⟨_, by decide, rfl⟩, rfl, (by first | exact (pI_t hpl).symm | exact (pI_f hpl).symm)⟩⟩)
            · have hpl := pI_ye c_11
              refine g_iconst (pc9 := 108) C rfl (nI (1)) dX11_look_107 rfl ?_
              refine g_goto C 112 dX11_look_108 rfl ?_
              exact g_ireturn C hr hlk dX11_look_112 (Or.inr ⟨i, hb_i, rfl, hz_i, Or.inr ⟨⟨_, by decide, rfl⟩, rfl, (by first | exact (pI_t hpl).symm | exact (pI_f hpl).symm)⟩⟩)
          · subst h_7
            subst hx_7
            refine g_tableIn C 113 (off := 71) dX11_look_42 (by decide) (by decide) (by decide) rfl ?_
            refine g_aload_n (pc9 := 114) C rfl 0 dX11_look_113 rfl rfl ?_
            refine g_iload_n (pc9 := 115) C rfl 1 dX11_look_114 rfl rfl ?_
            refine g_callVi (nn := 1) (rest := []) (pc9 := 118) C rfl (0) [.int (nI (i))] rfl dX11_look_115 (m_X11_isBinary l w (mT σ 0) i hb_i (hM i hb_i)) gX11_look_X11_isBinary (by decide) (ce_0 w (sN σ (0) 0 (nI (0)))) rfl rfl rfl rfl rfl (by decide +kernel) ⟨by decide, by decide⟩ rfl (Nat.le_of_ble_eq_true rfl) ⟨by decide, by decide⟩ (fun r_12 σ_12 q_12 => ?_)
            obtain ⟨qs_12, qr_12⟩ := q_12
            replace qr_12 : r_12 = pI (mBi σ i) := qr_12
            rw [qs_12, qr_12]
            clear qs_12 qr_12
            refine g_if_eq (pc9 := 121) C rfl 125 dX11_look_118 rfl (fun c_13 => ?_) (fun c_13 => ?_)
            · have hpl := pI_no c_13
              refine g_iconst (pc9 := 126) C rfl (nI (0)) dX11_look_125 rfl ?_
              exact g_ireturn C hr hlk dX11_look_126 (Or.inr ⟨i, hb_i, rfl, hz_i, Or.inr ⟨⟨_, by decide, rfl⟩, rfl, (by first | exact (pI_t hpl).symm | exact (pI_f hpl).symm)⟩⟩)
            · have hpl := pI_ye c_13
              refine g_iconst (pc9 := 122) C rfl (nI (1)) dX11_look_121 rfl ?_
              refine g_goto C 126 dX11_look_122 rfl ?_
              exact g_ireturn C hr hlk dX11_look_126 (Or.inr ⟨i, hb_i, rfl, hz_i, Or.inr ⟨⟨_, by decide, rfl⟩, rfl, (by first | exact (pI_t hpl).symm | exact (pI_f hpl).symm)⟩⟩)
          · subst h_7
            subst hx_7
            refine g_tableIn C 127 (off := 85) dX11_look_42 (by decide) (by decide) (by decide) rfl ?_
            refine g_aload_n (pc9 := 128) C rfl 0 dX11_look_127 rfl rfl ?_
            refine g_iload_n (pc9 := 129) C rfl 1 dX11_look_128 rfl rfl ?_
            refine g_callVi (nn := 1) (rest := []) (pc9 := 132) C rfl (0) [.int (nI (i))] rfl dX11_look_129 (m_X11_deep l w (mT σ 0) i hb_i (hM i hb_i)) gX11_look_X11_deep (by decide) (ce_0 w (sN σ (0) 0 (nI (0)))) rfl rfl rfl rfl rfl (by decide +kernel) ⟨by decide, by decide⟩ rfl (Nat.le_of_ble_eq_true rfl) ⟨by decide, by decide⟩ (fun r_14 σ_14 q_14 => ?_)
            obtain ⟨qs_14, qr_14⟩ := q_14
            replace qr_14 : r_14 = nI (maxF (dep (mp σ i)) (mN σ i)) := qr_14
            rw [qs_14, qr_14]
            clear qs_14 qr_14
            exact g_ireturn C hr hlk dX11_look_132 (Or.inr ⟨i, hb_i, rfl, hz_i, Or.inr ⟨⟨_, by decide, rfl⟩, rfl, rfl⟩⟩)
        · refine g_tableOut C 133 dX11_look_42 hx_7 rfl ?_
          have ho : ∀ i, i < 6 → ¬ y = nI i := fun i hi => sw_no (n := 6) hx_7 hi (by decide)
          refine g_aload_n (pc9 := 134) C rfl 0 dX11_look_133 rfl rfl ?_
          refine g_iconst (pc9 := 135) C rfl (nI (3)) dX11_look_134 rfl ?_
          refine g_put (pc9 := 138) C rfl (0) 0 dX11_look_135 (by decide) (ce_0 w (sN σ (0) 0 (nI (0)))) (rfl) hin_11 hl_107 tyX11 tyX11_ok nmX11 rfl (by decide) rfl rfl rfl (Nat.le_of_ble_eq_true rfl) ?_
          rw [sN_sN]
          refine g_iconst (pc9 := 139) C rfl (nI (0)) dX11_look_138 rfl ?_
          exact g_ireturn C hr hlk dX11_look_139 (Or.inr ⟨i, hb_i, rfl, hz_i, Or.inl ⟨fun ⟨k, hk, hy⟩ => ho k hk hy, rfl⟩⟩)
      · exact absurd c_6 (by decide)
    · replace c_4 := (z_eq (by omega)).mp c_4
      have hz_i : mN σ i = 0 := by omega
      refine g_iconst (pc9 := 28) C rfl (nI (1)) dX11_look_27 rfl ?_
      refine g_goto C 32 dX11_look_28 rfl ?_
      refine g_iconst (pc9 := 33) C rfl (nI (2)) dX11_look_32 rfl ?_
      refine g_callVi (nn := 2) (rest := []) (pc9 := 36) C rfl (0) [.int (nI (1)), .int (nI (2))] rfl dX11_look_33 (m_throws1 l w (sN σ (0) 0 (nI (0))) 2) gX11_look_X11_throwsIf (by decide) (ce_0 w (sN σ (0) 0 (nI (0)))) rfl rfl rfl rfl rfl (by decide +kernel) ⟨by decide, by decide⟩ rfl (Nat.le_of_ble_eq_true rfl) ⟨by decide, by decide⟩ (fun r_15 σ_15 q_15 => ?_)
      obtain ⟨qs_15, qr_15⟩ := q_15
      rw [qr_15]
      refine g_st (σ9 := sN σ (0) 0 (nI (2))) (qs_15.trans (by show sN (sN σ (0) 0 (nI (0))) (0) 0 (nI (2)) = sN σ (0) 0 (nI (2)); rw [sN_sN])) ?_
      refine g_if_eq (pc9 := 39) C rfl 41 dX11_look_36 rfl (fun c_16 => ?_) (fun c_16 => ?_)
      · exact absurd c_16 (by decide)
      · refine g_iconst (pc9 := 40) C rfl (nI (0)) dX11_look_39 rfl ?_
        exact g_ireturn C hr hlk dX11_look_40 (by first | exact Or.inl (Or.inl ⟨hns, rfl⟩) | exact Or.inl (Or.inr ⟨i, hb_i, rfl, hz_i, rfl⟩))
set_option maxRecDepth 100000 in
set_option maxHeartbeats 4000000 in
theorem m_X11_has (l : Launch) (w : Wd) (σ : St) (hM : ∀ i, i < 8 → mtOk σ i) (x y : Int32) : MI l yX11_has wsX11_has (rmL 3) w [.ref (w.1 (0)), .int (x), .int (y)] (σ) (fun r σ9 => mp1 σ x σ9 ∨ (∃ i, i < 8 ∧ x = nI i ∧ mPl σ i ∧ m12 σ σ9 ∧ r = pI (mHas σ i y))) := by
  refine MI_of (cc := cX11_has) (maxL := 3) (ret := .boolean) (by decide) rfl (Nat.le_of_ble_eq_true rfl) ?_
  intro p e s m args below meth c A C hr hlk
  have C : Cx p s m args c w A cX11_has RX11 3 wsX11_has := C
  have hin_11 : ∀ u ∈ wsX110, u ∈ wsX11_has := by decide +kernel
  have hl_107 : Cond.fieldLink RX11 107 "LineageBenchModel" "thrown" "I" ∈ wsX11_has := by decide +kernel
  refine g_aload_n (pc9 := 1) C rfl 0 dX11_has_0 rfl rfl ?_
  refine g_iconst (pc9 := 2) C rfl (nI (0)) dX11_has_1 rfl ?_
  refine g_put (pc9 := 5) C rfl (0) 0 dX11_has_2 (by decide) (ce_0 w (σ)) (rfl) hin_11 hl_107 tyX11 tyX11_ok nmX11 rfl (by decide) rfl rfl rfl (Nat.le_of_ble_eq_true rfl) ?_
  refine g_aload_n (pc9 := 6) C rfl 0 dX11_has_5 rfl rfl ?_
  refine g_iload_n (pc9 := 7) C rfl 1 dX11_has_6 rfl rfl ?_
  refine g_callSi (nn := 1) (rest := [.ref (w.1 (0))]) (pc9 := 10) C rfl [.int (x)] rfl dX11_has_7 (m_X11_noShelf l w (sN σ (0) 0 (nI (0))) x) gX11_has_X11_noShelf rfl rfl rfl (by decide +kernel) ⟨by decide, by decide⟩ rfl (Nat.le_of_ble_eq_true rfl) ⟨by decide, by decide⟩ (fun r_1 σ_1 q_1 => ?_)
  obtain ⟨qs_1, qr_1⟩ := q_1
  rw [qs_1, qr_1]
  clear qs_1 qr_1
  refine g_iconst (pc9 := 11) C rfl (nI (1)) dX11_has_10 rfl ?_
  refine g_callVi (nn := 2) (rest := []) (pc9 := 14) C rfl (0) [.int (pI (¬ okI 8 x)), .int (nI (1))] rfl dX11_has_11 (m_throwsP l w (sN σ (0) 0 (nI (0))) (¬ okI 8 x) 1) gX11_has_X11_throwsIf (by decide) (ce_0 w (sN σ (0) 0 (nI (0)))) rfl rfl rfl rfl rfl (by decide +kernel) ⟨by decide, by decide⟩ rfl (Nat.le_of_ble_eq_true rfl) ⟨by decide, by decide⟩ (fun r_2 σ_2 q_2 => ?_)
  obtain ⟨qr_2, qt_2, qf_2⟩ := q_2
  rw [qr_2]
  refine g_if_ne (pc9 := 17) C rfl 38 dX11_has_14 rfl (fun c_3 => ?_) (fun c_3 => ?_)
  · have hns : ¬ okI 8 x := pI_ye c_3
    refine g_st (σ9 := sN σ (0) 0 (nI (1))) ((qt_2 hns).trans (by show sN (sN σ (0) 0 (nI (0))) (0) 0 (nI (1)) = sN σ (0) 0 (nI (1)); rw [sN_sN])) ?_
    refine g_iconst (pc9 := 39) C rfl (nI (0)) dX11_has_38 rfl ?_
    exact g_zreturn C hr hlk dX11_has_39 (by decide) (by first | exact Or.inl (Or.inl ⟨hns, rfl⟩) | exact Or.inl (Or.inr ⟨i, hb_i, rfl, hpl, rfl⟩))
  · have hns : ¬ (¬ okI 8 x) := pI_no c_3
    rw [qf_2 hns]
    obtain ⟨i, hb_i, hx_i⟩ := Classical.not_not.mp hns
    subst hx_i
    refine g_aload_n (pc9 := 18) C rfl 0 dX11_has_17 rfl rfl ?_
    refine g_aload_n (pc9 := 19) C rfl 0 dX11_has_18 rfl rfl ?_
    refine g_iload_n (pc9 := 20) C rfl 1 dX11_has_19 rfl rfl ?_
    refine g_callVi (nn := 1) (rest := [.ref (w.1 (0))]) (pc9 := 23) C rfl (0) [.int (nI (i))] rfl dX11_has_20 (m_X11_isPlain l w (sN σ (0) 0 (nI (0))) i hb_i (hM i hb_i)) gX11_has_X11_isPlain (by decide) (ce_0 w (sN σ (0) 0 (nI (0)))) rfl rfl rfl rfl rfl (by decide +kernel) ⟨by decide, by decide⟩ rfl (Nat.le_of_ble_eq_true rfl) ⟨by decide, by decide⟩ (fun r_4 σ_4 q_4 => ?_)
    obtain ⟨qs_4, qr_4⟩ := q_4
    replace qr_4 : r_4 = pI (mPl σ i) := qr_4
    rw [qs_4, qr_4]
    clear qs_4 qr_4
    refine g_if_ne (pc9 := 26) C rfl 30 dX11_has_23 rfl (fun c_5 => ?_) (fun c_5 => ?_)
    · have hpl : mPl σ i := pI_ye c_5
      refine g_iconst (pc9 := 31) C rfl (nI (0)) dX11_has_30 rfl ?_
      refine g_iconst (pc9 := 32) C rfl (nI (2)) dX11_has_31 rfl ?_
      refine g_callVi (nn := 2) (rest := []) (pc9 := 35) C rfl (0) [.int (nI (0)), .int (nI (2))] rfl dX11_has_32 (m_throws0 l w (sN σ (0) 0 (nI (0))) 2) gX11_has_X11_throwsIf (by decide) (ce_0 w (sN σ (0) 0 (nI (0)))) rfl rfl rfl rfl rfl (by decide +kernel) ⟨by decide, by decide⟩ rfl (Nat.le_of_ble_eq_true rfl) ⟨by decide, by decide⟩ (fun r_6 σ_6 q_6 => ?_)
      obtain ⟨qs_6, qr_6⟩ := q_6
      rw [qs_6, qr_6]
      refine g_if_eq (pc9 := 38) C rfl 40 dX11_has_35 rfl (fun c_7 => ?_) (fun c_7 => ?_)
      · refine g_aload_n (pc9 := 41) C rfl 0 dX11_has_40 rfl rfl ?_
        refine g_iload_n (pc9 := 42) C rfl 1 dX11_has_41 rfl rfl ?_
        refine g_iload_n (pc9 := 43) C rfl 2 dX11_has_42 rfl rfl ?_
        refine g_callVi (nn := 2) (rest := []) (pc9 := 46) C rfl (0) [.int (nI (i)), .int (y)] rfl dX11_has_43 (m_hasC l w (mT σ 0) i hb_i (hM i hb_i) hpl.1 y) gX11_has_X11_hasCluster (by decide) (ce_0 w (sN σ (0) 0 (nI (0)))) rfl rfl rfl rfl rfl (by decide +kernel) ⟨by decide, by decide⟩ rfl (Nat.le_of_ble_eq_true rfl) ⟨by decide, by decide⟩ (fun r_8 σ_8 q_8 => ?_)
        obtain ⟨g9, qs_8, qr_8⟩ := q_8
        replace qr_8 : r_8 = pI (mHas σ i y) := qr_8
        rw [qs_8, qr_8]
        exact g_zreturn C hr hlk dX11_has_46 (pI_01 _) (Or.inr ⟨i, hb_i, rfl, hpl, ⟨g9, rfl⟩, rfl⟩)
      · exact absurd c_7 (by decide)
    · have hpl : ¬ mPl σ i := pI_no c_5
      refine g_iconst (pc9 := 27) C rfl (nI (1)) dX11_has_26 rfl ?_
      refine g_goto C 31 dX11_has_27 rfl ?_
      refine g_iconst (pc9 := 32) C rfl (nI (2)) dX11_has_31 rfl ?_
      refine g_callVi (nn := 2) (rest := []) (pc9 := 35) C rfl (0) [.int (nI (1)), .int (nI (2))] rfl dX11_has_32 (m_throws1 l w (sN σ (0) 0 (nI (0))) 2) gX11_has_X11_throwsIf (by decide) (ce_0 w (sN σ (0) 0 (nI (0)))) rfl rfl rfl rfl rfl (by decide +kernel) ⟨by decide, by decide⟩ rfl (Nat.le_of_ble_eq_true rfl) ⟨by decide, by decide⟩ (fun r_9 σ_9 q_9 => ?_)
      obtain ⟨qs_9, qr_9⟩ := q_9
      rw [qr_9]
      refine g_st (σ9 := sN σ (0) 0 (nI (2))) (qs_9.trans (by show sN (sN σ (0) 0 (nI (0))) (0) 0 (nI (2)) = sN σ (0) 0 (nI (2)); rw [sN_sN])) ?_
      refine g_if_eq (pc9 := 38) C rfl 40 dX11_has_35 rfl (fun c_10 => ?_) (fun c_10 => ?_)
      · exact absurd c_10 (by decide)
      · refine g_iconst (pc9 := 39) C rfl (nI (0)) dX11_has_38 rfl ?_
        exact g_zreturn C hr hlk dX11_has_39 (by decide) (by first | exact Or.inl (Or.inl ⟨hns, rfl⟩) | exact Or.inl (Or.inr ⟨i, hb_i, rfl, hpl, rfl⟩))
set_option maxRecDepth 100000 in
set_option maxHeartbeats 4000000 in
theorem m_X11_least (l : Launch) (w : Wd) (σ : St) (hM : ∀ i, i < 8 → mtOk σ i) (x y : Int32) : MI l yX11_least wsX11_least (rmL 3) w [.ref (w.1 (0)), .int (x), .int (y)] (σ) (fun r σ9 => mp1 σ x σ9 ∨ (∃ i, i < 8 ∧ x = nI i ∧ mPl σ i ∧ m12 σ σ9 ∧ r = if y = 0 then -1 else mLo σ i y)) := by
  refine MI_of (cc := cX11_least) (maxL := 3) (ret := .int) (by decide) rfl (Nat.le_of_ble_eq_true rfl) ?_
  intro p e s m args below meth c A C hr hlk
  have C : Cx p s m args c w A cX11_least RX11 3 wsX11_least := C
  have hin_11 : ∀ u ∈ wsX110, u ∈ wsX11_least := by decide +kernel
  have hl_107 : Cond.fieldLink RX11 107 "LineageBenchModel" "thrown" "I" ∈ wsX11_least := by decide +kernel
  refine g_aload_n (pc9 := 1) C rfl 0 dX11_least_0 rfl rfl ?_
  refine g_iconst (pc9 := 2) C rfl (nI (0)) dX11_least_1 rfl ?_
  refine g_put (pc9 := 5) C rfl (0) 0 dX11_least_2 (by decide) (ce_0 w (σ)) (rfl) hin_11 hl_107 tyX11 tyX11_ok nmX11 rfl (by decide) rfl rfl rfl (Nat.le_of_ble_eq_true rfl) ?_
  refine g_aload_n (pc9 := 6) C rfl 0 dX11_least_5 rfl rfl ?_
  refine g_iload_n (pc9 := 7) C rfl 1 dX11_least_6 rfl rfl ?_
  refine g_callSi (nn := 1) (rest := [.ref (w.1 (0))]) (pc9 := 10) C rfl [.int (x)] rfl dX11_least_7 (m_X11_noShelf l w (sN σ (0) 0 (nI (0))) x) gX11_least_X11_noShelf rfl rfl rfl (by decide +kernel) ⟨by decide, by decide⟩ rfl (Nat.le_of_ble_eq_true rfl) ⟨by decide, by decide⟩ (fun r_1 σ_1 q_1 => ?_)
  obtain ⟨qs_1, qr_1⟩ := q_1
  rw [qs_1, qr_1]
  clear qs_1 qr_1
  refine g_iconst (pc9 := 11) C rfl (nI (1)) dX11_least_10 rfl ?_
  refine g_callVi (nn := 2) (rest := []) (pc9 := 14) C rfl (0) [.int (pI (¬ okI 8 x)), .int (nI (1))] rfl dX11_least_11 (m_throwsP l w (sN σ (0) 0 (nI (0))) (¬ okI 8 x) 1) gX11_least_X11_throwsIf (by decide) (ce_0 w (sN σ (0) 0 (nI (0)))) rfl rfl rfl rfl rfl (by decide +kernel) ⟨by decide, by decide⟩ rfl (Nat.le_of_ble_eq_true rfl) ⟨by decide, by decide⟩ (fun r_2 σ_2 q_2 => ?_)
  obtain ⟨qr_2, qt_2, qf_2⟩ := q_2
  rw [qr_2]
  refine g_if_ne (pc9 := 17) C rfl 38 dX11_least_14 rfl (fun c_3 => ?_) (fun c_3 => ?_)
  · have hns : ¬ okI 8 x := pI_ye c_3
    refine g_st (σ9 := sN σ (0) 0 (nI (1))) ((qt_2 hns).trans (by show sN (sN σ (0) 0 (nI (0))) (0) 0 (nI (1)) = sN σ (0) 0 (nI (1)); rw [sN_sN])) ?_
    refine g_iconst (pc9 := 39) C rfl (nI (0)) dX11_least_38 rfl ?_
    exact g_ireturn C hr hlk dX11_least_39 (by first | exact Or.inl (Or.inl ⟨hns, rfl⟩) | exact Or.inl (Or.inr ⟨i, hb_i, rfl, hpl, rfl⟩))
  · have hns : ¬ (¬ okI 8 x) := pI_no c_3
    rw [qf_2 hns]
    obtain ⟨i, hb_i, hx_i⟩ := Classical.not_not.mp hns
    subst hx_i
    refine g_aload_n (pc9 := 18) C rfl 0 dX11_least_17 rfl rfl ?_
    refine g_aload_n (pc9 := 19) C rfl 0 dX11_least_18 rfl rfl ?_
    refine g_iload_n (pc9 := 20) C rfl 1 dX11_least_19 rfl rfl ?_
    refine g_callVi (nn := 1) (rest := [.ref (w.1 (0))]) (pc9 := 23) C rfl (0) [.int (nI (i))] rfl dX11_least_20 (m_X11_isPlain l w (sN σ (0) 0 (nI (0))) i hb_i (hM i hb_i)) gX11_least_X11_isPlain (by decide) (ce_0 w (sN σ (0) 0 (nI (0)))) rfl rfl rfl rfl rfl (by decide +kernel) ⟨by decide, by decide⟩ rfl (Nat.le_of_ble_eq_true rfl) ⟨by decide, by decide⟩ (fun r_4 σ_4 q_4 => ?_)
    obtain ⟨qs_4, qr_4⟩ := q_4
    replace qr_4 : r_4 = pI (mPl σ i) := qr_4
    rw [qs_4, qr_4]
    clear qs_4 qr_4
    refine g_if_ne (pc9 := 26) C rfl 30 dX11_least_23 rfl (fun c_5 => ?_) (fun c_5 => ?_)
    · have hpl : mPl σ i := pI_ye c_5
      refine g_iconst (pc9 := 31) C rfl (nI (0)) dX11_least_30 rfl ?_
      refine g_iconst (pc9 := 32) C rfl (nI (2)) dX11_least_31 rfl ?_
      refine g_callVi (nn := 2) (rest := []) (pc9 := 35) C rfl (0) [.int (nI (0)), .int (nI (2))] rfl dX11_least_32 (m_throws0 l w (sN σ (0) 0 (nI (0))) 2) gX11_least_X11_throwsIf (by decide) (ce_0 w (sN σ (0) 0 (nI (0)))) rfl rfl rfl rfl rfl (by decide +kernel) ⟨by decide, by decide⟩ rfl (Nat.le_of_ble_eq_true rfl) ⟨by decide, by decide⟩ (fun r_6 σ_6 q_6 => ?_)
      obtain ⟨qs_6, qr_6⟩ := q_6
      rw [qs_6, qr_6]
      refine g_if_eq (pc9 := 38) C rfl 40 dX11_least_35 rfl (fun c_7 => ?_) (fun c_7 => ?_)
      · refine g_iload_n (pc9 := 41) C rfl 2 dX11_least_40 rfl rfl ?_
        refine g_if_ne (pc9 := 44) C rfl 48 dX11_least_41 rfl (fun c_8 => ?_) (fun c_8 => ?_)
        · have hy0 : ¬ y = 0 := c_8
          refine g_aload_n (pc9 := 49) C rfl 0 dX11_least_48 rfl rfl ?_
          refine g_iload_n (pc9 := 50) C rfl 1 dX11_least_49 rfl rfl ?_
          refine g_iload_n (pc9 := 51) C rfl 2 dX11_least_50 rfl rfl ?_
          refine g_callVi (nn := 2) (rest := []) (pc9 := 54) C rfl (0) [.int (nI (i)), .int (y)] rfl dX11_least_51 (m_X11_leastOf l w (mT σ 0) i hb_i (hM i hb_i) hpl.1 y) gX11_least_X11_leastOf (by decide) (ce_0 w (sN σ (0) 0 (nI (0)))) rfl rfl rfl rfl rfl (by decide +kernel) ⟨by decide, by decide⟩ rfl (Nat.le_of_ble_eq_true rfl) ⟨by decide, by decide⟩ (fun r_9 σ_9 q_9 => ?_)
          obtain ⟨g9, qs_9, qr_9⟩ := q_9
          replace qr_9 : r_9 = mLo σ i y := qr_9
          rw [qs_9, qr_9]
          exact g_ireturn C hr hlk dX11_least_54 (Or.inr ⟨i, hb_i, rfl, hpl, by first | exact ⟨g9, rfl⟩ | exact s12_r, by first | exact (if_pos hy0).symm | exact (if_neg hy0).symm⟩)
        · have hy0 : y = 0 := c_8
          refine g_iconst (pc9 := 45) C rfl ((-1)) dX11_least_44 rfl ?_
          refine g_goto C 54 dX11_least_45 rfl ?_
          exact g_ireturn C hr hlk dX11_least_54 (Or.inr ⟨i, hb_i, rfl, hpl, by first | exact ⟨g9, rfl⟩ | exact s12_r, by first | exact (if_pos hy0).symm | exact (if_neg hy0).symm⟩)
      · exact absurd c_7 (by decide)
    · have hpl : ¬ mPl σ i := pI_no c_5
      refine g_iconst (pc9 := 27) C rfl (nI (1)) dX11_least_26 rfl ?_
      refine g_goto C 31 dX11_least_27 rfl ?_
      refine g_iconst (pc9 := 32) C rfl (nI (2)) dX11_least_31 rfl ?_
      refine g_callVi (nn := 2) (rest := []) (pc9 := 35) C rfl (0) [.int (nI (1)), .int (nI (2))] rfl dX11_least_32 (m_throws1 l w (sN σ (0) 0 (nI (0))) 2) gX11_least_X11_throwsIf (by decide) (ce_0 w (sN σ (0) 0 (nI (0)))) rfl rfl rfl rfl rfl (by decide +kernel) ⟨by decide, by decide⟩ rfl (Nat.le_of_ble_eq_true rfl) ⟨by decide, by decide⟩ (fun r_10 σ_10 q_10 => ?_)
      obtain ⟨qs_10, qr_10⟩ := q_10
      rw [qr_10]
      refine g_st (σ9 := sN σ (0) 0 (nI (2))) (qs_10.trans (by show sN (sN σ (0) 0 (nI (0))) (0) 0 (nI (2)) = sN σ (0) 0 (nI (2)); rw [sN_sN])) ?_
      refine g_if_eq (pc9 := 38) C rfl 40 dX11_least_35 rfl (fun c_11 => ?_) (fun c_11 => ?_)
      · exact absurd c_11 (by decide)
      · refine g_iconst (pc9 := 39) C rfl (nI (0)) dX11_least_38 rfl ?_
        exact g_ireturn C hr hlk dX11_least_39 (by first | exact Or.inl (Or.inl ⟨hns, rfl⟩) | exact Or.inl (Or.inr ⟨i, hb_i, rfl, hpl, rfl⟩))
set_option maxRecDepth 100000 in
set_option maxHeartbeats 4000000 in
theorem m_X11_shown (l : Launch) (w : Wd) (σ : St) (hM : ∀ i, i < 8 → mtOk σ i) (z : Nat) (hz : nF σ 0 11 = nI z) (h80 : z ≤ 80) (TA TB TD9 : Nat → Nat) (hTr : ∀ t, t < z → iA σ 5 t = nI (TA t) ∧ iA σ 6 t = nI (TB t) ∧ iA σ 7 t = nI (TD9 t) ∧ TA t < 12 ∧ TB t < 12 ∧ TD9 t < 12) (x : Int32) : MI l yX11_shown wsX11_shown (rmL 4) w [.ref (w.1 (0)), .int (x)] (σ) (fun r σ9 => mp1 σ x σ9 ∨ (∃ i, i < 8 ∧ x = nI i ∧ mPl σ i ∧ m12 σ σ9 ∧ r = nI (cntU (fun t => msP σ i (TA t) (TB t) (TD9 t)) z))) := by
  refine MI_of (cc := cX11_shown) (maxL := 4) (ret := .int) (by decide) rfl (Nat.le_of_ble_eq_true rfl) ?_
  intro p e s m args below meth c A C hr hlk
  have C : Cx p s m args c w A cX11_shown RX11 4 wsX11_shown := C
  have hin_11 : ∀ u ∈ wsX110, u ∈ wsX11_shown := by decide +kernel
  have hl_27 : Cond.fieldLink RX11 27 "LineageBenchModel" "tripleA" "[I" ∈ wsX11_shown := by decide +kernel
  have hl_30 : Cond.fieldLink RX11 30 "LineageBenchModel" "tripleB" "[I" ∈ wsX11_shown := by decide +kernel
  have hl_33 : Cond.fieldLink RX11 33 "LineageBenchModel" "tripleC" "[I" ∈ wsX11_shown := by decide +kernel
  have hl_107 : Cond.fieldLink RX11 107 "LineageBenchModel" "thrown" "I" ∈ wsX11_shown := by decide +kernel
  have hl_222 : Cond.fieldLink RX11 222 "LineageBenchModel" "triples" "I" ∈ wsX11_shown := by decide +kernel
  refine g_aload_n (pc9 := 1) C rfl 0 dX11_shown_0 rfl rfl ?_
  refine g_iconst (pc9 := 2) C rfl (nI (0)) dX11_shown_1 rfl ?_
  refine g_put (pc9 := 5) C rfl (0) 0 dX11_shown_2 (by decide) (ce_0 w (σ)) (rfl) hin_11 hl_107 tyX11 tyX11_ok nmX11 rfl (by decide) rfl rfl rfl (Nat.le_of_ble_eq_true rfl) ?_
  refine g_aload_n (pc9 := 6) C rfl 0 dX11_shown_5 rfl rfl ?_
  refine g_iload_n (pc9 := 7) C rfl 1 dX11_shown_6 rfl rfl ?_
  refine g_callSi (nn := 1) (rest := [.ref (w.1 (0))]) (pc9 := 10) C rfl [.int (x)] rfl dX11_shown_7 (m_X11_noShelf l w (sN σ (0) 0 (nI (0))) x) gX11_shown_X11_noShelf rfl rfl rfl (by decide +kernel) ⟨by decide, by decide⟩ rfl (Nat.le_of_ble_eq_true rfl) ⟨by decide, by decide⟩ (fun r_1 σ_1 q_1 => ?_)
  obtain ⟨qs_1, qr_1⟩ := q_1
  rw [qs_1, qr_1]
  clear qs_1 qr_1
  refine g_iconst (pc9 := 11) C rfl (nI (1)) dX11_shown_10 rfl ?_
  refine g_callVi (nn := 2) (rest := []) (pc9 := 14) C rfl (0) [.int (pI (¬ okI 8 x)), .int (nI (1))] rfl dX11_shown_11 (m_throwsP l w (sN σ (0) 0 (nI (0))) (¬ okI 8 x) 1) gX11_shown_X11_throwsIf (by decide) (ce_0 w (sN σ (0) 0 (nI (0)))) rfl rfl rfl rfl rfl (by decide +kernel) ⟨by decide, by decide⟩ rfl (Nat.le_of_ble_eq_true rfl) ⟨by decide, by decide⟩ (fun r_2 σ_2 q_2 => ?_)
  obtain ⟨qr_2, qt_2, qf_2⟩ := q_2
  rw [qr_2]
  refine g_if_ne (pc9 := 17) C rfl 38 dX11_shown_14 rfl (fun c_3 => ?_) (fun c_3 => ?_)
  · have hns : ¬ okI 8 x := pI_ye c_3
    refine g_st (σ9 := sN σ (0) 0 (nI (1))) ((qt_2 hns).trans (by show sN (sN σ (0) 0 (nI (0))) (0) 0 (nI (1)) = sN σ (0) 0 (nI (1)); rw [sN_sN])) ?_
    refine g_iconst (pc9 := 39) C rfl (nI (0)) dX11_shown_38 rfl ?_
    exact g_ireturn C hr hlk dX11_shown_39 (by first | exact Or.inl (Or.inl ⟨hns, rfl⟩) | exact Or.inl (Or.inr ⟨i, hb_i, rfl, hpl, rfl⟩))
  · have hns : ¬ (¬ okI 8 x) := pI_no c_3
    rw [qf_2 hns]
    obtain ⟨i, hb_i, hx_i⟩ := Classical.not_not.mp hns
    subst hx_i
    refine g_aload_n (pc9 := 18) C rfl 0 dX11_shown_17 rfl rfl ?_
    refine g_aload_n (pc9 := 19) C rfl 0 dX11_shown_18 rfl rfl ?_
    refine g_iload_n (pc9 := 20) C rfl 1 dX11_shown_19 rfl rfl ?_
    refine g_callVi (nn := 1) (rest := [.ref (w.1 (0))]) (pc9 := 23) C rfl (0) [.int (nI (i))] rfl dX11_shown_20 (m_X11_isPlain l w (sN σ (0) 0 (nI (0))) i hb_i (hM i hb_i)) gX11_shown_X11_isPlain (by decide) (ce_0 w (sN σ (0) 0 (nI (0)))) rfl rfl rfl rfl rfl (by decide +kernel) ⟨by decide, by decide⟩ rfl (Nat.le_of_ble_eq_true rfl) ⟨by decide, by decide⟩ (fun r_4 σ_4 q_4 => ?_)
    obtain ⟨qs_4, qr_4⟩ := q_4
    replace qr_4 : r_4 = pI (mPl σ i) := qr_4
    rw [qs_4, qr_4]
    clear qs_4 qr_4
    refine g_if_ne (pc9 := 26) C rfl 30 dX11_shown_23 rfl (fun c_5 => ?_) (fun c_5 => ?_)
    · have hpl : mPl σ i := pI_ye c_5
      refine g_iconst (pc9 := 31) C rfl (nI (0)) dX11_shown_30 rfl ?_
      refine g_iconst (pc9 := 32) C rfl (nI (2)) dX11_shown_31 rfl ?_
      refine g_callVi (nn := 2) (rest := []) (pc9 := 35) C rfl (0) [.int (nI (0)), .int (nI (2))] rfl dX11_shown_32 (m_throws0 l w (sN σ (0) 0 (nI (0))) 2) gX11_shown_X11_throwsIf (by decide) (ce_0 w (sN σ (0) 0 (nI (0)))) rfl rfl rfl rfl rfl (by decide +kernel) ⟨by decide, by decide⟩ rfl (Nat.le_of_ble_eq_true rfl) ⟨by decide, by decide⟩ (fun r_6 σ_6 q_6 => ?_)
      obtain ⟨qs_6, qr_6⟩ := q_6
      rw [qs_6, qr_6]
      refine g_if_eq (pc9 := 38) C rfl 40 dX11_shown_35 rfl (fun c_7 => ?_) (fun c_7 => ?_)
      · refine g_iconst (pc9 := 41) C rfl (nI (0)) dX11_shown_40 rfl ?_
        refine g_istore_n (pc9 := 42) C rfl [(2, .int (nI (0))), (0, .ref (w.1 (0))), (1, .int (nI (i)))] dX11_shown_41 rfl (by decide) rfl ?_
        refine g_iconst (pc9 := 43) C rfl (nI (0)) dX11_shown_42 rfl ?_
        refine g_istore_n (pc9 := 44) C rfl [(3, .int (nI (0))), (2, .int (nI (0))), (0, .ref (w.1 (0))), (1, .int (nI (i)))] dX11_shown_43 rfl (by decide) rfl ?_
        refine g_sub [0, 1, 2, 3] [(3, .int (nI (0))), (2, .int (nI (0))), (0, .ref (w.1 (0))), (1, .int (nI (i)))] rfl ?_
        refine g_st (σ9 := sI (mT σ 0) 12 (iA σ 12)) (show sI (mT σ 0) 12 (iA (mT σ 0) 12) = mT σ 0 from sI_self).symm ?_
        refine g_lp2 (α := Nat) (β := Nat → Int32) (fun t g9 => t ≤ z) (fun t g9 => z - t) (fun t g9 => G p l e _ s m args below meth c _ w A _ (sI (sN σ (0) 0 (nI (0))) (12) (g9)) 0 0 44 [(3, .int (nI (t))), (2, .int (nI (cntU (fun t => msP σ i (TA t) (TB t) (TD9 t)) t))), (0, .ref (w.1 (0))), (1, .int (nI (i)))] []) (fun t g9 hI ih => ?_) (0) (iA σ 12) (Nat.zero_le _)
        obtain ht := hI
        have hcn := cntU_le (q := (fun t => msP σ i (TA t) (TB t) (TD9 t))) t
        refine g_iload_n (pc9 := 45) C rfl 0 dX11_shown_44 rfl rfl ?_
        refine g_aload_n (pc9 := 46) C rfl 2 dX11_shown_45 rfl rfl ?_
        refine g_get (v := .int (nI (z))) (pc9 := 49) C rfl (0) 11 dX11_shown_46 (by decide) (ce_0 w (sI (sN σ (0) 0 (nI (0))) (12) (g9))) hin_11 hl_222 rfl (by decide) rfl (congrArg (fun z => some (Value.int z)) (((nF_I).trans (nF_k (k := 0) (k9 := 11) (by decide))).trans hz)) ?_
        refine g_icmp_ge (pc9 := 52) C rfl 92 dX11_shown_49 rfl (fun c_8 => ?_) (fun c_8 => ?_)
        · replace c_8 := (nI_leI (by omega) (by omega)).mp c_8
          refine g_iload_n (pc9 := 93) C rfl 1 dX11_shown_92 rfl rfl ?_
          exact g_ireturn C hr hlk dX11_shown_93 (Or.inr ⟨i, hb_i, rfl, hpl, ⟨g9, rfl⟩, by rw [show t = z by omega]⟩)
        · replace c_8 := (not_congr (nI_leI (by omega) (by omega))).mp c_8
          refine g_iload_n (pc9 := 53) C rfl 1 dX11_shown_52 rfl rfl ?_
          refine g_aload_n (pc9 := 54) C rfl 2 dX11_shown_53 rfl rfl ?_
          refine g_iload_n (pc9 := 55) C rfl 3 dX11_shown_54 rfl rfl ?_
          refine g_aload_n (pc9 := 56) C rfl 2 dX11_shown_55 rfl rfl ?_
          refine g_get (v := .ref (w.1 (5))) (pc9 := 59) C rfl (0) 8 dX11_shown_56 (by decide) (ce_0 w (sI (sN σ (0) 0 (nI (0))) (12) (g9))) hin_11 hl_27 rfl (by decide) rfl rfl ?_
          refine g_iload_n (pc9 := 60) C rfl 0 dX11_shown_59 rfl rfl ?_
          refine g_iald (x := nI (TA (t))) (pc9 := 61) C rfl (5) (t) dX11_shown_60 (by decide) (ce_5 w (sI (sN σ (0) 0 (nI (0))) (12) (g9))) rfl (by omega) (by decide) ((congrFun ((iA_n (by decide)).trans (iA_N)) _).trans (hTr (t) (by omega)).1) ?_
          refine g_aload_n (pc9 := 62) C rfl 2 dX11_shown_61 rfl rfl ?_
          refine g_get (v := .ref (w.1 (6))) (pc9 := 65) C rfl (0) 9 dX11_shown_62 (by decide) (ce_0 w (sI (sN σ (0) 0 (nI (0))) (12) (g9))) hin_11 hl_30 rfl (by decide) rfl rfl ?_
          refine g_iload_n (pc9 := 66) C rfl 0 dX11_shown_65 rfl rfl ?_
          refine g_iald (x := nI (TB (t))) (pc9 := 67) C rfl (6) (t) dX11_shown_66 (by decide) (ce_6 w (sI (sN σ (0) 0 (nI (0))) (12) (g9))) rfl (by omega) (by decide) ((congrFun ((iA_n (by decide)).trans (iA_N)) _).trans (hTr (t) (by omega)).2.1) ?_
          refine g_aload_n (pc9 := 68) C rfl 2 dX11_shown_67 rfl rfl ?_
          refine g_get (v := .ref (w.1 (7))) (pc9 := 71) C rfl (0) 10 dX11_shown_68 (by decide) (ce_0 w (sI (sN σ (0) 0 (nI (0))) (12) (g9))) hin_11 hl_33 rfl (by decide) rfl rfl ?_
          refine g_iload_n (pc9 := 72) C rfl 0 dX11_shown_71 rfl rfl ?_
          refine g_iald (x := nI (TD9 (t))) (pc9 := 73) C rfl (7) (t) dX11_shown_72 (by decide) (ce_7 w (sI (sN σ (0) 0 (nI (0))) (12) (g9))) rfl (by omega) (by decide) ((congrFun ((iA_n (by decide)).trans (iA_N)) _).trans (hTr (t) (by omega)).2.2.1) ?_
          refine g_callVi (nn := 4) (rest := [.int (nI (cntU (fun t => msP σ i (TA t) (TB t) (TD9 t)) t))]) (pc9 := 76) C rfl (0) [.int (nI (i)), .int (nI (TA (t))), .int (nI (TB (t))), .int (nI (TD9 (t)))] rfl dX11_shown_73 (m_X11_shows l w (sI (sN σ (0) 0 (nI (0))) (12) (g9)) i hb_i (hM i hb_i) hpl.1 (TA t) (TB t) (TD9 t) (hTr t (by omega)).2.2.2.1 (hTr t (by omega)).2.2.2.2.1 (hTr t (by omega)).2.2.2.2.2) gX11_shown_X11_shows (by decide) (ce_0 w (sI (sN σ (0) 0 (nI (0))) (12) (g9))) rfl rfl rfl rfl rfl (by decide +kernel) ⟨by decide, by decide⟩ rfl (Nat.le_of_ble_eq_true rfl) ⟨by decide, by decide⟩ (fun r_9 σ_9 q_9 => ?_)
          obtain ⟨⟨g8, qs_9⟩, qr_9⟩ := q_9
          rw [sI_sI] at qs_9
          replace qr_9 : r_9 = pI (msP σ i (TA t) (TB t) (TD9 t)) := qr_9
          rw [qs_9, qr_9]
          refine g_if_eq (pc9 := 79) C rfl 83 dX11_shown_76 rfl (fun c_10 => ?_) (fun c_10 => ?_)
          · have hs : cntU (fun t => msP σ i (TA t) (TB t) (TD9 t)) (t + 1) = cntU (fun t => msP σ i (TA t) (TB t) (TD9 t)) t := cntU_n (q := (fun t => msP σ i (TA t) (TB t) (TD9 t))) (pI_no c_10)
            refine g_iconst (pc9 := 84) C rfl (nI (0)) dX11_shown_83 rfl ?_
            refine g_iaddN (pc9 := 85) C rfl dX11_shown_84 ?_
            refine g_istore_n (pc9 := 86) C rfl [(2, .int (nI ((cntU (fun t => msP σ i (TA t) (TB t) (TD9 t)) t) + 0))), (3, .int (nI (t))), (0, .ref (w.1 (0))), (1, .int (nI (i)))] dX11_shown_85 rfl (by decide) rfl ?_
            refine g_iinc (pc9 := 89) C rfl [(3, .int (nI (t + 1))), (2, .int (nI ((cntU (fun t => msP σ i (TA t) (TB t) (TD9 t)) t) + 0))), (0, .ref (w.1 (0))), (1, .int (nI (i)))] 1 (nI (t + 1)) dX11_shown_86 rfl (nI_1 (t)) (by decide) rfl ?_
            refine g_goto C 44 dX11_shown_89 rfl ?_
            refine g_sub [0, 1, 2, 3] [(3, .int (nI (t + 1))), (2, .int (nI ((cntU (fun t => msP σ i (TA t) (TB t) (TD9 t)) t) + 0))), (0, .ref (w.1 (0))), (1, .int (nI (i)))] rfl ?_
            rw [show (cntU (fun t => msP σ i (TA t) (TB t) (TD9 t)) t) + 0 = cntU (fun t => msP σ i (TA t) (TB t) (TD9 t)) (t + 1) from by omega]
            exact ih (t + 1) g8 (by omega) (by omega)
          · have hs : cntU (fun t => msP σ i (TA t) (TB t) (TD9 t)) (t + 1) = cntU (fun t => msP σ i (TA t) (TB t) (TD9 t)) t + 1 := cntU_y (q := (fun t => msP σ i (TA t) (TB t) (TD9 t))) (pI_ye c_10)
            refine g_iconst (pc9 := 80) C rfl (nI (1)) dX11_shown_79 rfl ?_
            refine g_goto C 84 dX11_shown_80 rfl ?_
            refine g_iaddN (pc9 := 85) C rfl dX11_shown_84 ?_
            refine g_istore_n (pc9 := 86) C rfl [(2, .int (nI ((cntU (fun t => msP σ i (TA t) (TB t) (TD9 t)) t) + 1))), (3, .int (nI (t))), (0, .ref (w.1 (0))), (1, .int (nI (i)))] dX11_shown_85 rfl (by decide) rfl ?_
            refine g_iinc (pc9 := 89) C rfl [(3, .int (nI (t + 1))), (2, .int (nI ((cntU (fun t => msP σ i (TA t) (TB t) (TD9 t)) t) + 1))), (0, .ref (w.1 (0))), (1, .int (nI (i)))] 1 (nI (t + 1)) dX11_shown_86 rfl (nI_1 (t)) (by decide) rfl ?_
            refine g_goto C 44 dX11_shown_89 rfl ?_
            refine g_sub [0, 1, 2, 3] [(3, .int (nI (t + 1))), (2, .int (nI ((cntU (fun t => msP σ i (TA t) (TB t) (TD9 t)) t) + 1))), (0, .ref (w.1 (0))), (1, .int (nI (i)))] rfl ?_
            rw [show (cntU (fun t => msP σ i (TA t) (TB t) (TD9 t)) t) + 1 = cntU (fun t => msP σ i (TA t) (TB t) (TD9 t)) (t + 1) from by omega]
            exact ih (t + 1) g8 (by omega) (by omega)
      · exact absurd c_7 (by decide)
    · have hpl : ¬ mPl σ i := pI_no c_5
      refine g_iconst (pc9 := 27) C rfl (nI (1)) dX11_shown_26 rfl ?_
      refine g_goto C 31 dX11_shown_27 rfl ?_
      refine g_iconst (pc9 := 32) C rfl (nI (2)) dX11_shown_31 rfl ?_
      refine g_callVi (nn := 2) (rest := []) (pc9 := 35) C rfl (0) [.int (nI (1)), .int (nI (2))] rfl dX11_shown_32 (m_throws1 l w (sN σ (0) 0 (nI (0))) 2) gX11_shown_X11_throwsIf (by decide) (ce_0 w (sN σ (0) 0 (nI (0)))) rfl rfl rfl rfl rfl (by decide +kernel) ⟨by decide, by decide⟩ rfl (Nat.le_of_ble_eq_true rfl) ⟨by decide, by decide⟩ (fun r_11 σ_11 q_11 => ?_)
      obtain ⟨qs_11, qr_11⟩ := q_11
      rw [qr_11]
      refine g_st (σ9 := sN σ (0) 0 (nI (2))) (qs_11.trans (by show sN (sN σ (0) 0 (nI (0))) (0) 0 (nI (2)) = sN σ (0) 0 (nI (2)); rw [sN_sN])) ?_
      refine g_if_eq (pc9 := 38) C rfl 40 dX11_shown_35 rfl (fun c_12 => ?_) (fun c_12 => ?_)
      · exact absurd c_12 (by decide)
      · refine g_iconst (pc9 := 39) C rfl (nI (0)) dX11_shown_38 rfl ?_
        exact g_ireturn C hr hlk dX11_shown_39 (by first | exact Or.inl (Or.inl ⟨hns, rfl⟩) | exact Or.inl (Or.inr ⟨i, hb_i, rfl, hpl, rfl⟩))
def npR (σ : St) (x y : Int32) (r : Int32) (σ9 : St) : Prop := (¬ (okI 8 x ∧ okI 8 y) ∧ r = nI 1 ∧ σ9 = mT σ 1) ∨ (∃ i k, i < 8 ∧ k < 8 ∧ x = nI i ∧ y = nI k ∧ ((¬ (mPl σ i ∧ mPl σ k) ∧ r = nI 1 ∧ σ9 = mT σ 2) ∨ (mPl σ i ∧ mPl σ k ∧ r = nI 0 ∧ σ9 = mT σ 0)))
set_option maxRecDepth 100000 in
set_option maxHeartbeats 4000000 in
theorem m_X11_noPair (l : Launch) (w : Wd) (σ : St) (hM : ∀ i, i < 8 → mtOk σ i) (x y : Int32) : MI l yX11_noPair wsX11_noPair (rmL 3) w [.ref (w.1 (0)), .int (x), .int (y)] (sN σ (0) 0 (nI (0))) (npR σ x y) := by
  refine MI_of (cc := cX11_noPair) (maxL := 3) (ret := .boolean) (by decide) rfl (Nat.le_of_ble_eq_true rfl) ?_
  intro p e s m args below meth c A C hr hlk
  have C : Cx p s m args c w A cX11_noPair RX11 3 wsX11_noPair := C
  refine g_aload_n (pc9 := 1) C rfl 0 dX11_noPair_0 rfl rfl ?_
  refine g_iload_n (pc9 := 2) C rfl 1 dX11_noPair_1 rfl rfl ?_
  refine g_callSi (nn := 1) (rest := [.ref (w.1 (0))]) (pc9 := 5) C rfl [.int (x)] rfl dX11_noPair_2 (m_X11_noShelf l w (sN σ (0) 0 (nI (0))) x) gX11_noPair_X11_noShelf rfl rfl rfl (by decide +kernel) ⟨by decide, by decide⟩ rfl (Nat.le_of_ble_eq_true rfl) ⟨by decide, by decide⟩ (fun r_1 σ_1 q_1 => ?_)
  obtain ⟨qs_1, qr_1⟩ := q_1
  rw [qs_1, qr_1]
  clear qs_1 qr_1
  refine g_if_ne (pc9 := 8) C rfl 15 dX11_noPair_5 rfl (fun c_2 => ?_) (fun c_2 => ?_)
  · have hns : ¬ (okI 8 x ∧ okI 8 y) := fun h => pI_ye c_2 h.1
    refine g_iconst (pc9 := 16) C rfl (nI (1)) dX11_noPair_15 rfl ?_
    refine g_goto C 20 dX11_noPair_16 rfl ?_
    refine g_iconst (pc9 := 21) C rfl (nI (1)) dX11_noPair_20 rfl ?_
    refine g_callVi (nn := 2) (rest := []) (pc9 := 24) C rfl (0) [.int (nI (1)), .int (nI (1))] rfl dX11_noPair_21 (m_throws1 l w (sN σ (0) 0 (nI (0))) 1) gX11_noPair_X11_throwsIf (by decide) (ce_0 w (sN σ (0) 0 (nI (0)))) rfl rfl rfl rfl rfl (by decide +kernel) ⟨by decide, by decide⟩ rfl (Nat.le_of_ble_eq_true rfl) ⟨by decide, by decide⟩ (fun r_3 σ_3 q_3 => ?_)
    obtain ⟨qs_3, qr_3⟩ := q_3
    rw [qr_3]
    refine g_st (σ9 := sN σ (0) 0 (nI (1))) (qs_3.trans (by show sN (sN σ (0) 0 (nI (0))) (0) 0 (nI (1)) = sN σ (0) 0 (nI (1)); rw [sN_sN])) ?_
    refine g_if_ne (pc9 := 27) C rfl 56 dX11_noPair_24 rfl (fun c_4 => ?_) (fun c_4 => ?_)
    · refine g_iconst (pc9 := 57) C rfl (nI (1)) dX11_noPair_56 rfl ?_
      refine g_goto C 61 dX11_noPair_57 rfl ?_
      exact g_zreturn C hr hlk dX11_noPair_61 (by decide) (by first | exact Or.inl ⟨hns, rfl, rfl⟩ | exact Or.inr ⟨i, k, hb_i, hb_k, rfl, rfl, Or.inl ⟨hpl, rfl, rfl⟩⟩ | exact Or.inr ⟨i, k, hb_i, hb_k, rfl, rfl, Or.inr ⟨hp1, hp2, rfl, rfl⟩⟩)
    · exact absurd c_4 (by decide)
  · have hs1 := Classical.not_not.mp (pI_no c_2)
    refine g_iload_n (pc9 := 9) C rfl 2 dX11_noPair_8 rfl rfl ?_
    refine g_callSi (nn := 1) (rest := [.ref (w.1 (0))]) (pc9 := 12) C rfl [.int (y)] rfl dX11_noPair_9 (m_X11_noShelf l w (sN σ (0) 0 (nI (0))) y) gX11_noPair_X11_noShelf rfl rfl rfl (by decide +kernel) ⟨by decide, by decide⟩ rfl (Nat.le_of_ble_eq_true rfl) ⟨by decide, by decide⟩ (fun r_5 σ_5 q_5 => ?_)
    obtain ⟨qs_5, qr_5⟩ := q_5
    rw [qs_5, qr_5]
    clear qs_5 qr_5
    refine g_if_eq (pc9 := 15) C rfl 19 dX11_noPair_12 rfl (fun c_6 => ?_) (fun c_6 => ?_)
    · have hs2 := Classical.not_not.mp (pI_no c_6)
      obtain ⟨i, hb_i, hx_i⟩ := hs1
      obtain ⟨k, hb_k, hx_k⟩ := hs2
      subst hx_i
      subst hx_k
      refine g_iconst (pc9 := 20) C rfl (nI (0)) dX11_noPair_19 rfl ?_
      refine g_iconst (pc9 := 21) C rfl (nI (1)) dX11_noPair_20 rfl ?_
      refine g_callVi (nn := 2) (rest := []) (pc9 := 24) C rfl (0) [.int (nI (0)), .int (nI (1))] rfl dX11_noPair_21 (m_throws0 l w (sN σ (0) 0 (nI (0))) 1) gX11_noPair_X11_throwsIf (by decide) (ce_0 w (sN σ (0) 0 (nI (0)))) rfl rfl rfl rfl rfl (by decide +kernel) ⟨by decide, by decide⟩ rfl (Nat.le_of_ble_eq_true rfl) ⟨by decide, by decide⟩ (fun r_7 σ_7 q_7 => ?_)
      obtain ⟨qs_7, qr_7⟩ := q_7
      rw [qs_7, qr_7]
      refine g_if_ne (pc9 := 27) C rfl 56 dX11_noPair_24 rfl (fun c_8 => ?_) (fun c_8 => ?_)
      · exact absurd c_8 (by decide)
      · refine g_aload_n (pc9 := 28) C rfl 0 dX11_noPair_27 rfl rfl ?_
        refine g_aload_n (pc9 := 29) C rfl 0 dX11_noPair_28 rfl rfl ?_
        refine g_iload_n (pc9 := 30) C rfl 1 dX11_noPair_29 rfl rfl ?_
        refine g_callVi (nn := 1) (rest := [.ref (w.1 (0))]) (pc9 := 33) C rfl (0) [.int (nI (i))] rfl dX11_noPair_30 (m_X11_isPlain l w (sN σ (0) 0 (nI (0))) i hb_i (hM i hb_i)) gX11_noPair_X11_isPlain (by decide) (ce_0 w (sN σ (0) 0 (nI (0)))) rfl rfl rfl rfl rfl (by decide +kernel) ⟨by decide, by decide⟩ rfl (Nat.le_of_ble_eq_true rfl) ⟨by decide, by decide⟩ (fun r_9 σ_9 q_9 => ?_)
        obtain ⟨qs_9, qr_9⟩ := q_9
        replace qr_9 : r_9 = pI (mPl σ i) := qr_9
        rw [qs_9, qr_9]
        clear qs_9 qr_9
        refine g_if_eq (pc9 := 36) C rfl 44 dX11_noPair_33 rfl (fun c_10 => ?_) (fun c_10 => ?_)
        · have hpl : ¬ (mPl σ i ∧ mPl σ k) := fun h => pI_no c_10 h.1
          refine g_iconst (pc9 := 45) C rfl (nI (1)) dX11_noPair_44 rfl ?_
          refine g_goto C 49 dX11_noPair_45 rfl ?_
          refine g_iconst (pc9 := 50) C rfl (nI (2)) dX11_noPair_49 rfl ?_
          refine g_callVi (nn := 2) (rest := []) (pc9 := 53) C rfl (0) [.int (nI (1)), .int (nI (2))] rfl dX11_noPair_50 (m_throws1 l w (sN σ (0) 0 (nI (0))) 2) gX11_noPair_X11_throwsIf (by decide) (ce_0 w (sN σ (0) 0 (nI (0)))) rfl rfl rfl rfl rfl (by decide +kernel) ⟨by decide, by decide⟩ rfl (Nat.le_of_ble_eq_true rfl) ⟨by decide, by decide⟩ (fun r_11 σ_11 q_11 => ?_)
          obtain ⟨qs_11, qr_11⟩ := q_11
          rw [qr_11]
          refine g_st (σ9 := sN σ (0) 0 (nI (2))) (qs_11.trans (by show sN (sN σ (0) 0 (nI (0))) (0) 0 (nI (2)) = sN σ (0) 0 (nI (2)); rw [sN_sN])) ?_
          refine g_if_eq (pc9 := 56) C rfl 60 dX11_noPair_53 rfl (fun c_12 => ?_) (fun c_12 => ?_)
          · exact absurd c_12 (by decide)
          · refine g_iconst (pc9 := 57) C rfl (nI (1)) dX11_noPair_56 rfl ?_
            refine g_goto C 61 dX11_noPair_57 rfl ?_
            exact g_zreturn C hr hlk dX11_noPair_61 (by decide) (by first | exact Or.inl ⟨hns, rfl, rfl⟩ | exact Or.inr ⟨i, k, hb_i, hb_k, rfl, rfl, Or.inl ⟨hpl, rfl, rfl⟩⟩ | exact Or.inr ⟨i, k, hb_i, hb_k, rfl, rfl, Or.inr ⟨hp1, hp2, rfl, rfl⟩⟩)
        · have hp1 := pI_ye c_10
          refine g_aload_n (pc9 := 37) C rfl 0 dX11_noPair_36 rfl rfl ?_
          refine g_iload_n (pc9 := 38) C rfl 2 dX11_noPair_37 rfl rfl ?_
          refine g_callVi (nn := 1) (rest := [.ref (w.1 (0))]) (pc9 := 41) C rfl (0) [.int (nI (k))] rfl dX11_noPair_38 (m_X11_isPlain l w (sN σ (0) 0 (nI (0))) k hb_k (hM k hb_k)) gX11_noPair_X11_isPlain (by decide) (ce_0 w (sN σ (0) 0 (nI (0)))) rfl rfl rfl rfl rfl (by decide +kernel) ⟨by decide, by decide⟩ rfl (Nat.le_of_ble_eq_true rfl) ⟨by decide, by decide⟩ (fun r_13 σ_13 q_13 => ?_)
          obtain ⟨qs_13, qr_13⟩ := q_13
          replace qr_13 : r_13 = pI (mPl σ k) := qr_13
          rw [qs_13, qr_13]
          clear qs_13 qr_13
          refine g_if_ne (pc9 := 44) C rfl 48 dX11_noPair_41 rfl (fun c_14 => ?_) (fun c_14 => ?_)
          · have hp2 := pI_ye c_14
            refine g_iconst (pc9 := 49) C rfl (nI (0)) dX11_noPair_48 rfl ?_
            refine g_iconst (pc9 := 50) C rfl (nI (2)) dX11_noPair_49 rfl ?_
            refine g_callVi (nn := 2) (rest := []) (pc9 := 53) C rfl (0) [.int (nI (0)), .int (nI (2))] rfl dX11_noPair_50 (m_throws0 l w (sN σ (0) 0 (nI (0))) 2) gX11_noPair_X11_throwsIf (by decide) (ce_0 w (sN σ (0) 0 (nI (0)))) rfl rfl rfl rfl rfl (by decide +kernel) ⟨by decide, by decide⟩ rfl (Nat.le_of_ble_eq_true rfl) ⟨by decide, by decide⟩ (fun r_15 σ_15 q_15 => ?_)
            obtain ⟨qs_15, qr_15⟩ := q_15
            rw [qs_15, qr_15]
            refine g_if_eq (pc9 := 56) C rfl 60 dX11_noPair_53 rfl (fun c_16 => ?_) (fun c_16 => ?_)
            · refine g_iconst (pc9 := 61) C rfl (nI (0)) dX11_noPair_60 rfl ?_
              exact g_zreturn C hr hlk dX11_noPair_61 (by decide) (by first | exact Or.inl ⟨hns, rfl, rfl⟩ | exact Or.inr ⟨i, k, hb_i, hb_k, rfl, rfl, Or.inl ⟨hpl, rfl, rfl⟩⟩ | exact Or.inr ⟨i, k, hb_i, hb_k, rfl, rfl, Or.inr ⟨hp1, hp2, rfl, rfl⟩⟩)
            · exact absurd c_16 (by decide)
          · have hpl : ¬ (mPl σ i ∧ mPl σ k) := fun h => pI_no c_14 h.2
            refine g_iconst (pc9 := 45) C rfl (nI (1)) dX11_noPair_44 rfl ?_
            refine g_goto C 49 dX11_noPair_45 rfl ?_
            refine g_iconst (pc9 := 50) C rfl (nI (2)) dX11_noPair_49 rfl ?_
            refine g_callVi (nn := 2) (rest := []) (pc9 := 53) C rfl (0) [.int (nI (1)), .int (nI (2))] rfl dX11_noPair_50 (m_throws1 l w (sN σ (0) 0 (nI (0))) 2) gX11_noPair_X11_throwsIf (by decide) (ce_0 w (sN σ (0) 0 (nI (0)))) rfl rfl rfl rfl rfl (by decide +kernel) ⟨by decide, by decide⟩ rfl (Nat.le_of_ble_eq_true rfl) ⟨by decide, by decide⟩ (fun r_17 σ_17 q_17 => ?_)
            obtain ⟨qs_17, qr_17⟩ := q_17
            rw [qr_17]
            refine g_st (σ9 := sN σ (0) 0 (nI (2))) (qs_17.trans (by show sN (sN σ (0) 0 (nI (0))) (0) 0 (nI (2)) = sN σ (0) 0 (nI (2)); rw [sN_sN])) ?_
            refine g_if_eq (pc9 := 56) C rfl 60 dX11_noPair_53 rfl (fun c_18 => ?_) (fun c_18 => ?_)
            · exact absurd c_18 (by decide)
            · refine g_iconst (pc9 := 57) C rfl (nI (1)) dX11_noPair_56 rfl ?_
              refine g_goto C 61 dX11_noPair_57 rfl ?_
              exact g_zreturn C hr hlk dX11_noPair_61 (by decide) (by first | exact Or.inl ⟨hns, rfl, rfl⟩ | exact Or.inr ⟨i, k, hb_i, hb_k, rfl, rfl, Or.inl ⟨hpl, rfl, rfl⟩⟩ | exact Or.inr ⟨i, k, hb_i, hb_k, rfl, rfl, Or.inr ⟨hp1, hp2, rfl, rfl⟩⟩)
    · have hns : ¬ (okI 8 x ∧ okI 8 y) := fun h => pI_ye c_6 h.2
      refine g_iconst (pc9 := 16) C rfl (nI (1)) dX11_noPair_15 rfl ?_
      refine g_goto C 20 dX11_noPair_16 rfl ?_
      refine g_iconst (pc9 := 21) C rfl (nI (1)) dX11_noPair_20 rfl ?_
      refine g_callVi (nn := 2) (rest := []) (pc9 := 24) C rfl (0) [.int (nI (1)), .int (nI (1))] rfl dX11_noPair_21 (m_throws1 l w (sN σ (0) 0 (nI (0))) 1) gX11_noPair_X11_throwsIf (by decide) (ce_0 w (sN σ (0) 0 (nI (0)))) rfl rfl rfl rfl rfl (by decide +kernel) ⟨by decide, by decide⟩ rfl (Nat.le_of_ble_eq_true rfl) ⟨by decide, by decide⟩ (fun r_19 σ_19 q_19 => ?_)
      obtain ⟨qs_19, qr_19⟩ := q_19
      rw [qr_19]
      refine g_st (σ9 := sN σ (0) 0 (nI (1))) (qs_19.trans (by show sN (sN σ (0) 0 (nI (0))) (0) 0 (nI (1)) = sN σ (0) 0 (nI (1)); rw [sN_sN])) ?_
      refine g_if_ne (pc9 := 27) C rfl 56 dX11_noPair_24 rfl (fun c_20 => ?_) (fun c_20 => ?_)
      · refine g_iconst (pc9 := 57) C rfl (nI (1)) dX11_noPair_56 rfl ?_
        refine g_goto C 61 dX11_noPair_57 rfl ?_
        exact g_zreturn C hr hlk dX11_noPair_61 (by decide) (by first | exact Or.inl ⟨hns, rfl, rfl⟩ | exact Or.inr ⟨i, k, hb_i, hb_k, rfl, rfl, Or.inl ⟨hpl, rfl, rfl⟩⟩ | exact Or.inr ⟨i, k, hb_i, hb_k, rfl, rfl, Or.inr ⟨hp1, hp2, rfl, rfl⟩⟩)
      · exact absurd c_20 (by decide)
abbrev maC (σ : St) (i k : Nat) : Nat → Prop := fun v => ¬ mHas σ k (mcl σ i v)
set_option maxRecDepth 100000 in
set_option maxHeartbeats 4000000 in
theorem m_X11_alone (l : Launch) (w : Wd) (σ : St) (i k : Nat) (hi : i < 8) (hk : k < 8) (hm1 : mtOk σ i) (hm2 : mtOk σ k) (h01 : 0 < mN σ i) (h02 : 0 < mN σ k) : MI l yX11_alone wsX11_alone (rmL 3) w [.ref (w.1 (0)), .int (nI (i)), .int (nI (k))] (σ) (fun r σ9 => s12 σ σ9 ∧ r = nI (cntU (maC σ i k) (mN σ i))) := by
  refine MI_of (cc := cX11_alone) (maxL := 5) (ret := .int) (by decide) rfl (Nat.le_of_ble_eq_true rfl) ?_
  intro p e s m args below meth c A C hr hlk
  have C : Cx p s m args c w A cX11_alone RX11 5 wsX11_alone := C
  have hin_11 : ∀ u ∈ wsX110, u ∈ wsX11_alone := by decide +kernel
  have hl_17 : Cond.fieldLink RX11 17 "LineageBenchModel" "many" "[I" ∈ wsX11_alone := by decide +kernel
  have hl_51 : Cond.fieldLink RX11 51 "LineageBenchModel" "clusters" "[I" ∈ wsX11_alone := by decide +kernel
  have h47 := hm1.2.1
  refine g_st (σ9 := sI σ 12 (iA σ 12)) sI_self.symm ?_
  refine g_iconst (pc9 := 1) C rfl (nI (0)) dX11_alone_0 rfl ?_
  refine g_istore_n (pc9 := 2) C rfl [(3, .int (nI (0))), (0, .ref (w.1 (0))), (1, .int (nI (i))), (2, .int (nI (k)))] dX11_alone_1 rfl (by decide) rfl ?_
  refine g_iconst (pc9 := 3) C rfl (nI (0)) dX11_alone_2 rfl ?_
  refine g_istore (pc9 := 5) C rfl [(4, .int (nI (0))), (3, .int (nI (0))), (0, .ref (w.1 (0))), (1, .int (nI (i))), (2, .int (nI (k)))] dX11_alone_3 (by decide) rfl ?_
  refine g_sub [0, 1, 2, 3, 4] [(4, .int (nI (0))), (3, .int (nI (0))), (0, .ref (w.1 (0))), (1, .int (nI (i))), (2, .int (nI (k)))] rfl ?_
  refine g_lp2 (α := Nat) (β := Nat → Int32) (fun v g9 => v ≤ mN σ i) (fun v g9 => mN σ i - v) (fun v g9 => G p l e _ s m args below meth c _ w A _ (sI σ (12) (g9)) 0 0 5 [(4, .int (nI (v))), (3, .int (nI (cntU (maC σ i k) v))), (0, .ref (w.1 (0))), (1, .int (nI (i))), (2, .int (nI (k)))] []) (fun v g9 hI ih => ?_) (0) (iA σ 12) (Nat.zero_le _)
  obtain hv := hI
  have hcn := cntU_le (q := maC σ i k) v
  refine g_iload (pc9 := 7) C rfl 0 dX11_alone_5 rfl ?_
  refine g_aload_n (pc9 := 8) C rfl 2 dX11_alone_7 rfl rfl ?_
  refine g_get (v := .ref (w.1 (2))) (pc9 := 11) C rfl (0) 5 dX11_alone_8 (by decide) (ce_0 w (sI σ (12) (g9))) hin_11 hl_17 rfl (by decide) rfl rfl ?_
  refine g_iload_n (pc9 := 12) C rfl 3 dX11_alone_11 rfl rfl ?_
  refine g_iald (x := nI (mN σ (i))) (pc9 := 13) C rfl (2) (i) dX11_alone_12 (by decide) (ce_2 w (sI σ (12) (g9))) rfl (by omega) (by decide) ((congrFun (iA_n (by decide)) _).trans hm1.1) ?_
  refine g_icmp_ge (pc9 := 16) C rfl 50 dX11_alone_13 rfl (fun c_1 => ?_) (fun c_1 => ?_)
  · replace c_1 := (nI_leI (by omega) (by omega)).mp c_1
    refine g_iload_n (pc9 := 51) C rfl 1 dX11_alone_50 rfl rfl ?_
    exact g_ireturn C hr hlk dX11_alone_51 ⟨⟨g9, rfl⟩, by rw [show v = mN σ i by omega]⟩
  · replace c_1 := (not_congr (nI_leI (by omega) (by omega))).mp c_1
    refine g_aload_n (pc9 := 17) C rfl 2 dX11_alone_16 rfl rfl ?_
    refine g_iload_n (pc9 := 18) C rfl 3 dX11_alone_17 rfl rfl ?_
    refine g_callVv (nn := 1) (rest := []) (pc9 := 21) C rfl (0) [.int (nI (i))] rfl dX11_alone_18 (m_clu l w (sI σ (12) (g9)) i hi hm1 h01) gX11_alone_X11_clusters (by decide) (ce_0 w (sI σ (12) (g9))) rfl rfl rfl rfl rfl (by decide +kernel) ⟨by decide, by decide⟩ rfl (Nat.le_of_ble_eq_true rfl) ⟨by decide, by decide⟩ (fun σ_2 q_2 => ?_)
    obtain ⟨g7, qs_2, hg7⟩ := q_2
    rw [sI_sI] at qs_2
    replace hg7 : ∀ v, v < mN σ i → g7 v = mcl σ i v := hg7
    rw [qs_2]
    refine g_iload_n (pc9 := 22) C rfl 1 dX11_alone_21 rfl rfl ?_
    refine g_aload_n (pc9 := 23) C rfl 2 dX11_alone_22 rfl rfl ?_
    refine g_iload_n (pc9 := 24) C rfl 4 dX11_alone_23 rfl rfl ?_
    refine g_aload_n (pc9 := 25) C rfl 2 dX11_alone_24 rfl rfl ?_
    refine g_get (v := .ref (w.1 (12))) (pc9 := 28) C rfl (0) 19 dX11_alone_25 (by decide) (ce_0 w (sI σ (12) (g7))) hin_11 hl_51 rfl (by decide) rfl rfl ?_
    refine g_iload (pc9 := 30) C rfl 0 dX11_alone_28 rfl ?_
    refine g_iald (x := mcl σ i (v)) (pc9 := 31) C rfl (12) (v) dX11_alone_30 (by decide) (ce_12 w (sI σ (12) (g7))) rfl (by omega) (by decide) ((congrFun (iA_s) _).trans (hg7 (v) (by omega))) ?_
    refine g_callVi (nn := 2) (rest := [.int (nI (cntU (maC σ i k) v))]) (pc9 := 34) C rfl (0) [.int (nI (k)), .int (mcl σ i (v))] rfl dX11_alone_31 (m_hasC l w (sI σ (12) (g7)) k hk hm2 h02 (mcl σ i v)) gX11_alone_X11_hasCluster (by decide) (ce_0 w (sI σ (12) (g7))) rfl rfl rfl rfl rfl (by decide +kernel) ⟨by decide, by decide⟩ rfl (Nat.le_of_ble_eq_true rfl) ⟨by decide, by decide⟩ (fun r_3 σ_3 q_3 => ?_)
    obtain ⟨g8, qs_3, qr_3⟩ := q_3
    rw [sI_sI] at qs_3
    replace qr_3 : r_3 = pI (mHas σ k (mcl σ i v)) := qr_3
    rw [qs_3, qr_3]
    refine g_if_eq (pc9 := 37) C rfl 41 dX11_alone_34 rfl (fun c_4 => ?_) (fun c_4 => ?_)
    · have hs : cntU (maC σ i k) (v + 1) = cntU (maC σ i k) v + 1 := cntU_y (q := maC σ i k) (pI_no c_4)
      refine g_iconst (pc9 := 42) C rfl (nI (1)) dX11_alone_41 rfl ?_
      refine g_iaddN (pc9 := 43) C rfl dX11_alone_42 ?_
      refine g_istore_n (pc9 := 44) C rfl [(3, .int (nI ((cntU (maC σ i k) v) + 1))), (4, .int (nI (v))), (0, .ref (w.1 (0))), (1, .int (nI (i))), (2, .int (nI (k)))] dX11_alone_43 rfl (by decide) rfl ?_
      refine g_iinc (pc9 := 47) C rfl [(4, .int (nI (v + 1))), (3, .int (nI ((cntU (maC σ i k) v) + 1))), (0, .ref (w.1 (0))), (1, .int (nI (i))), (2, .int (nI (k)))] 1 (nI (v + 1)) dX11_alone_44 rfl (nI_1 (v)) (by decide) rfl ?_
      refine g_goto C 5 dX11_alone_47 rfl ?_
      refine g_sub [0, 1, 2, 3, 4] [(4, .int (nI (v + 1))), (3, .int (nI ((cntU (maC σ i k) v) + 1))), (0, .ref (w.1 (0))), (1, .int (nI (i))), (2, .int (nI (k)))] rfl ?_
      rw [show (cntU (maC σ i k) v) + 1 = cntU (maC σ i k) (v + 1) from by omega]
      exact ih (v + 1) g8 (by omega) (by omega)
    · have hs : cntU (maC σ i k) (v + 1) = cntU (maC σ i k) v := cntU_n (q := maC σ i k) (fun h => h (pI_ye c_4))
      refine g_iconst (pc9 := 38) C rfl (nI (0)) dX11_alone_37 rfl ?_
      refine g_goto C 42 dX11_alone_38 rfl ?_
      refine g_iaddN (pc9 := 43) C rfl dX11_alone_42 ?_
      refine g_istore_n (pc9 := 44) C rfl [(3, .int (nI ((cntU (maC σ i k) v) + 0))), (4, .int (nI (v))), (0, .ref (w.1 (0))), (1, .int (nI (i))), (2, .int (nI (k)))] dX11_alone_43 rfl (by decide) rfl ?_
      refine g_iinc (pc9 := 47) C rfl [(4, .int (nI (v + 1))), (3, .int (nI ((cntU (maC σ i k) v) + 0))), (0, .ref (w.1 (0))), (1, .int (nI (i))), (2, .int (nI (k)))] 1 (nI (v + 1)) dX11_alone_44 rfl (nI_1 (v)) (by decide) rfl ?_
      refine g_goto C 5 dX11_alone_47 rfl ?_
      refine g_sub [0, 1, 2, 3, 4] [(4, .int (nI (v + 1))), (3, .int (nI ((cntU (maC σ i k) v) + 0))), (0, .ref (w.1 (0))), (1, .int (nI (i))), (2, .int (nI (k)))] rfl ?_
      rw [show (cntU (maC σ i k) v) + 0 = cntU (maC σ i k) (v + 1) from by omega]
      exact ih (v + 1) g8 (by omega) (by omega)

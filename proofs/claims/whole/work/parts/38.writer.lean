/-! Writer: bytes at 37, how many at 36.1, first child at 38, next child at 39 -/
def ix (N : Nat) (x : Int32) : Prop := x = -1 ∨ ∃ u, u < N ∧ x = nI u
def endC (a b : Int32) : Int32 := (if a = -1 then nI 0 else nI 1) - (if b = -1 then nI 0 else nI 1)
def cmpL (rec : Nat → Nat → Int32) (nx : Nat → Int32) : Nat → Int32 → Int32 → Int32
  | 0, a, b => endC a b
  | k + 1, a, b => if a = -1 ∨ b = -1 then endC a b else if rec a.toNatClampNeg b.toNatClampNeg = 0 then cmpL rec nx k (nx a.toNatClampNeg) (nx b.toNatClampNeg) else rec a.toNatClampNeg b.toNatClampNeg
def cmpT (K fc nx : Nat → Int32) : Nat → Nat → Nat → Int32
  | 0, v, u => if K v = -1 ∧ K u = -1 then nI 0 else K v - K u
  | d + 1, v, u => if K v = -1 ∧ K u = -1 then cmpL (cmpT K fc nx d) nx 47 (fc v) (fc u) else K v - K u
theorem cmpL_s {rec : Nat → Nat → Int32} {nx : Nat → Int32} {t : Nat} {a b : Int32} (h : t < 47) : cmpL rec nx (47 - t) a b = if a = -1 ∨ b = -1 then endC a b else if rec a.toNatClampNeg b.toNatClampNeg = 0 then cmpL rec nx (47 - (t + 1)) (nx a.toNatClampNeg) (nx b.toNatClampNeg) else rec a.toNatClampNeg b.toNatClampNeg := by
  rw [show 47 - t = (47 - (t + 1)) + 1 by omega]
  rfl
theorem endC_yy {a b : Int32} (ha : a = -1) (hb : b = -1) : endC a b = nI 0 - nI 0 := by unfold endC; rw [if_pos ha, if_pos hb]
theorem endC_yn {a b : Int32} (ha : a = -1) (hb : ¬ b = -1) : endC a b = nI 0 - nI 1 := by unfold endC; rw [if_pos ha, if_neg hb]
theorem endC_ny {a b : Int32} (ha : ¬ a = -1) (hb : b = -1) : endC a b = nI 1 - nI 0 := by unfold endC; rw [if_neg ha, if_pos hb]
theorem endC_nn {a b : Int32} (ha : ¬ a = -1) (hb : ¬ b = -1) : endC a b = nI 1 - nI 1 := by unfold endC; rw [if_neg ha, if_neg hb]
set_option maxRecDepth 100000 in
set_option maxHeartbeats 4000000 in
theorem m_X9_compareTexts (l : Launch) (w : Wd) (σ : St) (j : Nat) (hj : j < 9) (hf : ∀ x, x < 47 → ix 47 (iA σ 38 x)) (hg : ∀ x, x < 47 → ix 47 (iA σ 39 x)) : ∀ (d v u : Nat) (hv : v < 47) (hu : u < 47) (e9 : Nat) (he : e9 + d = 24), MI l yX9_compareTexts wsX9_compareTexts (rmL (d + 1)) w [.ref (w.1 36), .ref (w.1 (64 + 5 * j)), .int (nI v), .int (nI u), .int (nI e9)] σ (fun r σ9 => σ9 = σ ∧ r = cmpT (tK σ j) (iA σ 38) (iA σ 39) (d) v u) := by
  intro d
  induction d with
  | zero =>
    intro v u hv hu e9 he
    refine MI_of (cc := cX9_compareTexts) (maxL := 11) (ret := .int) (by decide) rfl (Nat.le_of_ble_eq_true rfl) ?_
    intro p e s m args below meth c A C hr hlk
    have C : Cx p s m args c w A cX9_compareTexts RX9 11 wsX9_compareTexts := C
    have hin_7 : ∀ u ∈ wsX70, u ∈ wsX9_compareTexts := by decide +kernel
    have hin_9 : ∀ u ∈ wsX90, u ∈ wsX9_compareTexts := by decide +kernel
    have hl_15 : Cond.fieldLink RX9 15 "LineageBench$Writer" "firstChild" "[I" ∈ wsX9_compareTexts := by decide +kernel
    have hl_18 : Cond.fieldLink RX9 18 "LineageBench$Writer" "nextChild" "[I" ∈ wsX9_compareTexts := by decide +kernel
    have hl_52 : Cond.fieldLink RX9 52 "LineageBench$Tree" "kind" "[I" ∈ wsX9_compareTexts := by decide +kernel
    refine g_aload_n (pc9 := 1) C rfl 1 dX9_compareTexts_0 rfl rfl ?_
    refine g_get (v := .ref (w.1 (66 + 5 * j))) (pc9 := 4) C rfl (64 + 5 * j) 1 dX9_compareTexts_1 (by omega) (ce_tree w (σ) (j)) hin_7 hl_52 rfl (by decide) rfl rfl ?_
    refine g_iload_n (pc9 := 5) C rfl 2 dX9_compareTexts_4 rfl rfl ?_
    refine g_iald (x := (iA σ (66 + 5 * j)) (v)) (pc9 := 6) C rfl (66 + 5 * j) (v) dX9_compareTexts_5 (by omega) (ce_kind w (σ) (j)) rfl (by omega) (by decide) rfl ?_
    refine g_istore (pc9 := 8) C rfl [(5, .int ((iA σ (66 + 5 * j)) (v))), (0, .ref (w.1 (36))), (1, .ref (w.1 (64 + 5 * j))), (2, .int (nI (v))), (3, .int (nI (u))), (4, .int (nI (e9)))] dX9_compareTexts_6 (by decide) rfl ?_
    refine g_aload_n (pc9 := 9) C rfl 2 dX9_compareTexts_8 rfl rfl ?_
    refine g_get (v := .ref (w.1 (66 + 5 * j))) (pc9 := 12) C rfl (64 + 5 * j) 1 dX9_compareTexts_9 (by omega) (ce_tree w (σ) (j)) hin_7 hl_52 rfl (by decide) rfl rfl ?_
    refine g_iload_n (pc9 := 13) C rfl 4 dX9_compareTexts_12 rfl rfl ?_
    refine g_iald (x := (iA σ (66 + 5 * j)) (u)) (pc9 := 14) C rfl (66 + 5 * j) (u) dX9_compareTexts_13 (by omega) (ce_kind w (σ) (j)) rfl (by omega) (by decide) rfl ?_
    refine g_istore (pc9 := 16) C rfl [(6, .int ((iA σ (66 + 5 * j)) (u))), (5, .int ((iA σ (66 + 5 * j)) (v))), (0, .ref (w.1 (36))), (1, .ref (w.1 (64 + 5 * j))), (2, .int (nI (v))), (3, .int (nI (u))), (4, .int (nI (e9)))] dX9_compareTexts_14 (by decide) rfl ?_
    refine g_iload (pc9 := 18) C rfl 1 dX9_compareTexts_16 rfl ?_
    refine g_iconst (pc9 := 19) C rfl ((-1)) dX9_compareTexts_18 rfl ?_
    refine g_icmp_ne (pc9 := 22) C rfl 28 dX9_compareTexts_19 rfl (fun c_1 => ?_) (fun c_1 => ?_)
    · have hkv : ¬ (tK σ j v = -1 ∧ tK σ j u = -1) := fun h => c_1 h.1
      refine g_iload (pc9 := 30) C rfl 1 dX9_compareTexts_28 rfl ?_
      refine g_iload (pc9 := 32) C rfl 0 dX9_compareTexts_30 rfl ?_
      refine g_isub (pc9 := 33) C rfl dX9_compareTexts_32 ?_
      exact g_ireturn C hr hlk dX9_compareTexts_33 ⟨rfl, by unfold cmpT; first | exact (if_neg hkv).symm | exact (if_pos hkv).symm⟩
    · refine g_iload (pc9 := 24) C rfl 0 dX9_compareTexts_22 rfl ?_
      refine g_iconst (pc9 := 25) C rfl ((-1)) dX9_compareTexts_24 rfl ?_
      refine g_icmp_eq (pc9 := 28) C rfl 34 dX9_compareTexts_25 rfl (fun c_2 => ?_) (fun c_2 => ?_)
      · have hkv : tK σ j v = -1 ∧ tK σ j u = -1 := ⟨by assumption, c_2⟩
        refine g_iload (pc9 := 36) C rfl 6 dX9_compareTexts_34 rfl ?_
        refine g_bipush (pc9 := 38) C rfl (nI (23)) dX9_compareTexts_36 rfl ?_
        refine g_icmp_le (pc9 := 41) C rfl 43 dX9_compareTexts_38 rfl (fun c_3 => ?_) (fun c_3 => ?_)
        · replace c_3 := (nI_leI (by omega) (by omega)).mp c_3
          exact absurd he (by omega)
        · replace c_3 := (not_congr (nI_leI (by omega) (by omega))).mp c_3
          refine g_iconst (pc9 := 42) C rfl (nI (0)) dX9_compareTexts_41 rfl ?_
          exact g_ireturn C hr hlk dX9_compareTexts_42 ⟨rfl, by unfold cmpT; first | exact (if_neg hkv).symm | exact (if_pos hkv).symm⟩
      · have hkv : ¬ (tK σ j v = -1 ∧ tK σ j u = -1) := fun h => c_2 h.2
        refine g_iload (pc9 := 30) C rfl 1 dX9_compareTexts_28 rfl ?_
        refine g_iload (pc9 := 32) C rfl 0 dX9_compareTexts_30 rfl ?_
        refine g_isub (pc9 := 33) C rfl dX9_compareTexts_32 ?_
        exact g_ireturn C hr hlk dX9_compareTexts_33 ⟨rfl, by unfold cmpT; first | exact (if_neg hkv).symm | exact (if_pos hkv).symm⟩
  | succ d ih =>
    intro v u hv hu e9 he
    refine MI_of (cc := cX9_compareTexts) (maxL := 11) (ret := .int) (by decide) rfl (Nat.le_of_ble_eq_true rfl) ?_
    intro p e s m args below meth c A C hr hlk
    have C : Cx p s m args c w A cX9_compareTexts RX9 11 wsX9_compareTexts := C
    have hin_7 : ∀ u ∈ wsX70, u ∈ wsX9_compareTexts := by decide +kernel
    have hin_9 : ∀ u ∈ wsX90, u ∈ wsX9_compareTexts := by decide +kernel
    have hl_15 : Cond.fieldLink RX9 15 "LineageBench$Writer" "firstChild" "[I" ∈ wsX9_compareTexts := by decide +kernel
    have hl_18 : Cond.fieldLink RX9 18 "LineageBench$Writer" "nextChild" "[I" ∈ wsX9_compareTexts := by decide +kernel
    have hl_52 : Cond.fieldLink RX9 52 "LineageBench$Tree" "kind" "[I" ∈ wsX9_compareTexts := by decide +kernel
    refine g_aload_n (pc9 := 1) C rfl 1 dX9_compareTexts_0 rfl rfl ?_
    refine g_get (v := .ref (w.1 (66 + 5 * j))) (pc9 := 4) C rfl (64 + 5 * j) 1 dX9_compareTexts_1 (by omega) (ce_tree w (σ) (j)) hin_7 hl_52 rfl (by decide) rfl rfl ?_
    refine g_iload_n (pc9 := 5) C rfl 2 dX9_compareTexts_4 rfl rfl ?_
    refine g_iald (x := (iA σ (66 + 5 * j)) (v)) (pc9 := 6) C rfl (66 + 5 * j) (v) dX9_compareTexts_5 (by omega) (ce_kind w (σ) (j)) rfl (by omega) (by decide) rfl ?_
    refine g_istore (pc9 := 8) C rfl [(5, .int ((iA σ (66 + 5 * j)) (v))), (0, .ref (w.1 (36))), (1, .ref (w.1 (64 + 5 * j))), (2, .int (nI (v))), (3, .int (nI (u))), (4, .int (nI (e9)))] dX9_compareTexts_6 (by decide) rfl ?_
    refine g_aload_n (pc9 := 9) C rfl 2 dX9_compareTexts_8 rfl rfl ?_
    refine g_get (v := .ref (w.1 (66 + 5 * j))) (pc9 := 12) C rfl (64 + 5 * j) 1 dX9_compareTexts_9 (by omega) (ce_tree w (σ) (j)) hin_7 hl_52 rfl (by decide) rfl rfl ?_
    refine g_iload_n (pc9 := 13) C rfl 4 dX9_compareTexts_12 rfl rfl ?_
    refine g_iald (x := (iA σ (66 + 5 * j)) (u)) (pc9 := 14) C rfl (66 + 5 * j) (u) dX9_compareTexts_13 (by omega) (ce_kind w (σ) (j)) rfl (by omega) (by decide) rfl ?_
    refine g_istore (pc9 := 16) C rfl [(6, .int ((iA σ (66 + 5 * j)) (u))), (5, .int ((iA σ (66 + 5 * j)) (v))), (0, .ref (w.1 (36))), (1, .ref (w.1 (64 + 5 * j))), (2, .int (nI (v))), (3, .int (nI (u))), (4, .int (nI (e9)))] dX9_compareTexts_14 (by decide) rfl ?_
    refine g_iload (pc9 := 18) C rfl 1 dX9_compareTexts_16 rfl ?_
    refine g_iconst (pc9 := 19) C rfl ((-1)) dX9_compareTexts_18 rfl ?_
    refine g_icmp_ne (pc9 := 22) C rfl 28 dX9_compareTexts_19 rfl (fun c_4 => ?_) (fun c_4 => ?_)
    · have hkv : ¬ (tK σ j v = -1 ∧ tK σ j u = -1) := fun h => c_4 h.1
      refine g_iload (pc9 := 30) C rfl 1 dX9_compareTexts_28 rfl ?_
      refine g_iload (pc9 := 32) C rfl 0 dX9_compareTexts_30 rfl ?_
      refine g_isub (pc9 := 33) C rfl dX9_compareTexts_32 ?_
      exact g_ireturn C hr hlk dX9_compareTexts_33 ⟨rfl, by unfold cmpT; exact (if_neg hkv).symm⟩
    · refine g_iload (pc9 := 24) C rfl 0 dX9_compareTexts_22 rfl ?_
      refine g_iconst (pc9 := 25) C rfl ((-1)) dX9_compareTexts_24 rfl ?_
      refine g_icmp_eq (pc9 := 28) C rfl 34 dX9_compareTexts_25 rfl (fun c_5 => ?_) (fun c_5 => ?_)
      · have hkv : tK σ j v = -1 ∧ tK σ j u = -1 := ⟨by assumption, c_5⟩
        refine g_iload (pc9 := 36) C rfl 6 dX9_compareTexts_34 rfl ?_
        refine g_bipush (pc9 := 38) C rfl (nI (23)) dX9_compareTexts_36 rfl ?_
        refine g_icmp_le (pc9 := 41) C rfl 43 dX9_compareTexts_38 rfl (fun c_6 => ?_) (fun c_6 => ?_)
        · replace c_6 := (nI_leI (by omega) (by omega)).mp c_6
          refine g_aload_n (pc9 := 44) C rfl 2 dX9_compareTexts_43 rfl rfl ?_
          refine g_get (v := .ref (w.1 (38))) (pc9 := 47) C rfl (36) 2 dX9_compareTexts_44 (by decide) (ce_36 w (σ)) hin_9 hl_15 rfl (by decide) rfl rfl ?_
          refine g_iload_n (pc9 := 48) C rfl 4 dX9_compareTexts_47 rfl rfl ?_
          refine g_iald (x := (iA σ (38)) (v)) (pc9 := 49) C rfl (38) (v) dX9_compareTexts_48 (by decide) (ce_38 w (σ)) rfl (by omega) (by decide) rfl ?_
          refine g_istore (pc9 := 51) C rfl [(7, .int ((iA σ (38)) (v))), (6, .int ((iA σ (66 + 5 * j)) (u))), (5, .int ((iA σ (66 + 5 * j)) (v))), (0, .ref (w.1 (36))), (1, .ref (w.1 (64 + 5 * j))), (2, .int (nI (v))), (3, .int (nI (u))), (4, .int (nI (e9)))] dX9_compareTexts_49 (by decide) rfl ?_
          refine g_aload_n (pc9 := 52) C rfl 3 dX9_compareTexts_51 rfl rfl ?_
          refine g_get (v := .ref (w.1 (38))) (pc9 := 55) C rfl (36) 2 dX9_compareTexts_52 (by decide) (ce_36 w (σ)) hin_9 hl_15 rfl (by decide) rfl rfl ?_
          refine g_iload_n (pc9 := 56) C rfl 6 dX9_compareTexts_55 rfl rfl ?_
          refine g_iald (x := (iA σ (38)) (u)) (pc9 := 57) C rfl (38) (u) dX9_compareTexts_56 (by decide) (ce_38 w (σ)) rfl (by omega) (by decide) rfl ?_
          refine g_istore (pc9 := 59) C rfl [(8, .int ((iA σ (38)) (u))), (7, .int ((iA σ (38)) (v))), (6, .int ((iA σ (66 + 5 * j)) (u))), (5, .int ((iA σ (66 + 5 * j)) (v))), (0, .ref (w.1 (36))), (1, .ref (w.1 (64 + 5 * j))), (2, .int (nI (v))), (3, .int (nI (u))), (4, .int (nI (e9)))] dX9_compareTexts_57 (by decide) rfl ?_
          refine g_iconst (pc9 := 60) C rfl (nI (0)) dX9_compareTexts_59 rfl ?_
          refine g_istore (pc9 := 62) C rfl [(9, .int (nI (0))), (8, .int ((iA σ (38)) (u))), (7, .int ((iA σ (38)) (v))), (6, .int ((iA σ (66 + 5 * j)) (u))), (5, .int ((iA σ (66 + 5 * j)) (v))), (0, .ref (w.1 (36))), (1, .ref (w.1 (64 + 5 * j))), (2, .int (nI (v))), (3, .int (nI (u))), (4, .int (nI (e9)))] dX9_compareTexts_60 (by decide) rfl ?_
          refine g_sub [0, 1, 2, 3, 4, 5, 6, 7, 8, 9] [(9, .int (nI (0))), (8, .int ((iA σ (38)) (u))), (7, .int ((iA σ (38)) (v))), (6, .int ((iA σ (66 + 5 * j)) (u))), (5, .int ((iA σ (66 + 5 * j)) (v))), (0, .ref (w.1 (36))), (1, .ref (w.1 (64 + 5 * j))), (2, .int (nI (v))), (3, .int (nI (u))), (4, .int (nI (e9)))] rfl ?_
          refine g_lp3 (α := Nat) (β := Int32) (γ := Int32) (fun t b a => t ≤ 47 ∧ ix 47 a ∧ ix 47 b ∧ cmpL (cmpT (tK σ j) (iA σ 38) (iA σ 39) (d)) (iA σ 39) (47 - t) a b = cmpT (tK σ j) (iA σ 38) (iA σ 39) (d + 1) v u) (fun t b a => 47 - t) (fun t b a => G p l e _ s m args below meth c _ w A _ (σ) 0 0 62 [(9, .int (nI (t))), (8, .int (b)), (7, .int (a)), (6, .int ((iA σ (66 + 5 * j)) (u))), (5, .int ((iA σ (66 + 5 * j)) (v))), (0, .ref (w.1 (36))), (1, .ref (w.1 (64 + 5 * j))), (2, .int (nI (v))), (3, .int (nI (u))), (4, .int (nI (e9)))] []) (fun t b a hI ih2 => ?_) (0) (iA σ 38 u) (iA σ 38 v) ⟨Nat.zero_le _, hf v hv, hf u hu, (if_pos hkv).symm⟩
          obtain ⟨ht, hxa, hxb, hc⟩ := hI
          refine g_iload (pc9 := 64) C rfl 0 dX9_compareTexts_62 rfl ?_
          refine g_bipush (pc9 := 66) C rfl (nI (47)) dX9_compareTexts_64 rfl ?_
          refine g_icmp_ge (pc9 := 69) C rfl 128 dX9_compareTexts_66 rfl (fun c_7 => ?_) (fun c_7 => ?_)
          · replace c_7 := (nI_leI (by omega) (by omega)).mp c_7
            rw [show 47 - t = 0 by omega] at hc
            refine g_iload (pc9 := 130) C rfl 2 dX9_compareTexts_128 rfl ?_
            refine g_iconst (pc9 := 131) C rfl ((-1)) dX9_compareTexts_130 rfl ?_
            refine g_icmp_eq (pc9 := 134) C rfl 138 dX9_compareTexts_131 rfl (fun c_8 => ?_) (fun c_8 => ?_)
            · refine g_iconst (pc9 := 139) C rfl (nI (0)) dX9_compareTexts_138 rfl ?_
              refine g_iload (pc9 := 141) C rfl 1 dX9_compareTexts_139 rfl ?_
              refine g_iconst (pc9 := 142) C rfl ((-1)) dX9_compareTexts_141 rfl ?_
              refine g_icmp_eq (pc9 := 145) C rfl 149 dX9_compareTexts_142 rfl (fun c_9 => ?_) (fun c_9 => ?_)
              · refine g_iconst (pc9 := 150) C rfl (nI (0)) dX9_compareTexts_149 rfl ?_
                refine g_isub (pc9 := 151) C rfl dX9_compareTexts_150 ?_
                exact g_ireturn C hr hlk dX9_compareTexts_151 ⟨rfl, by rw [← hc]; first | exact (endC_yy (by assumption) (by assumption)).symm | exact (endC_yn (by assumption) (by assumption)).symm | exact (endC_ny (by assumption) (by assumption)).symm | exact (endC_nn (by assumption) (by assumption)).symm⟩
              · refine g_iconst (pc9 := 146) C rfl (nI (1)) dX9_compareTexts_145 rfl ?_
                refine g_goto C 150 dX9_compareTexts_146 rfl ?_
                refine g_isub (pc9 := 151) C rfl dX9_compareTexts_150 ?_
                exact g_ireturn C hr hlk dX9_compareTexts_151 ⟨rfl, by rw [← hc]; first | exact (endC_yy (by assumption) (by assumption)).symm | exact (endC_yn (by assumption) (by assumption)).symm | exact (endC_ny (by assumption) (by assumption)).symm | exact (endC_nn (by assumption) (by assumption)).symm⟩
            · refine g_iconst (pc9 := 135) C rfl (nI (1)) dX9_compareTexts_134 rfl ?_
              refine g_goto C 139 dX9_compareTexts_135 rfl ?_
              refine g_iload (pc9 := 141) C rfl 1 dX9_compareTexts_139 rfl ?_
              refine g_iconst (pc9 := 142) C rfl ((-1)) dX9_compareTexts_141 rfl ?_
              refine g_icmp_eq (pc9 := 145) C rfl 149 dX9_compareTexts_142 rfl (fun c_10 => ?_) (fun c_10 => ?_)
              · refine g_iconst (pc9 := 150) C rfl (nI (0)) dX9_compareTexts_149 rfl ?_
                refine g_isub (pc9 := 151) C rfl dX9_compareTexts_150 ?_
                exact g_ireturn C hr hlk dX9_compareTexts_151 ⟨rfl, by rw [← hc]; first | exact (endC_yy (by assumption) (by assumption)).symm | exact (endC_yn (by assumption) (by assumption)).symm | exact (endC_ny (by assumption) (by assumption)).symm | exact (endC_nn (by assumption) (by assumption)).symm⟩
              · refine g_iconst (pc9 := 146) C rfl (nI (1)) dX9_compareTexts_145 rfl ?_
                refine g_goto C 150 dX9_compareTexts_146 rfl ?_
                refine g_isub (pc9 := 151) C rfl dX9_compareTexts_150 ?_
                exact g_ireturn C hr hlk dX9_compareTexts_151 ⟨rfl, by rw [← hc]; first | exact (endC_yy (by assumption) (by assumption)).symm | exact (endC_yn (by assumption) (by assumption)).symm | exact (endC_ny (by assumption) (by assumption)).symm | exact (endC_nn (by assumption) (by assumption)).symm⟩
          · replace c_7 := (not_congr (nI_leI (by omega) (by omega))).mp c_7
            refine g_iload (pc9 := 71) C rfl 2 dX9_compareTexts_69 rfl ?_
            refine g_iconst (pc9 := 72) C rfl ((-1)) dX9_compareTexts_71 rfl ?_
            refine g_icmp_eq (pc9 := 75) C rfl 128 dX9_compareTexts_72 rfl (fun c_11 => ?_) (fun c_11 => ?_)
            · rw [cmpL_s (by omega), if_pos (Or.inl c_11)] at hc
              refine g_iload (pc9 := 130) C rfl 2 dX9_compareTexts_128 rfl ?_
              refine g_iconst (pc9 := 131) C rfl ((-1)) dX9_compareTexts_130 rfl ?_
              refine g_icmp_eq (pc9 := 134) C rfl 138 dX9_compareTexts_131 rfl (fun c_12 => ?_) (fun c_12 => ?_)
              · refine g_iconst (pc9 := 139) C rfl (nI (0)) dX9_compareTexts_138 rfl ?_
                refine g_iload (pc9 := 141) C rfl 1 dX9_compareTexts_139 rfl ?_
                refine g_iconst (pc9 := 142) C rfl ((-1)) dX9_compareTexts_141 rfl ?_
                refine g_icmp_eq (pc9 := 145) C rfl 149 dX9_compareTexts_142 rfl (fun c_13 => ?_) (fun c_13 => ?_)
                · refine g_iconst (pc9 := 150) C rfl (nI (0)) dX9_compareTexts_149 rfl ?_
                  refine g_isub (pc9 := 151) C rfl dX9_compareTexts_150 ?_
                  exact g_ireturn C hr hlk dX9_compareTexts_151 ⟨rfl, by rw [← hc]; first | exact (endC_yy (by assumption) (by assumption)).symm | exact (endC_yn (by assumption) (by assumption)).symm | exact (endC_ny (by assumption) (by assumption)).symm | exact (endC_nn (by assumption) (by assumption)).symm⟩
                · refine g_iconst (pc9 := 146) C rfl (nI (1)) dX9_compareTexts_145 rfl ?_
                  refine g_goto C 150 dX9_compareTexts_146 rfl ?_
                  refine g_isub (pc9 := 151) C rfl dX9_compareTexts_150 ?_
                  exact g_ireturn C hr hlk dX9_compareTexts_151 ⟨rfl, by rw [← hc]; first | exact (endC_yy (by assumption) (by assumption)).symm | exact (endC_yn (by assumption) (by assumption)).symm | exact (endC_ny (by assumption) (by assumption)).symm | exact (endC_nn (by assumption) (by assumption)).symm⟩
              · exact absurd c_11 c_12
            · have hna := c_11
              refine g_iload (pc9 := 77) C rfl 1 dX9_compareTexts_75 rfl ?_
              refine g_iconst (pc9 := 78) C rfl ((-1)) dX9_compareTexts_77 rfl ?_
              refine g_icmp_eq (pc9 := 81) C rfl 128 dX9_compareTexts_78 rfl (fun c_14 => ?_) (fun c_14 => ?_)
              · rw [cmpL_s (by omega), if_pos (Or.inr c_14)] at hc
                refine g_iload (pc9 := 130) C rfl 2 dX9_compareTexts_128 rfl ?_
                refine g_iconst (pc9 := 131) C rfl ((-1)) dX9_compareTexts_130 rfl ?_
                refine g_icmp_eq (pc9 := 134) C rfl 138 dX9_compareTexts_131 rfl (fun c_15 => ?_) (fun c_15 => ?_)
                · exact absurd c_15 c_11
                · refine g_iconst (pc9 := 135) C rfl (nI (1)) dX9_compareTexts_134 rfl ?_
                  refine g_goto C 139 dX9_compareTexts_135 rfl ?_
                  refine g_iload (pc9 := 141) C rfl 1 dX9_compareTexts_139 rfl ?_
                  refine g_iconst (pc9 := 142) C rfl ((-1)) dX9_compareTexts_141 rfl ?_
                  refine g_icmp_eq (pc9 := 145) C rfl 149 dX9_compareTexts_142 rfl (fun c_16 => ?_) (fun c_16 => ?_)
                  · refine g_iconst (pc9 := 150) C rfl (nI (0)) dX9_compareTexts_149 rfl ?_
                    refine g_isub (pc9 := 151) C rfl dX9_compareTexts_150 ?_
                    exact g_ireturn C hr hlk dX9_compareTexts_151 ⟨rfl, by rw [← hc]; first | exact (endC_yy (by assumption) (by assumption)).symm | exact (endC_yn (by assumption) (by assumption)).symm | exact (endC_ny (by assumption) (by assumption)).symm | exact (endC_nn (by assumption) (by assumption)).symm⟩
                  · exact absurd c_14 c_16
              · have hnb := c_14
                obtain ⟨a9, ha9, rfl⟩ := hxa.resolve_left hna
                obtain ⟨b9, hb9, rfl⟩ := hxb.resolve_left hnb
                rw [cmpL_s (by omega), if_neg (fun h => h.elim hna hnb), nI_clamp (by omega), nI_clamp (by omega)] at hc
                refine g_aload_n (pc9 := 82) C rfl 5 dX9_compareTexts_81 rfl rfl ?_
                refine g_aload_n (pc9 := 83) C rfl 6 dX9_compareTexts_82 rfl rfl ?_
                refine g_iload (pc9 := 85) C rfl 2 dX9_compareTexts_83 rfl ?_
                refine g_iload (pc9 := 87) C rfl 1 dX9_compareTexts_85 rfl ?_
                refine g_iload (pc9 := 89) C rfl 9 dX9_compareTexts_87 rfl ?_
                refine g_iconst (pc9 := 90) C rfl (nI (1)) dX9_compareTexts_89 rfl ?_
                refine g_iaddN (pc9 := 91) C rfl dX9_compareTexts_90 ?_
                refine g_callVi (nn := 4) (rest := []) (pc9 := 94) C rfl (36) [.ref (w.1 (64 + 5 * j)), .int (nI (a9)), .int (nI (b9)), .int (nI (e9 + 1))] rfl dX9_compareTexts_91 (ih a9 b9 ha9 hb9 _ (by omega)) gX9_compareTexts_X9_compareTexts (by decide) (ce_36 w (σ)) rfl rfl rfl rfl rfl (by decide +kernel) ⟨by simp only [rmL]; omega, by simp only [rmL]; omega⟩ rfl (Nat.le_of_ble_eq_true rfl) ⟨Nat.le_refl _, Nat.le_refl _⟩ (fun r_17 σ_17 q_17 => ?_)
                obtain ⟨qs_17, qr_17⟩ := q_17
                rw [qs_17, qr_17]
                clear qs_17 qr_17
                refine g_istore (pc9 := 96) C rfl [(10, .int (cmpT (tK σ j) (iA σ 38) (iA σ 39) (d) a9 b9)), (9, .int (nI (t))), (8, .int (nI (b9))), (7, .int (nI (a9))), (6, .int ((iA σ (66 + 5 * j)) (u))), (5, .int ((iA σ (66 + 5 * j)) (v))), (0, .ref (w.1 (36))), (1, .ref (w.1 (64 + 5 * j))), (2, .int (nI (v))), (3, .int (nI (u))), (4, .int (nI (e9)))] dX9_compareTexts_94 (by decide) rfl ?_
                refine g_iload (pc9 := 98) C rfl 0 dX9_compareTexts_96 rfl ?_
                refine g_if_eq (pc9 := 101) C rfl 104 dX9_compareTexts_98 rfl (fun c_18 => ?_) (fun c_18 => ?_)
                · rw [if_pos c_18] at hc
                  refine g_aload_n (pc9 := 105) C rfl 6 dX9_compareTexts_104 rfl rfl ?_
                  refine g_get (v := .ref (w.1 (39))) (pc9 := 108) C rfl (36) 3 dX9_compareTexts_105 (by decide) (ce_36 w (σ)) hin_9 hl_18 rfl (by decide) rfl rfl ?_
                  refine g_iload (pc9 := 110) C rfl 3 dX9_compareTexts_108 rfl ?_
                  refine g_iald (x := (iA σ (39)) (a9)) (pc9 := 111) C rfl (39) (a9) dX9_compareTexts_110 (by decide) (ce_39 w (σ)) rfl (by omega) (by decide) rfl ?_
                  refine g_istore (pc9 := 113) C rfl [(7, .int ((iA σ (39)) (a9))), (10, .int (cmpT (tK σ j) (iA σ 38) (iA σ 39) (d) a9 b9)), (9, .int (nI (t))), (8, .int (nI (b9))), (6, .int ((iA σ (66 + 5 * j)) (u))), (5, .int ((iA σ (66 + 5 * j)) (v))), (0, .ref (w.1 (36))), (1, .ref (w.1 (64 + 5 * j))), (2, .int (nI (v))), (3, .int (nI (u))), (4, .int (nI (e9)))] dX9_compareTexts_111 (by decide) rfl ?_
                  refine g_aload_n (pc9 := 114) C rfl 6 dX9_compareTexts_113 rfl rfl ?_
                  refine g_get (v := .ref (w.1 (39))) (pc9 := 117) C rfl (36) 3 dX9_compareTexts_114 (by decide) (ce_36 w (σ)) hin_9 hl_18 rfl (by decide) rfl rfl ?_
                  refine g_iload (pc9 := 119) C rfl 3 dX9_compareTexts_117 rfl ?_
                  refine g_iald (x := (iA σ (39)) (b9)) (pc9 := 120) C rfl (39) (b9) dX9_compareTexts_119 (by decide) (ce_39 w (σ)) rfl (by omega) (by decide) rfl ?_
                  refine g_istore (pc9 := 122) C rfl [(8, .int ((iA σ (39)) (b9))), (7, .int ((iA σ (39)) (a9))), (10, .int (cmpT (tK σ j) (iA σ 38) (iA σ 39) (d) a9 b9)), (9, .int (nI (t))), (6, .int ((iA σ (66 + 5 * j)) (u))), (5, .int ((iA σ (66 + 5 * j)) (v))), (0, .ref (w.1 (36))), (1, .ref (w.1 (64 + 5 * j))), (2, .int (nI (v))), (3, .int (nI (u))), (4, .int (nI (e9)))] dX9_compareTexts_120 (by decide) rfl ?_
                  refine g_iinc (pc9 := 125) C rfl [(9, .int (nI (t + 1))), (8, .int ((iA σ (39)) (b9))), (7, .int ((iA σ (39)) (a9))), (10, .int (cmpT (tK σ j) (iA σ 38) (iA σ 39) (d) a9 b9)), (6, .int ((iA σ (66 + 5 * j)) (u))), (5, .int ((iA σ (66 + 5 * j)) (v))), (0, .ref (w.1 (36))), (1, .ref (w.1 (64 + 5 * j))), (2, .int (nI (v))), (3, .int (nI (u))), (4, .int (nI (e9)))] 3 (nI (t + 1)) dX9_compareTexts_122 rfl (nI_1 (t)) (by decide) rfl ?_
                  refine g_goto C 62 dX9_compareTexts_125 rfl ?_
                  refine g_sub [0, 1, 2, 4, 5, 6, 7, 8, 9, 10] [(9, .int (nI (t + 1))), (8, .int ((iA σ (39)) (b9))), (7, .int ((iA σ (39)) (a9))), (6, .int ((iA σ (66 + 5 * j)) (u))), (5, .int ((iA σ (66 + 5 * j)) (v))), (0, .ref (w.1 (36))), (1, .ref (w.1 (64 + 5 * j))), (2, .int (nI (v))), (3, .int (nI (u))), (4, .int (nI (e9)))] rfl ?_
                  exact ih2 (t + 1) _ _ ⟨by omega, hg a9 ha9, hg b9 hb9, hc⟩ (by omega)
                · rw [if_neg c_18] at hc
                  refine g_iload (pc9 := 103) C rfl 0 dX9_compareTexts_101 rfl ?_
                  exact g_ireturn C hr hlk dX9_compareTexts_103 ⟨rfl, hc⟩
        · replace c_6 := (not_congr (nI_leI (by omega) (by omega))).mp c_6
          exact absurd he (by omega)
      · have hkv : ¬ (tK σ j v = -1 ∧ tK σ j u = -1) := fun h => c_5 h.2
        refine g_iload (pc9 := 30) C rfl 1 dX9_compareTexts_28 rfl ?_
        refine g_iload (pc9 := 32) C rfl 0 dX9_compareTexts_30 rfl ?_
        refine g_isub (pc9 := 33) C rfl dX9_compareTexts_32 ?_
        exact g_ireturn C hr hlk dX9_compareTexts_33 ⟨rfl, by unfold cmpT; exact (if_neg hkv).symm⟩

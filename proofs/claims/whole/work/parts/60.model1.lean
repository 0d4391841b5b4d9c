/-! The reference: its shelves -/
abbrev mN (σ : St) (i : Nat) : Nat := (iA σ 2 i).toNatClampNeg
abbrev mP (σ : St) (i v : Nat) : Int32 := iA σ 3 (47 * i + v)
abbrev mK (σ : St) (i v : Nat) : Int32 := iA σ 4 (47 * i + v)
abbrev mp (σ : St) (i v : Nat) : Nat := (mP σ i v).toNatClampNeg
def mtOk (σ : St) (i : Nat) : Prop := iA σ 2 i = nI (mN σ i) ∧ mN σ i ≤ 47 ∧ (∀ v, 0 < v → v < mN σ i → mP σ i v = nI (mp σ i v) ∧ mp σ i v < v) ∧ (0 < mN σ i → mP σ i 0 = -1) ∧ (∀ v, v < mN σ i → mK σ i v = -1 ∨ ∃ q, q < 12 ∧ mK σ i v = nI q)
/-- thrown: none, or a code -/
abbrev mT (σ : St) (k : Nat) : St := sN σ 0 0 (nI k)
set_option maxRecDepth 100000 in
set_option maxHeartbeats 4000000 in
theorem m_X11_thrown (l : Launch) (w : Wd) (σ : St)  : MI l yX11_thrown wsX11_thrown (rmL 1) w [.ref (w.1 (0))] (σ) (fun r σ9 => σ9 = σ ∧ r = nF σ 0 0) := by
  refine MI_of (cc := cX11_thrown) (maxL := 1) (ret := .int) (by decide) rfl (Nat.le_of_ble_eq_true rfl) ?_
  intro p e s m args below meth c A C hr hlk
  have C : Cx p s m args c w A cX11_thrown RX11 1 wsX11_thrown := C
  have hin_11 : ∀ u ∈ wsX110, u ∈ wsX11_thrown := by decide +kernel
  have hl_107 : Cond.fieldLink RX11 107 "LineageBenchModel" "thrown" "I" ∈ wsX11_thrown := by decide +kernel
  refine g_aload_n (pc9 := 1) C rfl 0 dX11_thrown_0 rfl rfl ?_
  refine g_get (v := .int (nF σ (0) 0)) (pc9 := 4) C rfl (0) 0 dX11_thrown_1 (by decide) (ce_0 w (σ)) hin_11 hl_107 rfl (by decide) rfl rfl ?_
  exact g_ireturn C hr hlk dX11_thrown_4 ⟨rfl, rfl⟩
set_option maxRecDepth 100000 in
set_option maxHeartbeats 4000000 in
theorem m_throws0 (l : Launch) (w : Wd) (σ : St) (k : Nat) : MI l yX11_throwsIf wsX11_throwsIf (rmL 1) w [.ref (w.1 (0)), .int (nI (0)), .int (nI (k))] (σ) (fun r σ9 => σ9 = σ ∧ r = nI 0) := by
  refine MI_of (cc := cX11_throwsIf) (maxL := 3) (ret := .boolean) (by decide) rfl (Nat.le_of_ble_eq_true rfl) ?_
  intro p e s m args below meth c A C hr hlk
  have C : Cx p s m args c w A cX11_throwsIf RX11 3 wsX11_throwsIf := C
  refine g_iload_n (pc9 := 1) C rfl 1 dX11_throwsIf_0 rfl rfl ?_
  refine g_if_eq (pc9 := 4) C rfl 9 dX11_throwsIf_1 rfl (fun c_1 => ?_) (fun c_1 => ?_)
  · refine g_iload_n (pc9 := 10) C rfl 1 dX11_throwsIf_9 rfl rfl ?_
    exact g_zreturn C hr hlk dX11_throwsIf_10 (by decide) ⟨rfl, rfl⟩
  · exact absurd c_1 (by decide)
set_option maxRecDepth 100000 in
set_option maxHeartbeats 4000000 in
theorem m_throws1 (l : Launch) (w : Wd) (σ : St) (k : Nat) : MI l yX11_throwsIf wsX11_throwsIf (rmL 1) w [.ref (w.1 (0)), .int (nI (1)), .int (nI (k))] (σ) (fun r σ9 => σ9 = mT σ k ∧ r = nI 1) := by
  refine MI_of (cc := cX11_throwsIf) (maxL := 3) (ret := .boolean) (by decide) rfl (Nat.le_of_ble_eq_true rfl) ?_
  intro p e s m args below meth c A C hr hlk
  have C : Cx p s m args c w A cX11_throwsIf RX11 3 wsX11_throwsIf := C
  have hin_11 : ∀ u ∈ wsX110, u ∈ wsX11_throwsIf := by decide +kernel
  have hl_107 : Cond.fieldLink RX11 107 "LineageBenchModel" "thrown" "I" ∈ wsX11_throwsIf := by decide +kernel
  refine g_iload_n (pc9 := 1) C rfl 1 dX11_throwsIf_0 rfl rfl ?_
  refine g_if_eq (pc9 := 4) C rfl 9 dX11_throwsIf_1 rfl (fun c_1 => ?_) (fun c_1 => ?_)
  · exact absurd c_1 (by decide)
  · refine g_aload_n (pc9 := 5) C rfl 0 dX11_throwsIf_4 rfl rfl ?_
    refine g_iload_n (pc9 := 6) C rfl 2 dX11_throwsIf_5 rfl rfl ?_
    refine g_put (pc9 := 9) C rfl (0) 0 dX11_throwsIf_6 (by decide) (ce_0 w (σ)) (rfl) hin_11 hl_107 tyX11 tyX11_ok nmX11 rfl (by decide) rfl rfl rfl (Nat.le_of_ble_eq_true rfl) ?_
    refine g_iload_n (pc9 := 10) C rfl 1 dX11_throwsIf_9 rfl rfl ?_
    exact g_zreturn C hr hlk dX11_throwsIf_10 (by decide) ⟨rfl, rfl⟩
set_option maxRecDepth 100000 in
set_option maxHeartbeats 4000000 in
theorem m_X11_noShelf (l : Launch) (w : Wd) (σ : St) (x : Int32) : MI l yX11_noShelf wsX11_noShelf (rmL 1) w [.int (x)] (σ) (fun r σ9 => σ9 = σ ∧ r = pI (¬ okI 8 x)) := by
  refine MI_of (cc := cX11_noShelf) (maxL := 1) (ret := .boolean) (by decide) rfl (Nat.le_of_ble_eq_true rfl) ?_
  intro p e s m args below meth c A C hr hlk
  have C : Cx p s m args c w A cX11_noShelf RX11 1 wsX11_noShelf := C
  refine g_iload_n (pc9 := 1) C rfl 0 dX11_noShelf_0 rfl rfl ?_
  refine g_if_lt (pc9 := 4) C rfl 10 dX11_noShelf_1 rfl (fun c_1 => ?_) (fun c_1 => ?_)
  · have hq : ¬ okI 8 x := okI_neg (by decide) c_1
    refine g_iconst (pc9 := 11) C rfl (nI (1)) dX11_noShelf_10 rfl ?_
    refine g_goto C 15 dX11_noShelf_11 rfl ?_
    exact g_zreturn C hr hlk dX11_noShelf_15 (by decide) ⟨rfl, by first | exact (pI_t hq).symm | exact (pI_f (fun h => h hq)).symm⟩
  · have h0 : ¬ x < 0 := c_1
    refine g_iload_n (pc9 := 5) C rfl 0 dX11_noShelf_4 rfl rfl ?_
    refine g_bipush (pc9 := 7) C rfl (nI (8)) dX11_noShelf_5 rfl ?_
    refine g_icmp_lt (pc9 := 10) C rfl 14 dX11_noShelf_7 rfl (fun c_2 => ?_) (fun c_2 => ?_)
    · have hq : okI 8 x := okI_of (by decide) h0 c_2
      refine g_iconst (pc9 := 15) C rfl (nI (0)) dX11_noShelf_14 rfl ?_
      exact g_zreturn C hr hlk dX11_noShelf_15 (by decide) ⟨rfl, by first | exact (pI_t hq).symm | exact (pI_f (fun h => h hq)).symm⟩
    · have hq : ¬ okI 8 x := okI_big (by decide) c_2
      refine g_iconst (pc9 := 11) C rfl (nI (1)) dX11_noShelf_10 rfl ?_
      refine g_goto C 15 dX11_noShelf_11 rfl ?_
      exact g_zreturn C hr hlk dX11_noShelf_15 (by decide) ⟨rfl, by first | exact (pI_t hq).symm | exact (pI_f (fun h => h hq)).symm⟩
set_option maxRecDepth 100000 in
set_option maxHeartbeats 4000000 in
theorem m_X11_noKind (l : Launch) (w : Wd) (σ : St) (x : Int32) : MI l yX11_noKind wsX11_noKind (rmL 1) w [.int (x)] (σ) (fun r σ9 => σ9 = σ ∧ r = pI (¬ okI 12 x)) := by
  refine MI_of (cc := cX11_noKind) (maxL := 1) (ret := .boolean) (by decide) rfl (Nat.le_of_ble_eq_true rfl) ?_
  intro p e s m args below meth c A C hr hlk
  have C : Cx p s m args c w A cX11_noKind RX11 1 wsX11_noKind := C
  refine g_iload_n (pc9 := 1) C rfl 0 dX11_noKind_0 rfl rfl ?_
  refine g_if_lt (pc9 := 4) C rfl 10 dX11_noKind_1 rfl (fun c_1 => ?_) (fun c_1 => ?_)
  · have hq : ¬ okI 12 x := okI_neg (by decide) c_1
    refine g_iconst (pc9 := 11) C rfl (nI (1)) dX11_noKind_10 rfl ?_
    refine g_goto C 15 dX11_noKind_11 rfl ?_
    exact g_zreturn C hr hlk dX11_noKind_15 (by decide) ⟨rfl, by first | exact (pI_t hq).symm | exact (pI_f (fun h => h hq)).symm⟩
  · have h0 : ¬ x < 0 := c_1
    refine g_iload_n (pc9 := 5) C rfl 0 dX11_noKind_4 rfl rfl ?_
    refine g_bipush (pc9 := 7) C rfl (nI (12)) dX11_noKind_5 rfl ?_
    refine g_icmp_lt (pc9 := 10) C rfl 14 dX11_noKind_7 rfl (fun c_2 => ?_) (fun c_2 => ?_)
    · have hq : okI 12 x := okI_of (by decide) h0 c_2
      refine g_iconst (pc9 := 15) C rfl (nI (0)) dX11_noKind_14 rfl ?_
      exact g_zreturn C hr hlk dX11_noKind_15 (by decide) ⟨rfl, by first | exact (pI_t hq).symm | exact (pI_f (fun h => h hq)).symm⟩
    · have hq : ¬ okI 12 x := okI_big (by decide) c_2
      refine g_iconst (pc9 := 11) C rfl (nI (1)) dX11_noKind_10 rfl ?_
      refine g_goto C 15 dX11_noKind_11 rfl ?_
      exact g_zreturn C hr hlk dX11_noKind_15 (by decide) ⟨rfl, by first | exact (pI_t hq).symm | exact (pI_f (fun h => h hq)).symm⟩
def mB (k : Int32) : Int32 := if k < 0 then nI 0 else nI 1 <<< (k &&& 31)
abbrev mC0 (σ : St) (i : Nat) : Nat → Int32 := fillG (fun v => mB (mK σ i v)) (iA σ 12) (mN σ i)
abbrev mC (σ : St) (i : Nat) : Nat → Int32 := gath (mp σ i) (mN σ i - 1) (mC0 σ i)
set_option maxRecDepth 100000 in
set_option maxHeartbeats 4000000 in
theorem m_X11_clusters (l : Launch) (w : Wd) (σ : St) (i : Nat) (hi : i < 8) (hm : mtOk σ i) (h0 : 0 < mN σ i) : MV l yX11_clusters wsX11_clusters (rmL 1) w [.ref (w.1 (0)), .int (nI (i))] (σ) (fun σ9 => σ9 = sI σ 12 (mC σ i)) := by
  refine MV_of (cc := cX11_clusters) (maxL := 3) (by decide) rfl (Nat.le_of_ble_eq_true rfl) ?_
  intro p e s m args below meth c A C hr hlk
  have C : Cx p s m args c w A cX11_clusters RX11 3 wsX11_clusters := C
  have hin_11 : ∀ u ∈ wsX110, u ∈ wsX11_clusters := by decide +kernel
  have hl_17 : Cond.fieldLink RX11 17 "LineageBenchModel" "many" "[I" ∈ wsX11_clusters := by decide +kernel
  have hl_21 : Cond.fieldLink RX11 21 "LineageBenchModel" "parent" "[I" ∈ wsX11_clusters := by decide +kernel
  have hl_24 : Cond.fieldLink RX11 24 "LineageBenchModel" "kind" "[I" ∈ wsX11_clusters := by decide +kernel
  have hl_51 : Cond.fieldLink RX11 51 "LineageBenchModel" "clusters" "[I" ∈ wsX11_clusters := by decide +kernel
  refine g_st (σ9 := sI σ 12 (iA σ 12)) sI_self.symm ?_
  have h47 := hm.2.1
  refine g_iconst (pc9 := 1) C rfl (nI (0)) dX11_clusters_0 rfl ?_
  refine g_istore_n (pc9 := 2) C rfl [(2, .int (nI (0))), (0, .ref (w.1 (0))), (1, .int (nI (i)))] dX11_clusters_1 rfl (by decide) rfl ?_
  refine g_sub [0, 1, 2] [(2, .int (nI (0))), (0, .ref (w.1 (0))), (1, .int (nI (i)))] rfl ?_
  refine g_st (σ9 := sI σ 12 (fillG (fun v => mB (mK σ i v)) (iA σ 12) 0)) (congrArg (sI σ 12) (fillG_0 (fun v => mB (mK σ i v)) (iA σ 12)).symm) ?_
  refine g_lp1 (α := Nat) (fun v => v ≤ mN σ i) (fun v => mN σ i - v) (fun v => G p l e _ s m args below meth c _ w A _ (sI σ (12) (fillG (fun v => mB (mK σ i v)) (iA σ 12) v)) 0 0 2 [(2, .int (nI (v))), (0, .ref (w.1 (0))), (1, .int (nI (i)))] []) (fun v hI ih => ?_) (0) (Nat.zero_le _)
  obtain hv := hI
  refine g_iload_n (pc9 := 3) C rfl 0 dX11_clusters_2 rfl rfl ?_
  refine g_aload_n (pc9 := 4) C rfl 1 dX11_clusters_3 rfl rfl ?_
  refine g_get (v := .ref (w.1 (2))) (pc9 := 7) C rfl (0) 5 dX11_clusters_4 (by decide) (ce_0 w (sI σ (12) (fillG (fun v => mB (mK σ i v)) (iA σ 12) v))) hin_11 hl_17 rfl (by decide) rfl rfl ?_
  refine g_iload_n (pc9 := 8) C rfl 2 dX11_clusters_7 rfl rfl ?_
  refine g_iald (x := nI (mN σ (i))) (pc9 := 9) C rfl (2) (i) dX11_clusters_8 (by decide) (ce_2 w (sI σ (12) (fillG (fun v => mB (mK σ i v)) (iA σ 12) v))) rfl (by omega) (by decide) ((congrFun (iA_n (by decide)) _).trans hm.1) ?_
  refine g_icmp_ge (pc9 := 12) C rfl 55 dX11_clusters_9 rfl (fun c_1 => ?_) (fun c_1 => ?_)
  · replace c_1 := (nI_leI (by omega) (by omega)).mp c_1
    refine g_aload_n (pc9 := 56) C rfl 1 dX11_clusters_55 rfl rfl ?_
    refine g_get (v := .ref (w.1 (2))) (pc9 := 59) C rfl (0) 5 dX11_clusters_56 (by decide) (ce_0 w (sI σ (12) (fillG (fun v => mB (mK σ i v)) (iA σ 12) v))) hin_11 hl_17 rfl (by decide) rfl rfl ?_
    refine g_iload_n (pc9 := 60) C rfl 2 dX11_clusters_59 rfl rfl ?_
    refine g_iald (x := nI (mN σ (i))) (pc9 := 61) C rfl (2) (i) dX11_clusters_60 (by decide) (ce_2 w (sI σ (12) (fillG (fun v => mB (mK σ i v)) (iA σ 12) v))) rfl (by omega) (by decide) ((congrFun (iA_n (by decide)) _).trans hm.1) ?_
    refine g_iconst (pc9 := 62) C rfl (nI (1)) dX11_clusters_61 rfl ?_
    refine g_isubN (pc9 := 63) C rfl dX11_clusters_62 (by omega) ?_
    refine g_istore_n (pc9 := 64) C rfl [(2, .int (nI ((mN σ (i)) - (1)))), (0, .ref (w.1 (0))), (1, .int (nI (i)))] dX11_clusters_63 rfl (by decide) rfl ?_
    have hv9 : v = mN σ i := by omega
    refine g_sub [0, 1, 2] [(2, .int (nI ((mN σ (i)) - (1)))), (0, .ref (w.1 (0))), (1, .int (nI (i)))] rfl ?_
    refine g_st (σ9 := sI σ 12 (mC0 σ i)) (by rw [hv9]) ?_
    refine g_lp2 (α := Nat) (β := Nat → Int32) (fun u d => u < mN σ i ∧ gath (mp σ i) u d = mC σ i) (fun u d => u) (fun u d => G p l e _ s m args below meth c _ w A _ (sI σ (12) (d)) 0 0 64 [(2, .int (nI (u))), (0, .ref (w.1 (0))), (1, .int (nI (i)))] []) (fun u d hI ih2 => ?_) (mN σ i - 1) (mC0 σ i) ⟨by omega, rfl⟩
    obtain ⟨hu, hd⟩ := hI
    refine g_iload_n (pc9 := 65) C rfl 0 dX11_clusters_64 rfl rfl ?_
    refine g_if_le (pc9 := 68) C rfl 99 dX11_clusters_65 rfl (fun c_2 => ?_) (fun c_2 => ?_)
    · replace c_2 := (z_le (by omega)).mp c_2
      exact g_return C hr hlk dX11_clusters_99 (by rw [← hd, show u = 0 by omega]; rfl)
    · replace c_2 := (not_congr (z_le (by omega))).mp c_2
      have hPv := (hm.2.2.1 u (by omega) (by omega)).2
      refine g_aload_n (pc9 := 69) C rfl 1 dX11_clusters_68 rfl rfl ?_
      refine g_get (v := .ref (w.1 (12))) (pc9 := 72) C rfl (0) 19 dX11_clusters_69 (by decide) (ce_0 w (sI σ (12) (d))) hin_11 hl_51 rfl (by decide) rfl rfl ?_
      refine g_aload_n (pc9 := 73) C rfl 1 dX11_clusters_72 rfl rfl ?_
      refine g_get (v := .ref (w.1 (3))) (pc9 := 76) C rfl (0) 6 dX11_clusters_73 (by decide) (ce_0 w (sI σ (12) (d))) hin_11 hl_21 rfl (by decide) rfl rfl ?_
      refine g_bipush (pc9 := 78) C rfl (nI (47)) dX11_clusters_76 rfl ?_
      refine g_iload_n (pc9 := 79) C rfl 2 dX11_clusters_78 rfl rfl ?_
      refine g_imulN (pc9 := 80) C rfl dX11_clusters_79 ?_
      refine g_iload_n (pc9 := 81) C rfl 0 dX11_clusters_80 rfl rfl ?_
      refine g_iaddN (pc9 := 82) C rfl dX11_clusters_81 ?_
      refine g_iald (x := nI (mp σ i u)) (pc9 := 83) C rfl (3) ((47 * i) + u) dX11_clusters_82 (by decide) (ce_3 w (sI σ (12) (d))) rfl (by omega) (by decide) ((congrFun (iA_n (by decide)) _).trans (hm.2.2.1 u (by omega) (by omega)).1) ?_
      refine g_dup2 (pc9 := 84) C rfl dX11_clusters_83 rfl rfl ?_
      refine g_iald (x := d (mp σ i u)) (pc9 := 85) C rfl (12) (mp σ i u) dX11_clusters_84 (by decide) (ce_12 w (sI σ (12) (d))) rfl (by omega) (by decide) (congrFun (iA_s) _) ?_
      refine g_aload_n (pc9 := 86) C rfl 1 dX11_clusters_85 rfl rfl ?_
      refine g_get (v := .ref (w.1 (12))) (pc9 := 89) C rfl (0) 19 dX11_clusters_86 (by decide) (ce_0 w (sI σ (12) (d))) hin_11 hl_51 rfl (by decide) rfl rfl ?_
      refine g_iload_n (pc9 := 90) C rfl 0 dX11_clusters_89 rfl rfl ?_
      refine g_iald (x := d (u)) (pc9 := 91) C rfl (12) (u) dX11_clusters_90 (by decide) (ce_12 w (sI σ (12) (d))) rfl (by omega) (by decide) (congrFun (iA_s) _) ?_
      refine g_ior (pc9 := 92) C rfl dX11_clusters_91 ?_
      refine g_iast (pc9 := 93) C rfl (12) (mp σ i u) (d) dX11_clusters_92 (by decide) (fun _ => rfl) (ce_12 w (sI σ (12) (d))) rfl (by omega) (by decide) (iA_s) ?_
      rw [sI_sI (a := 12)]
      refine g_iinc (pc9 := 96) C rfl [(2, .int (nI (u - 1))), (0, .ref (w.1 (0))), (1, .int (nI (i)))] 0 (nI (u - 1)) dX11_clusters_93 rfl (sb_m1 (by omega)) (by decide) rfl ?_
      refine g_goto C 64 dX11_clusters_96 rfl ?_
      exact ih2 (u - 1) (upd (d) (mp σ i u) ((d (mp σ i u)) ||| (d (u)))) ⟨by omega, (gath_st (by omega)).symm.trans hd⟩ (by omega)
  · replace c_1 := (not_congr (nI_leI (by omega) (by omega))).mp c_1
    refine g_aload_n (pc9 := 13) C rfl 1 dX11_clusters_12 rfl rfl ?_
    refine g_get (v := .ref (w.1 (12))) (pc9 := 16) C rfl (0) 19 dX11_clusters_13 (by decide) (ce_0 w (sI σ (12) (fillG (fun v => mB (mK σ i v)) (iA σ 12) v))) hin_11 hl_51 rfl (by decide) rfl rfl ?_
    refine g_iload_n (pc9 := 17) C rfl 0 dX11_clusters_16 rfl rfl ?_
    refine g_aload_n (pc9 := 18) C rfl 1 dX11_clusters_17 rfl rfl ?_
    refine g_get (v := .ref (w.1 (4))) (pc9 := 21) C rfl (0) 7 dX11_clusters_18 (by decide) (ce_0 w (sI σ (12) (fillG (fun v => mB (mK σ i v)) (iA σ 12) v))) hin_11 hl_24 rfl (by decide) rfl rfl ?_
    refine g_bipush (pc9 := 23) C rfl (nI (47)) dX11_clusters_21 rfl ?_
    refine g_iload_n (pc9 := 24) C rfl 2 dX11_clusters_23 rfl rfl ?_
    refine g_imulN (pc9 := 25) C rfl dX11_clusters_24 ?_
    refine g_iload_n (pc9 := 26) C rfl 0 dX11_clusters_25 rfl rfl ?_
    refine g_iaddN (pc9 := 27) C rfl dX11_clusters_26 ?_
    refine g_iald (x := (iA σ (4)) ((47 * i) + v)) (pc9 := 28) C rfl (4) ((47 * i) + v) dX11_clusters_27 (by decide) (ce_4 w (sI σ (12) (fillG (fun v => mB (mK σ i v)) (iA σ 12) v))) rfl (by omega) (by decide) (congrFun (iA_n (by decide)) _) ?_
    refine g_if_lt (pc9 := 31) C rfl 47 dX11_clusters_28 rfl (fun c_3 => ?_) (fun c_3 => ?_)
    · have hb : mB (mK σ i v) = nI 0 := if_pos c_3
      refine g_iconst (pc9 := 48) C rfl (nI (0)) dX11_clusters_47 rfl ?_
      refine g_iast (pc9 := 49) C rfl (12) (v) (fillG (fun v => mB (mK σ i v)) (iA σ 12) v) dX11_clusters_48 (by decide) (fun _ => rfl) (ce_12 w (sI σ (12) (fillG (fun v => mB (mK σ i v)) (iA σ 12) v))) rfl (by omega) (by decide) (iA_s) ?_
      rw [sI_sI (a := 12)]
      refine g_iinc (pc9 := 52) C rfl [(2, .int (nI (v + 1))), (0, .ref (w.1 (0))), (1, .int (nI (i)))] 0 (nI (v + 1)) dX11_clusters_49 rfl (nI_1 (v)) (by decide) rfl ?_
      refine g_goto C 2 dX11_clusters_52 rfl ?_
      refine g_sub [0, 1, 2] [(2, .int (nI (v + 1))), (0, .ref (w.1 (0))), (1, .int (nI (i)))] rfl ?_
      refine g_st (σ9 := sI σ 12 (fillG (fun v => mB (mK σ i v)) (iA σ 12) (v + 1))) (congrArg (sI σ 12) (by rw [← hb]; exact fillG_s (fun v => mB (mK σ i v)) (iA σ 12) v)) ?_
      exact ih (v + 1) (by omega) (by omega)
    · have hb : mB (mK σ i v) = nI 1 <<< (mK σ i v &&& 31) := if_neg c_3
      refine g_iconst (pc9 := 32) C rfl (nI (1)) dX11_clusters_31 rfl ?_
      refine g_aload_n (pc9 := 33) C rfl 1 dX11_clusters_32 rfl rfl ?_
      refine g_get (v := .ref (w.1 (4))) (pc9 := 36) C rfl (0) 7 dX11_clusters_33 (by decide) (ce_0 w (sI σ (12) (fillG (fun v => mB (mK σ i v)) (iA σ 12) v))) hin_11 hl_24 rfl (by decide) rfl rfl ?_
      refine g_bipush (pc9 := 38) C rfl (nI (47)) dX11_clusters_36 rfl ?_
      refine g_iload_n (pc9 := 39) C rfl 2 dX11_clusters_38 rfl rfl ?_
      refine g_imulN (pc9 := 40) C rfl dX11_clusters_39 ?_
      refine g_iload_n (pc9 := 41) C rfl 0 dX11_clusters_40 rfl rfl ?_
      refine g_iaddN (pc9 := 42) C rfl dX11_clusters_41 ?_
      refine g_iald (x := (iA σ (4)) ((47 * i) + v)) (pc9 := 43) C rfl (4) ((47 * i) + v) dX11_clusters_42 (by decide) (ce_4 w (sI σ (12) (fillG (fun v => mB (mK σ i v)) (iA σ 12) v))) rfl (by omega) (by decide) (congrFun (iA_n (by decide)) _) ?_
      refine g_ishl (pc9 := 44) C rfl dX11_clusters_43 ?_
      refine g_goto C 48 dX11_clusters_44 rfl ?_
      refine g_iast (pc9 := 49) C rfl (12) (v) (fillG (fun v => mB (mK σ i v)) (iA σ 12) v) dX11_clusters_48 (by decide) (fun _ => rfl) (ce_12 w (sI σ (12) (fillG (fun v => mB (mK σ i v)) (iA σ 12) v))) rfl (by omega) (by decide) (iA_s) ?_
      rw [sI_sI (a := 12)]
      refine g_iinc (pc9 := 52) C rfl [(2, .int (nI (v + 1))), (0, .ref (w.1 (0))), (1, .int (nI (i)))] 0 (nI (v + 1)) dX11_clusters_49 rfl (nI_1 (v)) (by decide) rfl ?_
      refine g_goto C 2 dX11_clusters_52 rfl ?_
      refine g_sub [0, 1, 2] [(2, .int (nI (v + 1))), (0, .ref (w.1 (0))), (1, .int (nI (i)))] rfl ?_
      refine g_st (σ9 := sI σ 12 (fillG (fun v => mB (mK σ i v)) (iA σ 12) (v + 1))) (congrArg (sI σ 12) (by rw [← hb]; exact fillG_s (fun v => mB (mK σ i v)) (iA σ 12) v)) ?_
      exact ih (v + 1) (by omega) (by omega)
def orU (f : Nat → Int32) : Nat → Int32
  | 0 => nI 0
  | k + 1 => orU f k ||| f k
abbrev mKs (σ : St) (i : Nat) : Int32 := orU (fun v => mB (mK σ i v)) (mN σ i)
abbrev mLf (σ : St) (i : Nat) : Nat → Prop := fun v => ¬ mK σ i v < 0
noncomputable abbrev mLs (σ : St) (i : Nat) : Nat := cntU (mLf σ i) (mN σ i)
abbrev mPl (σ : St) (i : Nat) : Prop := 0 < mN σ i ∧ bC (mKs σ i) = nI (mLs σ i)
set_option maxRecDepth 100000 in
set_option maxHeartbeats 4000000 in
theorem m_X11_kindsOf (l : Launch) (w : Wd) (σ : St) (i : Nat) (hi : i < 8) (hm : mtOk σ i) : MI l yX11_kindsOf wsX11_kindsOf (rmL 1) w [.ref (w.1 (0)), .int (nI (i))] (σ) (fun r σ9 => σ9 = σ ∧ r = mKs σ i) := by
  refine MI_of (cc := cX11_kindsOf) (maxL := 4) (ret := .int) (by decide) rfl (Nat.le_of_ble_eq_true rfl) ?_
  intro p e s m args below meth c A C hr hlk
  have C : Cx p s m args c w A cX11_kindsOf RX11 4 wsX11_kindsOf := C
  have hin_11 : ∀ u ∈ wsX110, u ∈ wsX11_kindsOf := by decide +kernel
  have hl_17 : Cond.fieldLink RX11 17 "LineageBenchModel" "many" "[I" ∈ wsX11_kindsOf := by decide +kernel
  have hl_24 : Cond.fieldLink RX11 24 "LineageBenchModel" "kind" "[I" ∈ wsX11_kindsOf := by decide +kernel
  have h47 := hm.2.1
  refine g_iconst (pc9 := 1) C rfl (nI (0)) dX11_kindsOf_0 rfl ?_
  refine g_istore_n (pc9 := 2) C rfl [(2, .int (nI (0))), (0, .ref (w.1 (0))), (1, .int (nI (i)))] dX11_kindsOf_1 rfl (by decide) rfl ?_
  refine g_iconst (pc9 := 3) C rfl (nI (0)) dX11_kindsOf_2 rfl ?_
  refine g_istore_n (pc9 := 4) C rfl [(3, .int (nI (0))), (2, .int (nI (0))), (0, .ref (w.1 (0))), (1, .int (nI (i)))] dX11_kindsOf_3 rfl (by decide) rfl ?_
  refine g_sub [0, 1, 2, 3] [(3, .int (nI (0))), (2, .int (nI (0))), (0, .ref (w.1 (0))), (1, .int (nI (i)))] rfl ?_
  refine g_lp1 (α := Nat) (fun v => v ≤ mN σ i) (fun v => mN σ i - v) (fun v => G p l e _ s m args below meth c _ w A _ (σ) 0 0 4 [(3, .int (nI (v))), (2, .int (orU (fun v => mB (mK σ i v)) v)), (0, .ref (w.1 (0))), (1, .int (nI (i)))] []) (fun v hI ih => ?_) (0) (Nat.zero_le _)
  obtain hv := hI
  refine g_iload_n (pc9 := 5) C rfl 0 dX11_kindsOf_4 rfl rfl ?_
  refine g_aload_n (pc9 := 6) C rfl 2 dX11_kindsOf_5 rfl rfl ?_
  refine g_get (v := .ref (w.1 (2))) (pc9 := 9) C rfl (0) 5 dX11_kindsOf_6 (by decide) (ce_0 w (σ)) hin_11 hl_17 rfl (by decide) rfl rfl ?_
  refine g_iload_n (pc9 := 10) C rfl 3 dX11_kindsOf_9 rfl rfl ?_
  refine g_iald (x := nI (mN σ (i))) (pc9 := 11) C rfl (2) (i) dX11_kindsOf_10 (by decide) (ce_2 w (σ)) rfl (by omega) (by decide) hm.1 ?_
  refine g_icmp_ge (pc9 := 14) C rfl 54 dX11_kindsOf_11 rfl (fun c_1 => ?_) (fun c_1 => ?_)
  · replace c_1 := (nI_leI (by omega) (by omega)).mp c_1
    refine g_iload_n (pc9 := 55) C rfl 1 dX11_kindsOf_54 rfl rfl ?_
    exact g_ireturn C hr hlk dX11_kindsOf_55 ⟨rfl, by rw [show v = mN σ i by omega]⟩
  · replace c_1 := (not_congr (nI_leI (by omega) (by omega))).mp c_1
    refine g_iload_n (pc9 := 15) C rfl 1 dX11_kindsOf_14 rfl rfl ?_
    refine g_aload_n (pc9 := 16) C rfl 2 dX11_kindsOf_15 rfl rfl ?_
    refine g_get (v := .ref (w.1 (4))) (pc9 := 19) C rfl (0) 7 dX11_kindsOf_16 (by decide) (ce_0 w (σ)) hin_11 hl_24 rfl (by decide) rfl rfl ?_
    refine g_bipush (pc9 := 21) C rfl (nI (47)) dX11_kindsOf_19 rfl ?_
    refine g_iload_n (pc9 := 22) C rfl 3 dX11_kindsOf_21 rfl rfl ?_
    refine g_imulN (pc9 := 23) C rfl dX11_kindsOf_22 ?_
    refine g_iload_n (pc9 := 24) C rfl 0 dX11_kindsOf_23 rfl rfl ?_
    refine g_iaddN (pc9 := 25) C rfl dX11_kindsOf_24 ?_
    refine g_iald (x := (iA σ (4)) ((47 * i) + v)) (pc9 := 26) C rfl (4) ((47 * i) + v) dX11_kindsOf_25 (by decide) (ce_4 w (σ)) rfl (by omega) (by decide) rfl ?_
    refine g_if_lt (pc9 := 29) C rfl 45 dX11_kindsOf_26 rfl (fun c_2 => ?_) (fun c_2 => ?_)
    · have hb : mB (mK σ i v) = nI 0 := if_pos c_2
      refine g_iconst (pc9 := 46) C rfl (nI (0)) dX11_kindsOf_45 rfl ?_
      refine g_ior (pc9 := 47) C rfl dX11_kindsOf_46 ?_
      refine g_istore_n (pc9 := 48) C rfl [(2, .int ((orU (fun v => mB (mK σ i v)) v) ||| (nI (0)))), (3, .int (nI (v))), (0, .ref (w.1 (0))), (1, .int (nI (i)))] dX11_kindsOf_47 rfl (by decide) rfl ?_
      refine g_iinc (pc9 := 51) C rfl [(3, .int (nI (v + 1))), (2, .int ((orU (fun v => mB (mK σ i v)) v) ||| (nI (0)))), (0, .ref (w.1 (0))), (1, .int (nI (i)))] 1 (nI (v + 1)) dX11_kindsOf_48 rfl (nI_1 (v)) (by decide) rfl ?_
      refine g_goto C 4 dX11_kindsOf_51 rfl ?_
      refine g_sub [0, 1, 2, 3] [(3, .int (nI (v + 1))), (2, .int ((orU (fun v => mB (mK σ i v)) v) ||| (nI (0)))), (0, .ref (w.1 (0))), (1, .int (nI (i)))] rfl ?_
      rw [show (orU (fun v => mB (mK σ i v)) v) ||| (nI (0)) = orU (fun v => mB (mK σ i v)) (v + 1) from by rw [← hb]; rfl]
      exact ih (v + 1) (by omega) (by omega)
    · have hb : mB (mK σ i v) = nI 1 <<< (mK σ i v &&& 31) := if_neg c_2
      refine g_iconst (pc9 := 30) C rfl (nI (1)) dX11_kindsOf_29 rfl ?_
      refine g_aload_n (pc9 := 31) C rfl 2 dX11_kindsOf_30 rfl rfl ?_
      refine g_get (v := .ref (w.1 (4))) (pc9 := 34) C rfl (0) 7 dX11_kindsOf_31 (by decide) (ce_0 w (σ)) hin_11 hl_24 rfl (by decide) rfl rfl ?_
      refine g_bipush (pc9 := 36) C rfl (nI (47)) dX11_kindsOf_34 rfl ?_
      refine g_iload_n (pc9 := 37) C rfl 3 dX11_kindsOf_36 rfl rfl ?_
      refine g_imulN (pc9 := 38) C rfl dX11_kindsOf_37 ?_
      refine g_iload_n (pc9 := 39) C rfl 0 dX11_kindsOf_38 rfl rfl ?_
      refine g_iaddN (pc9 := 40) C rfl dX11_kindsOf_39 ?_
      refine g_iald (x := (iA σ (4)) ((47 * i) + v)) (pc9 := 41) C rfl (4) ((47 * i) + v) dX11_kindsOf_40 (by decide) (ce_4 w (σ)) rfl (by omega) (by decide) rfl ?_
      refine g_ishl (pc9 := 42) C rfl dX11_kindsOf_41 ?_
      refine g_goto C 46 dX11_kindsOf_42 rfl ?_
      refine g_ior (pc9 := 47) C rfl dX11_kindsOf_46 ?_
      refine g_istore_n (pc9 := 48) C rfl [(2, .int ((orU (fun v => mB (mK σ i v)) v) ||| ((nI (1)) <<< (((iA σ (4)) ((47 * i) + v)) &&& 31)))), (3, .int (nI (v))), (0, .ref (w.1 (0))), (1, .int (nI (i)))] dX11_kindsOf_47 rfl (by decide) rfl ?_
      refine g_iinc (pc9 := 51) C rfl [(3, .int (nI (v + 1))), (2, .int ((orU (fun v => mB (mK σ i v)) v) ||| ((nI (1)) <<< (((iA σ (4)) ((47 * i) + v)) &&& 31)))), (0, .ref (w.1 (0))), (1, .int (nI (i)))] 1 (nI (v + 1)) dX11_kindsOf_48 rfl (nI_1 (v)) (by decide) rfl ?_
      refine g_goto C 4 dX11_kindsOf_51 rfl ?_
      refine g_sub [0, 1, 2, 3] [(3, .int (nI (v + 1))), (2, .int ((orU (fun v => mB (mK σ i v)) v) ||| ((nI (1)) <<< (((iA σ (4)) ((47 * i) + v)) &&& 31)))), (0, .ref (w.1 (0))), (1, .int (nI (i)))] rfl ?_
      rw [show (orU (fun v => mB (mK σ i v)) v) ||| ((nI (1)) <<< (((iA σ (4)) ((47 * i) + v)) &&& 31)) = orU (fun v => mB (mK σ i v)) (v + 1) from by rw [← hb]; rfl]
      exact ih (v + 1) (by omega) (by omega)
set_option maxRecDepth 100000 in
set_option maxHeartbeats 4000000 in
theorem m_X11_leavesOf (l : Launch) (w : Wd) (σ : St) (i : Nat) (hi : i < 8) (hm : mtOk σ i) : MI l yX11_leavesOf wsX11_leavesOf (rmL 1) w [.ref (w.1 (0)), .int (nI (i))] (σ) (fun r σ9 => σ9 = σ ∧ r = nI (mLs σ i)) := by
  refine MI_of (cc := cX11_leavesOf) (maxL := 4) (ret := .int) (by decide) rfl (Nat.le_of_ble_eq_true rfl) ?_
  intro p e s m args below meth c A C hr hlk
  have C : Cx p s m args c w A cX11_leavesOf RX11 4 wsX11_leavesOf := C
  have hin_11 : ∀ u ∈ wsX110, u ∈ wsX11_leavesOf := by decide +kernel
  have hl_17 : Cond.fieldLink RX11 17 "LineageBenchModel" "many" "[I" ∈ wsX11_leavesOf := by decide +kernel
  have hl_24 : Cond.fieldLink RX11 24 "LineageBenchModel" "kind" "[I" ∈ wsX11_leavesOf := by decide +kernel
  have h47 := hm.2.1
  refine g_iconst (pc9 := 1) C rfl (nI (0)) dX11_leavesOf_0 rfl ?_
  refine g_istore_n (pc9 := 2) C rfl [(2, .int (nI (0))), (0, .ref (w.1 (0))), (1, .int (nI (i)))] dX11_leavesOf_1 rfl (by decide) rfl ?_
  refine g_iconst (pc9 := 3) C rfl (nI (0)) dX11_leavesOf_2 rfl ?_
  refine g_istore_n (pc9 := 4) C rfl [(3, .int (nI (0))), (2, .int (nI (0))), (0, .ref (w.1 (0))), (1, .int (nI (i)))] dX11_leavesOf_3 rfl (by decide) rfl ?_
  refine g_sub [0, 1, 2, 3] [(3, .int (nI (0))), (2, .int (nI (0))), (0, .ref (w.1 (0))), (1, .int (nI (i)))] rfl ?_
  refine g_lp1 (α := Nat) (fun v => v ≤ mN σ i) (fun v => mN σ i - v) (fun v => G p l e _ s m args below meth c _ w A _ (σ) 0 0 4 [(3, .int (nI (v))), (2, .int (nI (cntU (mLf σ i) v))), (0, .ref (w.1 (0))), (1, .int (nI (i)))] []) (fun v hI ih => ?_) (0) (Nat.zero_le _)
  obtain hv := hI
  have hcn := cntU_le (q := mLf σ i) v
  refine g_iload_n (pc9 := 5) C rfl 0 dX11_leavesOf_4 rfl rfl ?_
  refine g_aload_n (pc9 := 6) C rfl 2 dX11_leavesOf_5 rfl rfl ?_
  refine g_get (v := .ref (w.1 (2))) (pc9 := 9) C rfl (0) 5 dX11_leavesOf_6 (by decide) (ce_0 w (σ)) hin_11 hl_17 rfl (by decide) rfl rfl ?_
  refine g_iload_n (pc9 := 10) C rfl 3 dX11_leavesOf_9 rfl rfl ?_
  refine g_iald (x := nI (mN σ (i))) (pc9 := 11) C rfl (2) (i) dX11_leavesOf_10 (by decide) (ce_2 w (σ)) rfl (by omega) (by decide) hm.1 ?_
  refine g_icmp_ge (pc9 := 14) C rfl 42 dX11_leavesOf_11 rfl (fun c_1 => ?_) (fun c_1 => ?_)
  · replace c_1 := (nI_leI (by omega) (by omega)).mp c_1
    refine g_iload_n (pc9 := 43) C rfl 1 dX11_leavesOf_42 rfl rfl ?_
    exact g_ireturn C hr hlk dX11_leavesOf_43 ⟨rfl, by rw [show v = mN σ i by omega]⟩
  · replace c_1 := (not_congr (nI_leI (by omega) (by omega))).mp c_1
    refine g_iload_n (pc9 := 15) C rfl 1 dX11_leavesOf_14 rfl rfl ?_
    refine g_aload_n (pc9 := 16) C rfl 2 dX11_leavesOf_15 rfl rfl ?_
    refine g_get (v := .ref (w.1 (4))) (pc9 := 19) C rfl (0) 7 dX11_leavesOf_16 (by decide) (ce_0 w (σ)) hin_11 hl_24 rfl (by decide) rfl rfl ?_
    refine g_bipush (pc9 := 21) C rfl (nI (47)) dX11_leavesOf_19 rfl ?_
    refine g_iload_n (pc9 := 22) C rfl 3 dX11_leavesOf_21 rfl rfl ?_
    refine g_imulN (pc9 := 23) C rfl dX11_leavesOf_22 ?_
    refine g_iload_n (pc9 := 24) C rfl 0 dX11_leavesOf_23 rfl rfl ?_
    refine g_iaddN (pc9 := 25) C rfl dX11_leavesOf_24 ?_
    refine g_iald (x := (iA σ (4)) ((47 * i) + v)) (pc9 := 26) C rfl (4) ((47 * i) + v) dX11_leavesOf_25 (by decide) (ce_4 w (σ)) rfl (by omega) (by decide) rfl ?_
    refine g_if_lt (pc9 := 29) C rfl 33 dX11_leavesOf_26 rfl (fun c_2 => ?_) (fun c_2 => ?_)
    · have hs : cntU (mLf σ i) (v + 1) = cntU (mLf σ i) v := cntU_n (q := mLf σ i) (fun h => h c_2)
      refine g_iconst (pc9 := 34) C rfl (nI (0)) dX11_leavesOf_33 rfl ?_
      refine g_iaddN (pc9 := 35) C rfl dX11_leavesOf_34 ?_
      refine g_istore_n (pc9 := 36) C rfl [(2, .int (nI ((cntU (mLf σ i) v) + 0))), (3, .int (nI (v))), (0, .ref (w.1 (0))), (1, .int (nI (i)))] dX11_leavesOf_35 rfl (by decide) rfl ?_
      refine g_iinc (pc9 := 39) C rfl [(3, .int (nI (v + 1))), (2, .int (nI ((cntU (mLf σ i) v) + 0))), (0, .ref (w.1 (0))), (1, .int (nI (i)))] 1 (nI (v + 1)) dX11_leavesOf_36 rfl (nI_1 (v)) (by decide) rfl ?_
      refine g_goto C 4 dX11_leavesOf_39 rfl ?_
      refine g_sub [0, 1, 2, 3] [(3, .int (nI (v + 1))), (2, .int (nI ((cntU (mLf σ i) v) + 0))), (0, .ref (w.1 (0))), (1, .int (nI (i)))] rfl ?_
      rw [show (cntU (mLf σ i) v) + 0 = cntU (mLf σ i) (v + 1) from by omega]
      exact ih (v + 1) (by omega) (by omega)
    · have hs : cntU (mLf σ i) (v + 1) = cntU (mLf σ i) v + 1 := cntU_y (q := mLf σ i) c_2
      refine g_iconst (pc9 := 30) C rfl (nI (1)) dX11_leavesOf_29 rfl ?_
      refine g_goto C 34 dX11_leavesOf_30 rfl ?_
      refine g_iaddN (pc9 := 35) C rfl dX11_leavesOf_34 ?_
      refine g_istore_n (pc9 := 36) C rfl [(2, .int (nI ((cntU (mLf σ i) v) + 1))), (3, .int (nI (v))), (0, .ref (w.1 (0))), (1, .int (nI (i)))] dX11_leavesOf_35 rfl (by decide) rfl ?_
      refine g_iinc (pc9 := 39) C rfl [(3, .int (nI (v + 1))), (2, .int (nI ((cntU (mLf σ i) v) + 1))), (0, .ref (w.1 (0))), (1, .int (nI (i)))] 1 (nI (v + 1)) dX11_leavesOf_36 rfl (nI_1 (v)) (by decide) rfl ?_
      refine g_goto C 4 dX11_leavesOf_39 rfl ?_
      refine g_sub [0, 1, 2, 3] [(3, .int (nI (v + 1))), (2, .int (nI ((cntU (mLf σ i) v) + 1))), (0, .ref (w.1 (0))), (1, .int (nI (i)))] rfl ?_
      rw [show (cntU (mLf σ i) v) + 1 = cntU (mLf σ i) (v + 1) from by omega]
      exact ih (v + 1) (by omega) (by omega)
set_option maxRecDepth 100000 in
set_option maxHeartbeats 4000000 in
theorem m_X11_isPlain (l : Launch) (w : Wd) (σ : St) (i : Nat) (hi : i < 8) (hm : mtOk σ i) : MI l yX11_isPlain wsX11_isPlain (rmL 2) w [.ref (w.1 (0)), .int (nI (i))] (σ) (fun r σ9 => σ9 = σ ∧ r = pI (mPl σ i)) := by
  refine MI_of (cc := cX11_isPlain) (maxL := 2) (ret := .boolean) (by decide) rfl (Nat.le_of_ble_eq_true rfl) ?_
  intro p e s m args below meth c A C hr hlk
  have C : Cx p s m args c w A cX11_isPlain RX11 2 wsX11_isPlain := C
  have hin_11 : ∀ u ∈ wsX110, u ∈ wsX11_isPlain := by decide +kernel
  have hl_17 : Cond.fieldLink RX11 17 "LineageBenchModel" "many" "[I" ∈ wsX11_isPlain := by decide +kernel
  have h47 := hm.2.1
  refine g_aload_n (pc9 := 1) C rfl 0 dX11_isPlain_0 rfl rfl ?_
  refine g_get (v := .ref (w.1 (2))) (pc9 := 4) C rfl (0) 5 dX11_isPlain_1 (by decide) (ce_0 w (σ)) hin_11 hl_17 rfl (by decide) rfl rfl ?_
  refine g_iload_n (pc9 := 5) C rfl 1 dX11_isPlain_4 rfl rfl ?_
  refine g_iald (x := nI (mN σ (i))) (pc9 := 6) C rfl (2) (i) dX11_isPlain_5 (by decide) (ce_2 w (σ)) rfl (by omega) (by decide) hm.1 ?_
  refine g_if_le (pc9 := 9) C rfl 29 dX11_isPlain_6 rfl (fun c_1 => ?_) (fun c_1 => ?_)
  · replace c_1 := (z_le (by omega)).mp c_1
    have hq : ¬ mPl σ i := fun h => by have := h.1; omega
    refine g_iconst (pc9 := 30) C rfl (nI (0)) dX11_isPlain_29 rfl ?_
    exact g_zreturn C hr hlk dX11_isPlain_30 (by decide) ⟨rfl, by first | exact (pI_t hq).symm | exact (pI_f hq).symm⟩
  · replace c_1 := (not_congr (z_le (by omega))).mp c_1
    refine g_aload_n (pc9 := 10) C rfl 0 dX11_isPlain_9 rfl rfl ?_
    refine g_iload_n (pc9 := 11) C rfl 1 dX11_isPlain_10 rfl rfl ?_
    refine g_callVi (nn := 1) (rest := []) (pc9 := 14) C rfl (0) [.int (nI (i))] rfl dX11_isPlain_11 (m_X11_kindsOf l w σ i hi hm) gX11_isPlain_X11_kindsOf (by decide) (ce_0 w (σ)) rfl rfl rfl rfl rfl (by decide +kernel) ⟨by decide, by decide⟩ rfl (Nat.le_of_ble_eq_true rfl) ⟨by decide, by decide⟩ (fun r_2 σ_2 q_2 => ?_)
    obtain ⟨qs_2, qr_2⟩ := q_2
    rw [qs_2, qr_2]
    clear qs_2 qr_2
    refine g_callSi (nn := 1) (rest := []) (pc9 := 17) C rfl [.int (mKs σ i)] rfl dX11_isPlain_14 (m_bitCount l w σ (mKs σ i)) gX11_isPlain_J6_bitCount_0f7a4 rfl rfl rfl (by decide +kernel) ⟨by decide, by decide⟩ rfl (Nat.le_of_ble_eq_true rfl) ⟨by decide, by decide⟩ (fun r_3 σ_3 q_3 => ?_)
    obtain ⟨qs_3, qr_3⟩ := q_3
    rw [qs_3, qr_3]
    clear qs_3 qr_3
    refine g_aload_n (pc9 := 18) C rfl 0 dX11_isPlain_17 rfl rfl ?_
    refine g_iload_n (pc9 := 19) C rfl 1 dX11_isPlain_18 rfl rfl ?_
    refine g_callVi (nn := 1) (rest := [.int (bC (mKs σ i))]) (pc9 := 22) C rfl (0) [.int (nI (i))] rfl dX11_isPlain_19 (m_X11_leavesOf l w σ i hi hm) gX11_isPlain_X11_leavesOf (by decide) (ce_0 w (σ)) rfl rfl rfl rfl rfl (by decide +kernel) ⟨by decide, by decide⟩ rfl (Nat.le_of_ble_eq_true rfl) ⟨by decide, by decide⟩ (fun r_4 σ_4 q_4 => ?_)
    obtain ⟨qs_4, qr_4⟩ := q_4
    rw [qs_4, qr_4]
    clear qs_4 qr_4
    refine g_icmp_ne (pc9 := 25) C rfl 29 dX11_isPlain_22 rfl (fun c_5 => ?_) (fun c_5 => ?_)
    · have hq : ¬ mPl σ i := fun h => c_5 h.2
      refine g_iconst (pc9 := 30) C rfl (nI (0)) dX11_isPlain_29 rfl ?_
      exact g_zreturn C hr hlk dX11_isPlain_30 (by decide) ⟨rfl, by first | exact (pI_t hq).symm | exact (pI_f hq).symm⟩
    · have hq : mPl σ i := ⟨by omega, Classical.not_not.mp (fun h => h c_5)⟩
      refine g_iconst (pc9 := 26) C rfl (nI (1)) dX11_isPlain_25 rfl ?_
      refine g_goto C 30 dX11_isPlain_26 rfl ?_
      exact g_zreturn C hr hlk dX11_isPlain_30 (by decide) ⟨rfl, by first | exact (pI_t hq).symm | exact (pI_f hq).symm⟩
abbrev mCh (σ : St) (i x : Nat) : Nat → Prop := fun u => mP σ i (x + 1 + u) = nI x
noncomputable abbrev mCn (σ : St) (i x : Nat) : Nat := cntU (mCh σ i x) (mN σ i - (x + 1))
abbrev mBi (σ : St) (i : Nat) : Prop := 0 < mN σ i ∧ ∀ x, x < mN σ i → mCn σ i x < 3
set_option maxRecDepth 100000 in
set_option maxHeartbeats 4000000 in
theorem m_X11_children (l : Launch) (w : Wd) (σ : St) (i : Nat) (hi : i < 8) (hm : mtOk σ i) (x : Nat) (hx : x < mN σ i) : MI l yX11_children wsX11_children (rmL 1) w [.ref (w.1 (0)), .int (nI (i)), .int (nI (x))] (σ) (fun r σ9 => σ9 = σ ∧ r = nI (mCn σ i x)) := by
  refine MI_of (cc := cX11_children) (maxL := 5) (ret := .int) (by decide) rfl (Nat.le_of_ble_eq_true rfl) ?_
  intro p e s m args below meth c A C hr hlk
  have C : Cx p s m args c w A cX11_children RX11 5 wsX11_children := C
  have hin_11 : ∀ u ∈ wsX110, u ∈ wsX11_children := by decide +kernel
  have hl_17 : Cond.fieldLink RX11 17 "LineageBenchModel" "many" "[I" ∈ wsX11_children := by decide +kernel
  have hl_21 : Cond.fieldLink RX11 21 "LineageBenchModel" "parent" "[I" ∈ wsX11_children := by decide +kernel
  have h47 := hm.2.1
  refine g_iconst (pc9 := 1) C rfl (nI (0)) dX11_children_0 rfl ?_
  refine g_istore_n (pc9 := 2) C rfl [(3, .int (nI (0))), (0, .ref (w.1 (0))), (1, .int (nI (i))), (2, .int (nI (x)))] dX11_children_1 rfl (by decide) rfl ?_
  refine g_iload_n (pc9 := 3) C rfl 3 dX11_children_2 rfl rfl ?_
  refine g_iconst (pc9 := 4) C rfl (nI (1)) dX11_children_3 rfl ?_
  refine g_iaddN (pc9 := 5) C rfl dX11_children_4 ?_
  refine g_istore (pc9 := 7) C rfl [(4, .int (nI (x + 1))), (3, .int (nI (0))), (0, .ref (w.1 (0))), (1, .int (nI (i))), (2, .int (nI (x)))] dX11_children_5 (by decide) rfl ?_
  refine g_sub [0, 1, 2, 3, 4] [(4, .int (nI (x + 1))), (3, .int (nI (0))), (0, .ref (w.1 (0))), (1, .int (nI (i))), (2, .int (nI (x)))] rfl ?_
  refine g_lp1 (α := Nat) (fun u => u ≤ mN σ i - (x + 1)) (fun u => mN σ i - u) (fun u => G p l e _ s m args below meth c _ w A _ (σ) 0 0 7 [(4, .int (nI (x + 1 + u))), (3, .int (nI (cntU (mCh σ i x) u))), (0, .ref (w.1 (0))), (1, .int (nI (i))), (2, .int (nI (x)))] []) (fun u hI ih => ?_) (0) (Nat.zero_le _)
  obtain hv := hI
  have hcn := cntU_le (q := mCh σ i x) u
  refine g_iload (pc9 := 9) C rfl 0 dX11_children_7 rfl ?_
  refine g_aload_n (pc9 := 10) C rfl 2 dX11_children_9 rfl rfl ?_
  refine g_get (v := .ref (w.1 (2))) (pc9 := 13) C rfl (0) 5 dX11_children_10 (by decide) (ce_0 w (σ)) hin_11 hl_17 rfl (by decide) rfl rfl ?_
  refine g_iload_n (pc9 := 14) C rfl 3 dX11_children_13 rfl rfl ?_
  refine g_iald (x := nI (mN σ (i))) (pc9 := 15) C rfl (2) (i) dX11_children_14 (by decide) (ce_2 w (σ)) rfl (by omega) (by decide) hm.1 ?_
  refine g_icmp_ge (pc9 := 18) C rfl 48 dX11_children_15 rfl (fun c_1 => ?_) (fun c_1 => ?_)
  · replace c_1 := (nI_leI (by omega) (by omega)).mp c_1
    refine g_iload_n (pc9 := 49) C rfl 1 dX11_children_48 rfl rfl ?_
    exact g_ireturn C hr hlk dX11_children_49 ⟨rfl, by rw [show u = mN σ i - (x + 1) by omega]⟩
  · replace c_1 := (not_congr (nI_leI (by omega) (by omega))).mp c_1
    refine g_iload_n (pc9 := 19) C rfl 1 dX11_children_18 rfl rfl ?_
    refine g_aload_n (pc9 := 20) C rfl 2 dX11_children_19 rfl rfl ?_
    refine g_get (v := .ref (w.1 (3))) (pc9 := 23) C rfl (0) 6 dX11_children_20 (by decide) (ce_0 w (σ)) hin_11 hl_21 rfl (by decide) rfl rfl ?_
    refine g_bipush (pc9 := 25) C rfl (nI (47)) dX11_children_23 rfl ?_
    refine g_iload_n (pc9 := 26) C rfl 3 dX11_children_25 rfl rfl ?_
    refine g_imulN (pc9 := 27) C rfl dX11_children_26 ?_
    refine g_iload (pc9 := 29) C rfl 0 dX11_children_27 rfl ?_
    refine g_iaddN (pc9 := 30) C rfl dX11_children_29 ?_
    refine g_iald (x := (iA σ (3)) ((47 * i) + (x + 1 + u))) (pc9 := 31) C rfl (3) ((47 * i) + (x + 1 + u)) dX11_children_30 (by decide) (ce_3 w (σ)) rfl (by omega) (by decide) rfl ?_
    refine g_iload_n (pc9 := 32) C rfl 4 dX11_children_31 rfl rfl ?_
    refine g_icmp_ne (pc9 := 35) C rfl 39 dX11_children_32 rfl (fun c_2 => ?_) (fun c_2 => ?_)
    · have hs : cntU (mCh σ i x) (u + 1) = cntU (mCh σ i x) u := cntU_n (q := mCh σ i x) (fun h => c_2 h)
      refine g_iconst (pc9 := 40) C rfl (nI (0)) dX11_children_39 rfl ?_
      refine g_iaddN (pc9 := 41) C rfl dX11_children_40 ?_
      refine g_istore_n (pc9 := 42) C rfl [(3, .int (nI ((cntU (mCh σ i x) u) + 0))), (4, .int (nI (x + 1 + u))), (0, .ref (w.1 (0))), (1, .int (nI (i))), (2, .int (nI (x)))] dX11_children_41 rfl (by decide) rfl ?_
      refine g_iinc (pc9 := 45) C rfl [(4, .int (nI (x + 1 + u + 1))), (3, .int (nI ((cntU (mCh σ i x) u) + 0))), (0, .ref (w.1 (0))), (1, .int (nI (i))), (2, .int (nI (x)))] 1 (nI (x + 1 + u + 1)) dX11_children_42 rfl (nI_1 (x + 1 + u)) (by decide) rfl ?_
      refine g_goto C 7 dX11_children_45 rfl ?_
      refine g_sub [0, 1, 2, 3, 4] [(4, .int (nI (x + 1 + u + 1))), (3, .int (nI ((cntU (mCh σ i x) u) + 0))), (0, .ref (w.1 (0))), (1, .int (nI (i))), (2, .int (nI (x)))] rfl ?_
      rw [show (cntU (mCh σ i x) u) + 0 = cntU (mCh σ i x) (u + 1) from by omega]
      exact ih (u + 1) (by omega) (by omega)
    · have hs : cntU (mCh σ i x) (u + 1) = cntU (mCh σ i x) u + 1 := cntU_y (q := mCh σ i x) c_2
      refine g_iconst (pc9 := 36) C rfl (nI (1)) dX11_children_35 rfl ?_
      refine g_goto C 40 dX11_children_36 rfl ?_
      refine g_iaddN (pc9 := 41) C rfl dX11_children_40 ?_
      refine g_istore_n (pc9 := 42) C rfl [(3, .int (nI ((cntU (mCh σ i x) u) + 1))), (4, .int (nI (x + 1 + u))), (0, .ref (w.1 (0))), (1, .int (nI (i))), (2, .int (nI (x)))] dX11_children_41 rfl (by decide) rfl ?_
      refine g_iinc (pc9 := 45) C rfl [(4, .int (nI (x + 1 + u + 1))), (3, .int (nI ((cntU (mCh σ i x) u) + 1))), (0, .ref (w.1 (0))), (1, .int (nI (i))), (2, .int (nI (x)))] 1 (nI (x + 1 + u + 1)) dX11_children_42 rfl (nI_1 (x + 1 + u)) (by decide) rfl ?_
      refine g_goto C 7 dX11_children_45 rfl ?_
      refine g_sub [0, 1, 2, 3, 4] [(4, .int (nI (x + 1 + u + 1))), (3, .int (nI ((cntU (mCh σ i x) u) + 1))), (0, .ref (w.1 (0))), (1, .int (nI (i))), (2, .int (nI (x)))] rfl ?_
      rw [show (cntU (mCh σ i x) u) + 1 = cntU (mCh σ i x) (u + 1) from by omega]
      exact ih (u + 1) (by omega) (by omega)
theorem g_l2 {p : Program} {l : Launch} {e : Env} {R : Room} {s : State} {m : MethodId} {args : Array Value} {below : List Frame} {meth : Method} {c : Code} {Q : State → Prop} {w : Wd} {A : Nat → Prop} {nL : Nat} {σ : St} {cells slots pc : Nat} {q : Nat × Value} {k9 : Nat} {x x9 : Int32} {lv : List (Nat × Value)} {st : List Value} (h : x = x9) (k : G p l e R s m args below meth c Q w A nL σ cells slots pc (q :: (k9, .int x9) :: lv) st) : G p l e R s m args below meth c Q w A nL σ cells slots pc (q :: (k9, .int x) :: lv) st := h ▸ k
set_option maxRecDepth 100000 in
set_option maxHeartbeats 4000000 in
theorem m_X11_isBinary (l : Launch) (w : Wd) (σ : St) (i : Nat) (hi : i < 8) (hm : mtOk σ i) : MI l yX11_isBinary wsX11_isBinary (rmL 2) w [.ref (w.1 (0)), .int (nI (i))] (σ) (fun r σ9 => σ9 = σ ∧ r = pI (mBi σ i)) := by
  refine MI_of (cc := cX11_isBinary) (maxL := 4) (ret := .boolean) (by decide) rfl (Nat.le_of_ble_eq_true rfl) ?_
  intro p e s m args below meth c A C hr hlk
  have C : Cx p s m args c w A cX11_isBinary RX11 4 wsX11_isBinary := C
  have hin_11 : ∀ u ∈ wsX110, u ∈ wsX11_isBinary := by decide +kernel
  have hl_17 : Cond.fieldLink RX11 17 "LineageBenchModel" "many" "[I" ∈ wsX11_isBinary := by decide +kernel
  have h47 := hm.2.1
  refine g_aload_n (pc9 := 1) C rfl 0 dX11_isBinary_0 rfl rfl ?_
  refine g_get (v := .ref (w.1 (2))) (pc9 := 4) C rfl (0) 5 dX11_isBinary_1 (by decide) (ce_0 w (σ)) hin_11 hl_17 rfl (by decide) rfl rfl ?_
  refine g_iload_n (pc9 := 5) C rfl 1 dX11_isBinary_4 rfl rfl ?_
  refine g_iald (x := nI (mN σ (i))) (pc9 := 6) C rfl (2) (i) dX11_isBinary_5 (by decide) (ce_2 w (σ)) rfl (by omega) (by decide) hm.1 ?_
  refine g_if_le (pc9 := 9) C rfl 13 dX11_isBinary_6 rfl (fun c_1 => ?_) (fun c_1 => ?_)
  · replace c_1 := (z_le (by omega)).mp c_1
    refine g_iconst (pc9 := 14) C rfl (nI (0)) dX11_isBinary_13 rfl ?_
    refine g_istore_n (pc9 := 15) C rfl [(2, .int (nI (0))), (0, .ref (w.1 (0))), (1, .int (nI (i)))] dX11_isBinary_14 rfl (by decide) rfl ?_
    refine g_iconst (pc9 := 16) C rfl (nI (0)) dX11_isBinary_15 rfl ?_
    refine g_istore_n (pc9 := 17) C rfl [(3, .int (nI (0))), (2, .int (nI (0))), (0, .ref (w.1 (0))), (1, .int (nI (i)))] dX11_isBinary_16 rfl (by decide) rfl ?_
    have hpos : ¬ 0 < mN σ i := by omega
    refine g_sub [0, 1, 2, 3] [(3, .int (nI (0))), (2, .int (nI (0))), (0, .ref (w.1 (0))), (1, .int (nI (i)))] rfl ?_
    refine g_l2 (x9 := pI (0 < mN σ i ∧ ∀ x, x < 0 → mCn σ i x < 3)) (by exact (pI_f (fun h => hpos h.1)).symm) ?_
    refine g_lp1 (α := Nat) (fun v => v ≤ mN σ i) (fun v => mN σ i - v) (fun v => G p l e _ s m args below meth c _ w A _ (σ) 0 0 17 [(3, .int (nI (v))), (2, .int (pI (0 < mN σ i ∧ ∀ x, x < v → mCn σ i x < 3))), (0, .ref (w.1 (0))), (1, .int (nI (i)))] []) (fun v hI ih => ?_) (0) (Nat.zero_le _)
    obtain hv := hI
    refine g_iload_n (pc9 := 18) C rfl 0 dX11_isBinary_17 rfl rfl ?_
    refine g_aload_n (pc9 := 19) C rfl 2 dX11_isBinary_18 rfl rfl ?_
    refine g_get (v := .ref (w.1 (2))) (pc9 := 22) C rfl (0) 5 dX11_isBinary_19 (by decide) (ce_0 w (σ)) hin_11 hl_17 rfl (by decide) rfl rfl ?_
    refine g_iload_n (pc9 := 23) C rfl 3 dX11_isBinary_22 rfl rfl ?_
    refine g_iald (x := nI (mN σ (i))) (pc9 := 24) C rfl (2) (i) dX11_isBinary_23 (by decide) (ce_2 w (σ)) rfl (by omega) (by decide) hm.1 ?_
    refine g_icmp_ge (pc9 := 27) C rfl 53 dX11_isBinary_24 rfl (fun c_2 => ?_) (fun c_2 => ?_)
    · replace c_2 := (nI_leI (by omega) (by omega)).mp c_2
      refine g_iload_n (pc9 := 54) C rfl 1 dX11_isBinary_53 rfl rfl ?_
      exact g_zreturn C hr hlk dX11_isBinary_54 (pI_01 _) ⟨rfl, by rw [show v = mN σ i by omega]⟩
    · replace c_2 := (not_congr (nI_leI (by omega) (by omega))).mp c_2
      have hcn : mCn σ i v ≤ _ := cntU_le (q := mCh σ i v) (mN σ i - (v + 1))
      refine g_iload_n (pc9 := 28) C rfl 1 dX11_isBinary_27 rfl rfl ?_
      refine g_if_eq (pc9 := 31) C rfl 45 dX11_isBinary_28 rfl (fun c_3 => ?_) (fun c_3 => ?_)
      · have hs : pI (0 < mN σ i ∧ ∀ x, x < v + 1 → mCn σ i x < 3) = nI 0 := pI_f (fun h => pI_no c_3 ⟨h.1, fun x hx => h.2 x (by omega)⟩)
        refine g_iconst (pc9 := 46) C rfl (nI (0)) dX11_isBinary_45 rfl ?_
        refine g_istore_n (pc9 := 47) C rfl [(2, .int (nI (0))), (3, .int (nI (v))), (0, .ref (w.1 (0))), (1, .int (nI (i)))] dX11_isBinary_46 rfl (by decide) rfl ?_
        refine g_iinc (pc9 := 50) C rfl [(3, .int (nI (v + 1))), (2, .int (nI (0))), (0, .ref (w.1 (0))), (1, .int (nI (i)))] 1 (nI (v + 1)) dX11_isBinary_47 rfl (nI_1 (v)) (by decide) rfl ?_
        refine g_goto C 17 dX11_isBinary_50 rfl ?_
        refine g_sub [0, 1, 2, 3] [(3, .int (nI (v + 1))), (2, .int (nI (0))), (0, .ref (w.1 (0))), (1, .int (nI (i)))] rfl ?_
        refine g_l2 hs.symm ?_
        exact ih (v + 1) (by omega) (by omega)
      · have hq := pI_ye c_3
        refine g_aload_n (pc9 := 32) C rfl 2 dX11_isBinary_31 rfl rfl ?_
        refine g_iload_n (pc9 := 33) C rfl 3 dX11_isBinary_32 rfl rfl ?_
        refine g_iload_n (pc9 := 34) C rfl 0 dX11_isBinary_33 rfl rfl ?_
        refine g_callVi (nn := 2) (rest := []) (pc9 := 37) C rfl (0) [.int (nI (i)), .int (nI (v))] rfl dX11_isBinary_34 (m_X11_children l w σ i hi hm v (by omega)) gX11_isBinary_X11_children (by decide) (ce_0 w (σ)) rfl rfl rfl rfl rfl (by decide +kernel) ⟨by decide, by decide⟩ rfl (Nat.le_of_ble_eq_true rfl) ⟨by decide, by decide⟩ (fun r_4 σ_4 q_4 => ?_)
        obtain ⟨qs_4, qr_4⟩ := q_4
        rw [qs_4, qr_4]
        clear qs_4 qr_4
        refine g_iconst (pc9 := 38) C rfl (nI (3)) dX11_isBinary_37 rfl ?_
        refine g_icmp_ge (pc9 := 41) C rfl 45 dX11_isBinary_38 rfl (fun c_5 => ?_) (fun c_5 => ?_)
        · replace c_5 := (nI_leI (by omega) (by omega)).mp c_5
          have hs : pI (0 < mN σ i ∧ ∀ x, x < v + 1 → mCn σ i x < 3) = nI 0 := pI_f (fun h => by have := h.2 v (by omega); omega)
          refine g_iconst (pc9 := 46) C rfl (nI (0)) dX11_isBinary_45 rfl ?_
          refine g_istore_n (pc9 := 47) C rfl [(2, .int (nI (0))), (3, .int (nI (v))), (0, .ref (w.1 (0))), (1, .int (nI (i)))] dX11_isBinary_46 rfl (by decide) rfl ?_
          refine g_iinc (pc9 := 50) C rfl [(3, .int (nI (v + 1))), (2, .int (nI (0))), (0, .ref (w.1 (0))), (1, .int (nI (i)))] 1 (nI (v + 1)) dX11_isBinary_47 rfl (nI_1 (v)) (by decide) rfl ?_
          refine g_goto C 17 dX11_isBinary_50 rfl ?_
          refine g_sub [0, 1, 2, 3] [(3, .int (nI (v + 1))), (2, .int (nI (0))), (0, .ref (w.1 (0))), (1, .int (nI (i)))] rfl ?_
          refine g_l2 hs.symm ?_
          exact ih (v + 1) (by omega) (by omega)
        · replace c_5 := (not_congr (nI_leI (by omega) (by omega))).mp c_5
          have hs : pI (0 < mN σ i ∧ ∀ x, x < v + 1 → mCn σ i x < 3) = nI 1 := pI_t ⟨hq.1, fun x hx => by by_cases e : x = v; (rw [e]; omega); exact hq.2 x (by omega)⟩
          refine g_iconst (pc9 := 42) C rfl (nI (1)) dX11_isBinary_41 rfl ?_
          refine g_goto C 46 dX11_isBinary_42 rfl ?_
          refine g_istore_n (pc9 := 47) C rfl [(2, .int (nI (1))), (3, .int (nI (v))), (0, .ref (w.1 (0))), (1, .int (nI (i)))] dX11_isBinary_46 rfl (by decide) rfl ?_
          refine g_iinc (pc9 := 50) C rfl [(3, .int (nI (v + 1))), (2, .int (nI (1))), (0, .ref (w.1 (0))), (1, .int (nI (i)))] 1 (nI (v + 1)) dX11_isBinary_47 rfl (nI_1 (v)) (by decide) rfl ?_
          refine g_goto C 17 dX11_isBinary_50 rfl ?_
          refine g_sub [0, 1, 2, 3] [(3, .int (nI (v + 1))), (2, .int (nI (1))), (0, .ref (w.1 (0))), (1, .int (nI (i)))] rfl ?_
          refine g_l2 hs.symm ?_
          exact ih (v + 1) (by omega) (by omega)
  · replace c_1 := (not_congr (z_le (by omega))).mp c_1
    refine g_iconst (pc9 := 10) C rfl (nI (1)) dX11_isBinary_9 rfl ?_
    refine g_goto C 14 dX11_isBinary_10 rfl ?_
    refine g_istore_n (pc9 := 15) C rfl [(2, .int (nI (1))), (0, .ref (w.1 (0))), (1, .int (nI (i)))] dX11_isBinary_14 rfl (by decide) rfl ?_
    refine g_iconst (pc9 := 16) C rfl (nI (0)) dX11_isBinary_15 rfl ?_
    refine g_istore_n (pc9 := 17) C rfl [(3, .int (nI (0))), (2, .int (nI (1))), (0, .ref (w.1 (0))), (1, .int (nI (i)))] dX11_isBinary_16 rfl (by decide) rfl ?_
    have hpos :  0 < mN σ i := by omega
    refine g_sub [0, 1, 2, 3] [(3, .int (nI (0))), (2, .int (nI (1))), (0, .ref (w.1 (0))), (1, .int (nI (i)))] rfl ?_
    refine g_l2 (x9 := pI (0 < mN σ i ∧ ∀ x, x < 0 → mCn σ i x < 3)) (by exact (pI_t ⟨hpos, fun x hx => absurd hx (by omega)⟩).symm) ?_
    refine g_lp1 (α := Nat) (fun v => v ≤ mN σ i) (fun v => mN σ i - v) (fun v => G p l e _ s m args below meth c _ w A _ (σ) 0 0 17 [(3, .int (nI (v))), (2, .int (pI (0 < mN σ i ∧ ∀ x, x < v → mCn σ i x < 3))), (0, .ref (w.1 (0))), (1, .int (nI (i)))] []) (fun v hI ih => ?_) (0) (Nat.zero_le _)
    obtain hv := hI
    refine g_iload_n (pc9 := 18) C rfl 0 dX11_isBinary_17 rfl rfl ?_
    refine g_aload_n (pc9 := 19) C rfl 2 dX11_isBinary_18 rfl rfl ?_
    refine g_get (v := .ref (w.1 (2))) (pc9 := 22) C rfl (0) 5 dX11_isBinary_19 (by decide) (ce_0 w (σ)) hin_11 hl_17 rfl (by decide) rfl rfl ?_
    refine g_iload_n (pc9 := 23) C rfl 3 dX11_isBinary_22 rfl rfl ?_
    refine g_iald (x := nI (mN σ (i))) (pc9 := 24) C rfl (2) (i) dX11_isBinary_23 (by decide) (ce_2 w (σ)) rfl (by omega) (by decide) hm.1 ?_
    refine g_icmp_ge (pc9 := 27) C rfl 53 dX11_isBinary_24 rfl (fun c_6 => ?_) (fun c_6 => ?_)
    · replace c_6 := (nI_leI (by omega) (by omega)).mp c_6
      refine g_iload_n (pc9 := 54) C rfl 1 dX11_isBinary_53 rfl rfl ?_
      exact g_zreturn C hr hlk dX11_isBinary_54 (pI_01 _) ⟨rfl, by rw [show v = mN σ i by omega]⟩
    · replace c_6 := (not_congr (nI_leI (by omega) (by omega))).mp c_6
      have hcn : mCn σ i v ≤ _ := cntU_le (q := mCh σ i v) (mN σ i - (v + 1))
      refine g_iload_n (pc9 := 28) C rfl 1 dX11_isBinary_27 rfl rfl ?_
      refine g_if_eq (pc9 := 31) C rfl 45 dX11_isBinary_28 rfl (fun c_7 => ?_) (fun c_7 => ?_)
      · have hs : pI (0 < mN σ i ∧ ∀ x, x < v + 1 → mCn σ i x < 3) = nI 0 := pI_f (fun h => pI_no c_7 ⟨h.1, fun x hx => h.2 x (by omega)⟩)
        refine g_iconst (pc9 := 46) C rfl (nI (0)) dX11_isBinary_45 rfl ?_
        refine g_istore_n (pc9 := 47) C rfl [(2, .int (nI (0))), (3, .int (nI (v))), (0, .ref (w.1 (0))), (1, .int (nI (i)))] dX11_isBinary_46 rfl (by decide) rfl ?_
        refine g_iinc (pc9 := 50) C rfl [(3, .int (nI (v + 1))), (2, .int (nI (0))), (0, .ref (w.1 (0))), (1, .int (nI (i)))] 1 (nI (v + 1)) dX11_isBinary_47 rfl (nI_1 (v)) (by decide) rfl ?_
        refine g_goto C 17 dX11_isBinary_50 rfl ?_
        refine g_sub [0, 1, 2, 3] [(3, .int (nI (v + 1))), (2, .int (nI (0))), (0, .ref (w.1 (0))), (1, .int (nI (i)))] rfl ?_
        refine g_l2 hs.symm ?_
        exact ih (v + 1) (by omega) (by omega)
      · have hq := pI_ye c_7
        refine g_aload_n (pc9 := 32) C rfl 2 dX11_isBinary_31 rfl rfl ?_
        refine g_iload_n (pc9 := 33) C rfl 3 dX11_isBinary_32 rfl rfl ?_
        refine g_iload_n (pc9 := 34) C rfl 0 dX11_isBinary_33 rfl rfl ?_
        refine g_callVi (nn := 2) (rest := []) (pc9 := 37) C rfl (0) [.int (nI (i)), .int (nI (v))] rfl dX11_isBinary_34 (m_X11_children l w σ i hi hm v (by omega)) gX11_isBinary_X11_children (by decide) (ce_0 w (σ)) rfl rfl rfl rfl rfl (by decide +kernel) ⟨by decide, by decide⟩ rfl (Nat.le_of_ble_eq_true rfl) ⟨by decide, by decide⟩ (fun r_8 σ_8 q_8 => ?_)
        obtain ⟨qs_8, qr_8⟩ := q_8
        rw [qs_8, qr_8]
        clear qs_8 qr_8
        refine g_iconst (pc9 := 38) C rfl (nI (3)) dX11_isBinary_37 rfl ?_
        refine g_icmp_ge (pc9 := 41) C rfl 45 dX11_isBinary_38 rfl (fun c_9 => ?_) (fun c_9 => ?_)
        · replace c_9 := (nI_leI (by omega) (by omega)).mp c_9
          have hs : pI (0 < mN σ i ∧ ∀ x, x < v + 1 → mCn σ i x < 3) = nI 0 := pI_f (fun h => by have := h.2 v (by omega); omega)
          refine g_iconst (pc9 := 46) C rfl (nI (0)) dX11_isBinary_45 rfl ?_
          refine g_istore_n (pc9 := 47) C rfl [(2, .int (nI (0))), (3, .int (nI (v))), (0, .ref (w.1 (0))), (1, .int (nI (i)))] dX11_isBinary_46 rfl (by decide) rfl ?_
          refine g_iinc (pc9 := 50) C rfl [(3, .int (nI (v + 1))), (2, .int (nI (0))), (0, .ref (w.1 (0))), (1, .int (nI (i)))] 1 (nI (v + 1)) dX11_isBinary_47 rfl (nI_1 (v)) (by decide) rfl ?_
          refine g_goto C 17 dX11_isBinary_50 rfl ?_
          refine g_sub [0, 1, 2, 3] [(3, .int (nI (v + 1))), (2, .int (nI (0))), (0, .ref (w.1 (0))), (1, .int (nI (i)))] rfl ?_
          refine g_l2 hs.symm ?_
          exact ih (v + 1) (by omega) (by omega)
        · replace c_9 := (not_congr (nI_leI (by omega) (by omega))).mp c_9
          have hs : pI (0 < mN σ i ∧ ∀ x, x < v + 1 → mCn σ i x < 3) = nI 1 := pI_t ⟨hq.1, fun x hx => by by_cases e : x = v; (rw [e]; omega); exact hq.2 x (by omega)⟩
          refine g_iconst (pc9 := 42) C rfl (nI (1)) dX11_isBinary_41 rfl ?_
          refine g_goto C 46 dX11_isBinary_42 rfl ?_
          refine g_istore_n (pc9 := 47) C rfl [(2, .int (nI (1))), (3, .int (nI (v))), (0, .ref (w.1 (0))), (1, .int (nI (i)))] dX11_isBinary_46 rfl (by decide) rfl ?_
          refine g_iinc (pc9 := 50) C rfl [(3, .int (nI (v + 1))), (2, .int (nI (1))), (0, .ref (w.1 (0))), (1, .int (nI (i)))] 1 (nI (v + 1)) dX11_isBinary_47 rfl (nI_1 (v)) (by decide) rfl ?_
          refine g_goto C 17 dX11_isBinary_50 rfl ?_
          refine g_sub [0, 1, 2, 3] [(3, .int (nI (v + 1))), (2, .int (nI (1))), (0, .ref (w.1 (0))), (1, .int (nI (i)))] rfl ?_
          refine g_l2 hs.symm ?_
          exact ih (v + 1) (by omega) (by omega)
/-- the next child behind b -/
def nxC (σ : St) (i x b : Nat) (r : Int32) : Prop := (∃ k, b < k ∧ k < mN σ i ∧ mP σ i k = nI x ∧ (∀ u, b < u → u < k → ¬ mP σ i u = nI x) ∧ r = nI k) ∨ (r = -1 ∧ ∀ u, b < u → u < mN σ i → ¬ mP σ i u = nI x)
set_option maxRecDepth 100000 in
set_option maxHeartbeats 4000000 in
theorem m_X11_child (l : Launch) (w : Wd) (σ : St) (i : Nat) (hi : i < 8) (hm : mtOk σ i) (x b : Nat) (hb : b < mN σ i) (hx : x < 47) : MI l yX11_child wsX11_child (rmL 1) w [.ref (w.1 (0)), .int (nI (i)), .int (nI (x)), .int (nI (b))] (σ) (fun r σ9 => σ9 = σ ∧ nxC σ i x b r) := by
  refine MI_of (cc := cX11_child) (maxL := 5) (ret := .int) (by decide) rfl (Nat.le_of_ble_eq_true rfl) ?_
  intro p e s m args below meth c A C hr hlk
  have C : Cx p s m args c w A cX11_child RX11 5 wsX11_child := C
  have hin_11 : ∀ u ∈ wsX110, u ∈ wsX11_child := by decide +kernel
  have hl_17 : Cond.fieldLink RX11 17 "LineageBenchModel" "many" "[I" ∈ wsX11_child := by decide +kernel
  have hl_21 : Cond.fieldLink RX11 21 "LineageBenchModel" "parent" "[I" ∈ wsX11_child := by decide +kernel
  have h47 := hm.2.1
  refine g_iload_n (pc9 := 1) C rfl 3 dX11_child_0 rfl rfl ?_
  refine g_iconst (pc9 := 2) C rfl (nI (1)) dX11_child_1 rfl ?_
  refine g_iaddN (pc9 := 3) C rfl dX11_child_2 ?_
  refine g_istore (pc9 := 5) C rfl [(4, .int (nI (b + 1))), (0, .ref (w.1 (0))), (1, .int (nI (i))), (2, .int (nI (x))), (3, .int (nI (b)))] dX11_child_3 (by decide) rfl ?_
  refine g_sub [0, 1, 2, 3, 4] [(4, .int (nI (b + 1))), (0, .ref (w.1 (0))), (1, .int (nI (i))), (2, .int (nI (x))), (3, .int (nI (b)))] rfl ?_
  refine g_lp1 (α := Nat) (fun k => b < k ∧ k ≤ mN σ i ∧ ∀ u, b < u → u < k → ¬ mP σ i u = nI x) (fun k => mN σ i - k) (fun k => G p l e _ s m args below meth c _ w A _ (σ) 0 0 5 [(4, .int (nI (k))), (0, .ref (w.1 (0))), (1, .int (nI (i))), (2, .int (nI (x))), (3, .int (nI (b)))] []) (fun k hI ih => ?_) (b + 1) ⟨by omega, by omega, fun u h1 h2 => absurd h2 (by omega)⟩
  obtain ⟨hk1, hk2, hk3⟩ := hI
  refine g_iload (pc9 := 7) C rfl 0 dX11_child_5 rfl ?_
  refine g_aload_n (pc9 := 8) C rfl 1 dX11_child_7 rfl rfl ?_
  refine g_get (v := .ref (w.1 (2))) (pc9 := 11) C rfl (0) 5 dX11_child_8 (by decide) (ce_0 w (σ)) hin_11 hl_17 rfl (by decide) rfl rfl ?_
  refine g_iload_n (pc9 := 12) C rfl 2 dX11_child_11 rfl rfl ?_
  refine g_iald (x := nI (mN σ (i))) (pc9 := 13) C rfl (2) (i) dX11_child_12 (by decide) (ce_2 w (σ)) rfl (by omega) (by decide) hm.1 ?_
  refine g_icmp_ge (pc9 := 16) C rfl 38 dX11_child_13 rfl (fun c_1 => ?_) (fun c_1 => ?_)
  · replace c_1 := (nI_leI (by omega) (by omega)).mp c_1
    refine g_iload (pc9 := 40) C rfl 0 dX11_child_38 rfl ?_
    refine g_aload_n (pc9 := 41) C rfl 1 dX11_child_40 rfl rfl ?_
    refine g_get (v := .ref (w.1 (2))) (pc9 := 44) C rfl (0) 5 dX11_child_41 (by decide) (ce_0 w (σ)) hin_11 hl_17 rfl (by decide) rfl rfl ?_
    refine g_iload_n (pc9 := 45) C rfl 2 dX11_child_44 rfl rfl ?_
    refine g_iald (x := nI (mN σ (i))) (pc9 := 46) C rfl (2) (i) dX11_child_45 (by decide) (ce_2 w (σ)) rfl (by omega) (by decide) hm.1 ?_
    refine g_icmp_ge (pc9 := 49) C rfl 54 dX11_child_46 rfl (fun c_2 => ?_) (fun c_2 => ?_)
    · replace c_2 := (nI_leI (by omega) (by omega)).mp c_2
      refine g_iconst (pc9 := 55) C rfl ((-1)) dX11_child_54 rfl ?_
      exact g_ireturn C hr hlk dX11_child_55 (by first | exact ⟨rfl, Or.inl ⟨k, hk1, by omega, hch, hk3, rfl⟩⟩ | exact ⟨rfl, Or.inr ⟨rfl, fun u h1 h2 => hk3 u h1 (by omega)⟩⟩ | omega)
    · replace c_2 := (not_congr (nI_leI (by omega) (by omega))).mp c_2
      refine g_iload (pc9 := 51) C rfl 0 dX11_child_49 rfl ?_
      refine g_goto C 55 dX11_child_51 rfl ?_
      exact g_ireturn C hr hlk dX11_child_55 (by first | exact ⟨rfl, Or.inl ⟨k, hk1, by omega, hch, hk3, rfl⟩⟩ | exact ⟨rfl, Or.inr ⟨rfl, fun u h1 h2 => hk3 u h1 (by omega)⟩⟩ | omega)
  · replace c_1 := (not_congr (nI_leI (by omega) (by omega))).mp c_1
    refine g_aload_n (pc9 := 17) C rfl 1 dX11_child_16 rfl rfl ?_
    refine g_get (v := .ref (w.1 (3))) (pc9 := 20) C rfl (0) 6 dX11_child_17 (by decide) (ce_0 w (σ)) hin_11 hl_21 rfl (by decide) rfl rfl ?_
    refine g_bipush (pc9 := 22) C rfl (nI (47)) dX11_child_20 rfl ?_
    refine g_iload_n (pc9 := 23) C rfl 2 dX11_child_22 rfl rfl ?_
    refine g_imulN (pc9 := 24) C rfl dX11_child_23 ?_
    refine g_iload (pc9 := 26) C rfl 0 dX11_child_24 rfl ?_
    refine g_iaddN (pc9 := 27) C rfl dX11_child_26 ?_
    refine g_iald (x := (iA σ (3)) ((47 * i) + k)) (pc9 := 28) C rfl (3) ((47 * i) + k) dX11_child_27 (by decide) (ce_3 w (σ)) rfl (by omega) (by decide) rfl ?_
    refine g_iload_n (pc9 := 29) C rfl 3 dX11_child_28 rfl rfl ?_
    refine g_icmp_eq (pc9 := 32) C rfl 38 dX11_child_29 rfl (fun c_3 => ?_) (fun c_3 => ?_)
    · have hch : mP σ i k = nI x := c_3
      refine g_iload (pc9 := 40) C rfl 0 dX11_child_38 rfl ?_
      refine g_aload_n (pc9 := 41) C rfl 1 dX11_child_40 rfl rfl ?_
      refine g_get (v := .ref (w.1 (2))) (pc9 := 44) C rfl (0) 5 dX11_child_41 (by decide) (ce_0 w (σ)) hin_11 hl_17 rfl (by decide) rfl rfl ?_
      refine g_iload_n (pc9 := 45) C rfl 2 dX11_child_44 rfl rfl ?_
      refine g_iald (x := nI (mN σ (i))) (pc9 := 46) C rfl (2) (i) dX11_child_45 (by decide) (ce_2 w (σ)) rfl (by omega) (by decide) hm.1 ?_
      refine g_icmp_ge (pc9 := 49) C rfl 54 dX11_child_46 rfl (fun c_4 => ?_) (fun c_4 => ?_)
      · replace c_4 := (nI_leI (by omega) (by omega)).mp c_4
        refine g_iconst (pc9 := 55) C rfl ((-1)) dX11_child_54 rfl ?_
        exact g_ireturn C hr hlk dX11_child_55 (by first | exact ⟨rfl, Or.inl ⟨k, hk1, by omega, hch, hk3, rfl⟩⟩ | exact ⟨rfl, Or.inr ⟨rfl, fun u h1 h2 => hk3 u h1 (by omega)⟩⟩ | omega)
      · replace c_4 := (not_congr (nI_leI (by omega) (by omega))).mp c_4
        refine g_iload (pc9 := 51) C rfl 0 dX11_child_49 rfl ?_
        refine g_goto C 55 dX11_child_51 rfl ?_
        exact g_ireturn C hr hlk dX11_child_55 (by first | exact ⟨rfl, Or.inl ⟨k, hk1, by omega, hch, hk3, rfl⟩⟩ | exact ⟨rfl, Or.inr ⟨rfl, fun u h1 h2 => hk3 u h1 (by omega)⟩⟩ | omega)
    · have hnc : ¬ mP σ i k = nI x := c_3
      refine g_iinc (pc9 := 35) C rfl [(4, .int (nI (k + 1))), (0, .ref (w.1 (0))), (1, .int (nI (i))), (2, .int (nI (x))), (3, .int (nI (b)))] 0 (nI (k + 1)) dX11_child_32 rfl (nI_1 (k)) (by decide) rfl ?_
      refine g_goto C 5 dX11_child_35 rfl ?_
      exact ih (k + 1) ⟨by omega, by omega, fun u h1 h2 => by by_cases e : u = k; (rw [e]; exact hnc); exact hk3 u h1 (by omega)⟩ (by omega)

/-! Family: growing a tree -/
set_option maxRecDepth 100000 in
set_option maxHeartbeats 4000000 in
theorem m_X1_around (l : Launch) (w : Wd) (σ : St) (i : Nat) (hi : i < 47) : MI l yX1_smallestAround wsX1_smallestAround (rmL 1) w [.ref (w.1 (41)), .int (nI (i))] (σ) (fun r σ9 => σ9 = σ ∧ r = around (iA σ 42) ((iA σ 42) i) i) := by
  refine MI_of (cc := cX1_smallestAround) (maxL := 3) (ret := .int) (by decide) rfl (Nat.le_of_ble_eq_true rfl) ?_
  intro p e s m args below meth c A C hr hlk
  have C : Cx p s m args c w A cX1_smallestAround RX1 3 wsX1_smallestAround := C
  have hin_1 : ∀ u ∈ wsX10, u ∈ wsX1_smallestAround := by decide +kernel
  have hl_9 : Cond.fieldLink RX1 9 "LineageBench$Family" "sets" "[I" ∈ wsX1_smallestAround := by decide +kernel
  refine g_iload_n (pc9 := 1) C rfl 1 dX1_smallestAround_0 rfl rfl ?_
  refine g_iconst (pc9 := 2) C rfl (nI (1)) dX1_smallestAround_1 rfl ?_
  refine g_isub (pc9 := 3) C rfl dX1_smallestAround_2 ?_
  rw [nI_dn]
  refine g_istore_n (pc9 := 4) C rfl [(2, .int (dn i)), (0, .ref (w.1 (41))), (1, .int (nI (i)))] dX1_smallestAround_3 rfl (by decide) rfl ?_
  refine g_lp1 (α := Nat) (fun v => v ≤ i ∧ around (iA σ 42) ((iA σ 42) i) v = around (iA σ 42) ((iA σ 42) i) i) (fun v => v) (fun v => G p l e _ s m args below meth c _ w A _ (σ) 0 0 4 [(2, .int (dn v)), (0, .ref (w.1 (41))), (1, .int (nI (i)))] []) (fun v hI ih => ?_) (i) ⟨Nat.le_refl _, rfl⟩
  obtain ⟨hv, ha⟩ := hI
  rcases Nat.eq_zero_or_pos v with h0 | h0
  · subst h0
    rw [dn_0]
    refine g_iload_n (pc9 := 5) C rfl 0 dX1_smallestAround_4 rfl rfl ?_
    refine g_if_lt (pc9 := 8) C rfl 38 dX1_smallestAround_5 rfl (fun c_1 => ?_) (fun c_1 => ?_)
    · refine g_iconst (pc9 := 39) C rfl ((-1)) dX1_smallestAround_38 rfl ?_
      exact g_ireturn C hr hlk dX1_smallestAround_39 ⟨rfl, by rw [← ha]; rfl⟩
    · exact absurd (by decide) c_1
  · rw [dn_s h0]
    refine g_iload_n (pc9 := 5) C rfl 0 dX1_smallestAround_4 rfl rfl ?_
    refine g_if_lt (pc9 := 8) C rfl 38 dX1_smallestAround_5 rfl (fun c_2 => ?_) (fun c_2 => ?_)
    · replace c_2 := (z_lt (by omega)).mp c_2
      exact absurd c_2 (by simp)
    · replace c_2 := (not_congr (z_lt (by omega))).mp c_2
      refine g_aload_n (pc9 := 9) C rfl 1 dX1_smallestAround_8 rfl rfl ?_
      refine g_get (v := .ref (w.1 (42))) (pc9 := 12) C rfl (41) 0 dX1_smallestAround_9 (by decide) (ce_41 w (σ)) hin_1 hl_9 rfl (by decide) rfl rfl ?_
      refine g_iload_n (pc9 := 13) C rfl 0 dX1_smallestAround_12 rfl rfl ?_
      refine g_iald (x := (iA σ (42)) (v - 1)) (pc9 := 14) C rfl (42) (v - 1) dX1_smallestAround_13 (by decide) (ce_42 w (σ)) rfl (by omega) (by decide) rfl ?_
      refine g_aload_n (pc9 := 15) C rfl 1 dX1_smallestAround_14 rfl rfl ?_
      refine g_get (v := .ref (w.1 (42))) (pc9 := 18) C rfl (41) 0 dX1_smallestAround_15 (by decide) (ce_41 w (σ)) hin_1 hl_9 rfl (by decide) rfl rfl ?_
      refine g_iload_n (pc9 := 19) C rfl 2 dX1_smallestAround_18 rfl rfl ?_
      refine g_iald (x := (iA σ (42)) (i)) (pc9 := 20) C rfl (42) (i) dX1_smallestAround_19 (by decide) (ce_42 w (σ)) rfl (by omega) (by decide) rfl ?_
      refine g_iand (pc9 := 21) C rfl dX1_smallestAround_20 ?_
      refine g_aload_n (pc9 := 22) C rfl 1 dX1_smallestAround_21 rfl rfl ?_
      refine g_get (v := .ref (w.1 (42))) (pc9 := 25) C rfl (41) 0 dX1_smallestAround_22 (by decide) (ce_41 w (σ)) hin_1 hl_9 rfl (by decide) rfl rfl ?_
      refine g_iload_n (pc9 := 26) C rfl 2 dX1_smallestAround_25 rfl rfl ?_
      refine g_iald (x := (iA σ (42)) (i)) (pc9 := 27) C rfl (42) (i) dX1_smallestAround_26 (by decide) (ce_42 w (σ)) rfl (by omega) (by decide) rfl ?_
      refine g_icmp_ne (pc9 := 30) C rfl 32 dX1_smallestAround_27 rfl (fun c_3 => ?_) (fun c_3 => ?_)
      · have hst := around_n h0 c_3
        refine g_iinc (pc9 := 35) C rfl [(2, .int (dn (v - 1))), (0, .ref (w.1 (41))), (1, .int (nI (i)))] 0 (dn (v - 1)) dX1_smallestAround_32 rfl rfl (by decide) rfl ?_
        refine g_goto C 4 dX1_smallestAround_35 rfl ?_
        exact ih (v - 1) ⟨by omega, hst.symm.trans ha⟩ (by omega)
      · have hst := around_y h0 c_3
        refine g_iload_n (pc9 := 31) C rfl 0 dX1_smallestAround_30 rfl rfl ?_
        exact g_ireturn C hr hlk dX1_smallestAround_31 ⟨rfl, by rw [← ha, hst]⟩
abbrev TD : Type := Nat × (Nat → Int32) × (Nat → Int32) × (Nat → Int32) × (Nat → Int32)
/-- a tree's content with the node i more -/
def tdA (i u : Nat) (k : Int32) (D : TD) : TD := (D.1 + kN k, upd D.2.1 i (if i = 0 then -1 else nI u), upd D.2.2.1 i k, upd D.2.2.2.1 i (kB k), if i = 0 then upd D.2.2.2.2 i (nI 0) else upd (upd D.2.2.2.2 i (nI 0)) u (upd D.2.2.2.2 i (nI 0) u + nI 1))
def tdU (U : Nat → Nat) (K : Nat → Int32) (D : TD) : Nat → TD
  | 0 => D
  | i + 1 => tdA i (U i) (K i) (tdU U K D i)
abbrev tdS (σ : St) (j n : Nat) (D : TD) : St := trS σ j n D.1 D.2.1 D.2.2.1 D.2.2.2.1 D.2.2.2.2
theorem tdS_self {σ : St} {j : Nat} : tdS σ j 0 (0, tP σ j, tK σ j, tC σ j, tH σ j) = sN (sN σ (64 + 5 * j) 4 (nI 0)) (64 + 5 * j) 5 (nI 0) := by
  show trS σ j 0 0 (iA σ _) (iA σ _) (iA σ _) (iA σ _) = _
  unfold trS
  rw [sI_self, sI_self, sI_self, sI_self]
theorem tdA_0 {u : Nat} {k : Int32} {D : TD} : tdA 0 u k D = (D.1 + kN k, upd D.2.1 0 (-1), upd D.2.2.1 0 k, upd D.2.2.2.1 0 (kB k), upd D.2.2.2.2 0 (nI 0)) := rfl
theorem tdA_s {i u : Nat} {k : Int32} {D : TD} (h : 0 < i) : tdA i u k D = (D.1 + kN k, upd D.2.1 i (nI u), upd D.2.2.1 i k, upd D.2.2.2.1 i (kB k), upd (upd D.2.2.2.2 i (nI 0)) u (upd D.2.2.2.2 i (nI 0) u + nI 1)) := by
  unfold tdA
  rw [if_neg (by omega), if_neg (by omega)]
theorem tdS_A {σ : St} {j i u : Nat} {k : Int32} {D : TD} (h : 0 < i) : trS σ j (i + 1) (D.1 + kN k) (upd D.2.1 i (nI u)) (upd D.2.2.1 i k) (upd D.2.2.2.1 i (kB k)) (upd (upd D.2.2.2.2 i (nI 0)) u (upd D.2.2.2.2 i (nI 0) u + nI 1)) = tdS σ j (i + 1) (tdA i u k D) := by rw [tdA_s h]
theorem tdU_P {U : Nat → Nat} {K : Nat → Int32} {D : TD} : ∀ (n v : Nat), 0 < v → v < n → (tdU U K D n).2.1 v = nI (U v) := by
  intro n
  induction n with
  | zero => intro v _ h; omega
  | succ n ih =>
    intro v h0 h1
    show upd (tdU U K D n).2.1 n (if n = 0 then -1 else nI (U n)) v = _
    by_cases h : v = n
    · subst h; rw [pk_us, if_neg (by omega)]
    · rw [pk_un h]; exact ih v h0 (by omega)
set_option maxRecDepth 100000 in
set_option maxHeartbeats 4000000 in
theorem m_X1_growTree (l : Launch) (w : Wd) (σ : St) (z : Nat) (f : Nat → Int32) (j : Nat) (hj : j < 9) (hz0 : 0 < z) (hz : z ≤ 47) (U : Nat → Nat) (hU : ∀ i, 0 < i → i < z → around f (f i) i = nI (U i) ∧ U i < i) : MV l yX1_growTree wsX1_growTree (rmL 2) w [.ref (w.1 (41)), .ref (w.1 (64 + 5 * j))] (sN (sI σ (42) (f)) (41) 1 (nI (z))) (fun σ9 => σ9 = sI (tdS (famSt σ z f) j z (tdU U (fun i => kindUp (f i) 12 0) (0, tP (famSt σ z f) j, tK (famSt σ z f) j, tC (famSt σ z f) j, tH (famSt σ z f) j) z)) (67 + 5 * j) (gath U (z - 1) (tdU U (fun i => kindUp (f i) 12 0) (0, tP (famSt σ z f) j, tK (famSt σ z f) j, tC (famSt σ z f) j, tH (famSt σ z f) j) z).2.2.2.1)) := by
  refine MV_of (cc := cX1_growTree) (maxL := 3) (by decide) rfl (Nat.le_of_ble_eq_true rfl) ?_
  intro p e s m args below meth c A C hr hlk
  have C : Cx p s m args c w A cX1_growTree RX1 3 wsX1_growTree := C
  have hin_1 : ∀ u ∈ wsX10, u ∈ wsX1_growTree := by decide +kernel
  have hl_9 : Cond.fieldLink RX1 9 "LineageBench$Family" "sets" "[I" ∈ wsX1_growTree := by decide +kernel
  have hl_15 : Cond.fieldLink RX1 15 "LineageBench$Family" "size" "I" ∈ wsX1_growTree := by decide +kernel
  refine g_aload_n (pc9 := 1) C rfl 1 dX1_growTree_0 rfl rfl ?_
  refine g_callVv (nn := 0) (rest := []) (pc9 := 4) C rfl (64 + 5 * j) [] rfl dX1_growTree_1 (m_X7_makeNone l w (famSt σ z f) j hj) gX1_growTree_X7_makeNone (by omega) (ce_tree w (sN (sI σ (42) (f)) (41) 1 (nI (z))) (j)) rfl rfl rfl rfl rfl (by decide +kernel) ⟨by decide, by decide⟩ rfl (Nat.le_of_ble_eq_true rfl) ⟨by decide, by decide⟩ (fun σ_1 q_1 => ?_)
  replace q_1 := q_1.trans tdS_self.symm
  rw [q_1]
  clear q_1
  refine g_iconst (pc9 := 5) C rfl (nI (0)) dX1_growTree_4 rfl ?_
  refine g_istore_n (pc9 := 6) C rfl [(2, .int (nI (0))), (0, .ref (w.1 (41))), (1, .ref (w.1 (64 + 5 * j)))] dX1_growTree_5 rfl (by decide) rfl ?_
  refine g_sub [0, 1, 2] [(2, .int (nI (0))), (0, .ref (w.1 (41))), (1, .ref (w.1 (64 + 5 * j)))] rfl ?_
  refine g_lp1 (α := Nat) (fun v => v ≤ z) (fun v => z - v) (fun v => G p l e _ s m args below meth c _ w A _ (sN (sN (sI (sI (sI (sI (sN (sI σ (42) (f)) (41) 1 (nI (z))) (65 + 5 * j) ((tdU U (fun i => kindUp (f i) 12 0) (0, tP (famSt σ z f) j, tK (famSt σ z f) j, tC (famSt σ z f) j, tH (famSt σ z f) j) (v)).2.1)) (66 + 5 * j) ((tdU U (fun i => kindUp (f i) 12 0) (0, tP (famSt σ z f) j, tK (famSt σ z f) j, tC (famSt σ z f) j, tH (famSt σ z f) j) (v)).2.2.1)) (67 + 5 * j) ((tdU U (fun i => kindUp (f i) 12 0) (0, tP (famSt σ z f) j, tK (famSt σ z f) j, tC (famSt σ z f) j, tH (famSt σ z f) j) (v)).2.2.2.1)) (68 + 5 * j) ((tdU U (fun i => kindUp (f i) 12 0) (0, tP (famSt σ z f) j, tK (famSt σ z f) j, tC (famSt σ z f) j, tH (famSt σ z f) j) (v)).2.2.2.2)) (64 + 5 * j) 4 (nI (v))) (64 + 5 * j) 5 (nI ((tdU U (fun i => kindUp (f i) 12 0) (0, tP (famSt σ z f) j, tK (famSt σ z f) j, tC (famSt σ z f) j, tH (famSt σ z f) j) (v)).1))) 0 0 6 [(2, .int (nI (v))), (0, .ref (w.1 (41))), (1, .ref (w.1 (64 + 5 * j)))] []) (fun v hI ih => ?_) (0) (Nat.zero_le _)
  obtain hv := hI
  refine g_iload_n (pc9 := 7) C rfl 0 dX1_growTree_6 rfl rfl ?_
  refine g_aload_n (pc9 := 8) C rfl 1 dX1_growTree_7 rfl rfl ?_
  refine g_get (v := .int (nI (z))) (pc9 := 11) C rfl (41) 1 dX1_growTree_8 (by decide) (ce_41 w (sN (sN (sI (sI (sI (sI (sN (sI σ (42) (f)) (41) 1 (nI (z))) (65 + 5 * j) ((tdU U (fun i => kindUp (f i) 12 0) (0, tP (famSt σ z f) j, tK (famSt σ z f) j, tC (famSt σ z f) j, tH (famSt σ z f) j) (v)).2.1)) (66 + 5 * j) ((tdU U (fun i => kindUp (f i) 12 0) (0, tP (famSt σ z f) j, tK (famSt σ z f) j, tC (famSt σ z f) j, tH (famSt σ z f) j) (v)).2.2.1)) (67 + 5 * j) ((tdU U (fun i => kindUp (f i) 12 0) (0, tP (famSt σ z f) j, tK (famSt σ z f) j, tC (famSt σ z f) j, tH (famSt σ z f) j) (v)).2.2.2.1)) (68 + 5 * j) ((tdU U (fun i => kindUp (f i) 12 0) (0, tP (famSt σ z f) j, tK (famSt σ z f) j, tC (famSt σ z f) j, tH (famSt σ z f) j) (v)).2.2.2.2)) (64 + 5 * j) 4 (nI (v))) (64 + 5 * j) 5 (nI ((tdU U (fun i => kindUp (f i) 12 0) (0, tP (famSt σ z f) j, tK (famSt σ z f) j, tC (famSt σ z f) j, tH (famSt σ z f) j) (v)).1)))) hin_1 hl_15 rfl (by decide) rfl (congrArg (fun z => some (Value.int z)) (((((((nF_n (by omega)).trans (nF_n (by omega))).trans (nF_I)).trans (nF_I)).trans (nF_I)).trans (nF_I)).trans (nF_s))) ?_
  refine g_icmp_ge (pc9 := 14) C rfl 39 dX1_growTree_11 rfl (fun c_2 => ?_) (fun c_2 => ?_)
  · replace c_2 := (nI_leI (by omega) (by omega)).mp c_2
    have hvz : v = z := by omega
    refine g_aload_n (pc9 := 40) C rfl 2 dX1_growTree_39 rfl rfl ?_
    refine g_callVv (nn := 0) (rest := []) (pc9 := 43) C rfl (64 + 5 * j) [] rfl dX1_growTree_40 (m_X7_gatherClusters l w (sN (sN (sI (sI (sI (sI (sN (sI σ (42) (f)) (41) 1 (nI (z))) (65 + 5 * j) ((tdU U (fun i => kindUp (f i) 12 0) (0, tP (famSt σ z f) j, tK (famSt σ z f) j, tC (famSt σ z f) j, tH (famSt σ z f) j) (v)).2.1)) (66 + 5 * j) ((tdU U (fun i => kindUp (f i) 12 0) (0, tP (famSt σ z f) j, tK (famSt σ z f) j, tC (famSt σ z f) j, tH (famSt σ z f) j) (v)).2.2.1)) (67 + 5 * j) ((tdU U (fun i => kindUp (f i) 12 0) (0, tP (famSt σ z f) j, tK (famSt σ z f) j, tC (famSt σ z f) j, tH (famSt σ z f) j) (v)).2.2.2.1)) (68 + 5 * j) ((tdU U (fun i => kindUp (f i) 12 0) (0, tP (famSt σ z f) j, tK (famSt σ z f) j, tC (famSt σ z f) j, tH (famSt σ z f) j) (v)).2.2.2.2)) (64 + 5 * j) 4 (nI (v))) (64 + 5 * j) 5 (nI ((tdU U (fun i => kindUp (f i) 12 0) (0, tP (famSt σ z f) j, tK (famSt σ z f) j, tC (famSt σ z f) j, tH (famSt σ z f) j) (v)).1))) j hj z (by rw [← hvz]; exact (nF_k (k := 5) (k9 := 4) (by decide)).trans nF_s) (by omega) U (fun v h1 h2 => ⟨by rw [← hvz] at h2; exact (congrFun (((((((iA_N).trans (iA_N)).trans (iA_n (by omega))).trans (iA_n (by omega))).trans (iA_n (by omega))).trans (iA_s))) _).trans (tdU_P _ v h1 h2), (hU v h1 h2).2⟩) hz0) gX1_growTree_X7_gatherClusters (by omega) (ce_tree w (sN (sN (sI (sI (sI (sI (sN (sI σ (42) (f)) (41) 1 (nI (z))) (65 + 5 * j) ((tdU U (fun i => kindUp (f i) 12 0) (0, tP (famSt σ z f) j, tK (famSt σ z f) j, tC (famSt σ z f) j, tH (famSt σ z f) j) (v)).2.1)) (66 + 5 * j) ((tdU U (fun i => kindUp (f i) 12 0) (0, tP (famSt σ z f) j, tK (famSt σ z f) j, tC (famSt σ z f) j, tH (famSt σ z f) j) (v)).2.2.1)) (67 + 5 * j) ((tdU U (fun i => kindUp (f i) 12 0) (0, tP (famSt σ z f) j, tK (famSt σ z f) j, tC (famSt σ z f) j, tH (famSt σ z f) j) (v)).2.2.2.1)) (68 + 5 * j) ((tdU U (fun i => kindUp (f i) 12 0) (0, tP (famSt σ z f) j, tK (famSt σ z f) j, tC (famSt σ z f) j, tH (famSt σ z f) j) (v)).2.2.2.2)) (64 + 5 * j) 4 (nI (v))) (64 + 5 * j) 5 (nI ((tdU U (fun i => kindUp (f i) 12 0) (0, tP (famSt σ z f) j, tK (famSt σ z f) j, tC (famSt σ z f) j, tH (famSt σ z f) j) (v)).1))) (j)) rfl rfl rfl rfl rfl (by decide +kernel) ⟨by decide, by decide⟩ rfl (Nat.le_of_ble_eq_true rfl) ⟨by decide, by decide⟩ (fun σ_3 q_3 => ?_)
    exact g_return C hr hlk dX1_growTree_43 (by subst hvz; exact q_3.trans (congrArg (fun c => sI _ (67 + 5 * j) (gath U _ c)) (((((iA_N).trans (iA_N)).trans (iA_n (by omega))).trans (iA_s)))))
  · replace c_2 := (not_congr (nI_leI (by omega) (by omega))).mp c_2
    refine g_aload_n (pc9 := 15) C rfl 2 dX1_growTree_14 rfl rfl ?_
    refine g_aload_n (pc9 := 16) C rfl 1 dX1_growTree_15 rfl rfl ?_
    refine g_iload_n (pc9 := 17) C rfl 0 dX1_growTree_16 rfl rfl ?_
    refine g_callVi (nn := 1) (rest := [.ref (w.1 (64 + 5 * j))]) (pc9 := 20) C rfl (41) [.int (nI (v))] rfl dX1_growTree_17 (m_X1_around l w (sN (sN (sI (sI (sI (sI (sN (sI σ (42) (f)) (41) 1 (nI (z))) (65 + 5 * j) ((tdU U (fun i => kindUp (f i) 12 0) (0, tP (famSt σ z f) j, tK (famSt σ z f) j, tC (famSt σ z f) j, tH (famSt σ z f) j) (v)).2.1)) (66 + 5 * j) ((tdU U (fun i => kindUp (f i) 12 0) (0, tP (famSt σ z f) j, tK (famSt σ z f) j, tC (famSt σ z f) j, tH (famSt σ z f) j) (v)).2.2.1)) (67 + 5 * j) ((tdU U (fun i => kindUp (f i) 12 0) (0, tP (famSt σ z f) j, tK (famSt σ z f) j, tC (famSt σ z f) j, tH (famSt σ z f) j) (v)).2.2.2.1)) (68 + 5 * j) ((tdU U (fun i => kindUp (f i) 12 0) (0, tP (famSt σ z f) j, tK (famSt σ z f) j, tC (famSt σ z f) j, tH (famSt σ z f) j) (v)).2.2.2.2)) (64 + 5 * j) 4 (nI (v))) (64 + 5 * j) 5 (nI ((tdU U (fun i => kindUp (f i) 12 0) (0, tP (famSt σ z f) j, tK (famSt σ z f) j, tC (famSt σ z f) j, tH (famSt σ z f) j) (v)).1))) v (by omega)) gX1_growTree_X1_smallestAround (by decide) (ce_41 w (sN (sN (sI (sI (sI (sI (sN (sI σ (42) (f)) (41) 1 (nI (z))) (65 + 5 * j) ((tdU U (fun i => kindUp (f i) 12 0) (0, tP (famSt σ z f) j, tK (famSt σ z f) j, tC (famSt σ z f) j, tH (famSt σ z f) j) (v)).2.1)) (66 + 5 * j) ((tdU U (fun i => kindUp (f i) 12 0) (0, tP (famSt σ z f) j, tK (famSt σ z f) j, tC (famSt σ z f) j, tH (famSt σ z f) j) (v)).2.2.1)) (67 + 5 * j) ((tdU U (fun i => kindUp (f i) 12 0) (0, tP (famSt σ z f) j, tK (famSt σ z f) j, tC (famSt σ z f) j, tH (famSt σ z f) j) (v)).2.2.2.1)) (68 + 5 * j) ((tdU U (fun i => kindUp (f i) 12 0) (0, tP (famSt σ z f) j, tK (famSt σ z f) j, tC (famSt σ z f) j, tH (famSt σ z f) j) (v)).2.2.2.2)) (64 + 5 * j) 4 (nI (v))) (64 + 5 * j) 5 (nI ((tdU U (fun i => kindUp (f i) 12 0) (0, tP (famSt σ z f) j, tK (famSt σ z f) j, tC (famSt σ z f) j, tH (famSt σ z f) j) (v)).1)))) rfl rfl rfl rfl rfl (by decide +kernel) ⟨by decide, by decide⟩ rfl (Nat.le_of_ble_eq_true rfl) ⟨by decide, by decide⟩ (fun r_4 σ_4 q_4 => ?_)
    obtain ⟨qs_4, qr_4⟩ := q_4
    rw [qs_4, qr_4]
    clear qs_4 qr_4
    rw [show iA (sN (sN (sI (sI (sI (sI (sN (sI σ (42) (f)) (41) 1 (nI (z))) (65 + 5 * j) ((tdU U (fun i => kindUp (f i) 12 0) (0, tP (famSt σ z f) j, tK (famSt σ z f) j, tC (famSt σ z f) j, tH (famSt σ z f) j) (v)).2.1)) (66 + 5 * j) ((tdU U (fun i => kindUp (f i) 12 0) (0, tP (famSt σ z f) j, tK (famSt σ z f) j, tC (famSt σ z f) j, tH (famSt σ z f) j) (v)).2.2.1)) (67 + 5 * j) ((tdU U (fun i => kindUp (f i) 12 0) (0, tP (famSt σ z f) j, tK (famSt σ z f) j, tC (famSt σ z f) j, tH (famSt σ z f) j) (v)).2.2.2.1)) (68 + 5 * j) ((tdU U (fun i => kindUp (f i) 12 0) (0, tP (famSt σ z f) j, tK (famSt σ z f) j, tC (famSt σ z f) j, tH (famSt σ z f) j) (v)).2.2.2.2)) (64 + 5 * j) 4 (nI (v))) (64 + 5 * j) 5 (nI ((tdU U (fun i => kindUp (f i) 12 0) (0, tP (famSt σ z f) j, tK (famSt σ z f) j, tC (famSt σ z f) j, tH (famSt σ z f) j) (v)).1))) 42 = f from ((((((((iA_N).trans (iA_N)).trans (iA_n (by omega))).trans (iA_n (by omega))).trans (iA_n (by omega))).trans (iA_n (by omega))).trans (iA_N)).trans (iA_s))]
    refine g_aload_n (pc9 := 21) C rfl 1 dX1_growTree_20 rfl rfl ?_
    refine g_get (v := .ref (w.1 (42))) (pc9 := 24) C rfl (41) 0 dX1_growTree_21 (by decide) (ce_41 w (sN (sN (sI (sI (sI (sI (sN (sI σ (42) (f)) (41) 1 (nI (z))) (65 + 5 * j) ((tdU U (fun i => kindUp (f i) 12 0) (0, tP (famSt σ z f) j, tK (famSt σ z f) j, tC (famSt σ z f) j, tH (famSt σ z f) j) (v)).2.1)) (66 + 5 * j) ((tdU U (fun i => kindUp (f i) 12 0) (0, tP (famSt σ z f) j, tK (famSt σ z f) j, tC (famSt σ z f) j, tH (famSt σ z f) j) (v)).2.2.1)) (67 + 5 * j) ((tdU U (fun i => kindUp (f i) 12 0) (0, tP (famSt σ z f) j, tK (famSt σ z f) j, tC (famSt σ z f) j, tH (famSt σ z f) j) (v)).2.2.2.1)) (68 + 5 * j) ((tdU U (fun i => kindUp (f i) 12 0) (0, tP (famSt σ z f) j, tK (famSt σ z f) j, tC (famSt σ z f) j, tH (famSt σ z f) j) (v)).2.2.2.2)) (64 + 5 * j) 4 (nI (v))) (64 + 5 * j) 5 (nI ((tdU U (fun i => kindUp (f i) 12 0) (0, tP (famSt σ z f) j, tK (famSt σ z f) j, tC (famSt σ z f) j, tH (famSt σ z f) j) (v)).1)))) hin_1 hl_9 rfl (by decide) rfl rfl ?_
    refine g_iload_n (pc9 := 25) C rfl 0 dX1_growTree_24 rfl rfl ?_
    refine g_iald (x := f (v)) (pc9 := 26) C rfl (42) (v) dX1_growTree_25 (by decide) (ce_42 w (sN (sN (sI (sI (sI (sI (sN (sI σ (42) (f)) (41) 1 (nI (z))) (65 + 5 * j) ((tdU U (fun i => kindUp (f i) 12 0) (0, tP (famSt σ z f) j, tK (famSt σ z f) j, tC (famSt σ z f) j, tH (famSt σ z f) j) (v)).2.1)) (66 + 5 * j) ((tdU U (fun i => kindUp (f i) 12 0) (0, tP (famSt σ z f) j, tK (famSt σ z f) j, tC (famSt σ z f) j, tH (famSt σ z f) j) (v)).2.2.1)) (67 + 5 * j) ((tdU U (fun i => kindUp (f i) 12 0) (0, tP (famSt σ z f) j, tK (famSt σ z f) j, tC (famSt σ z f) j, tH (famSt σ z f) j) (v)).2.2.2.1)) (68 + 5 * j) ((tdU U (fun i => kindUp (f i) 12 0) (0, tP (famSt σ z f) j, tK (famSt σ z f) j, tC (famSt σ z f) j, tH (famSt σ z f) j) (v)).2.2.2.2)) (64 + 5 * j) 4 (nI (v))) (64 + 5 * j) 5 (nI ((tdU U (fun i => kindUp (f i) 12 0) (0, tP (famSt σ z f) j, tK (famSt σ z f) j, tC (famSt σ z f) j, tH (famSt σ z f) j) (v)).1)))) rfl (by omega) (by decide) (congrFun ((((((((iA_N).trans (iA_N)).trans (iA_n (by omega))).trans (iA_n (by omega))).trans (iA_n (by omega))).trans (iA_n (by omega))).trans (iA_N)).trans (iA_s)) _) ?_
    refine g_callSi (nn := 1) (rest := [.int (around f (f v) v), .ref (w.1 (64 + 5 * j))]) (pc9 := 29) C rfl [.int (f (v))] rfl dX1_growTree_26 (m_X1_kindIfAlone l w (sN (sN (sI (sI (sI (sI (sN (sI σ (42) (f)) (41) 1 (nI (z))) (65 + 5 * j) ((tdU U (fun i => kindUp (f i) 12 0) (0, tP (famSt σ z f) j, tK (famSt σ z f) j, tC (famSt σ z f) j, tH (famSt σ z f) j) (v)).2.1)) (66 + 5 * j) ((tdU U (fun i => kindUp (f i) 12 0) (0, tP (famSt σ z f) j, tK (famSt σ z f) j, tC (famSt σ z f) j, tH (famSt σ z f) j) (v)).2.2.1)) (67 + 5 * j) ((tdU U (fun i => kindUp (f i) 12 0) (0, tP (famSt σ z f) j, tK (famSt σ z f) j, tC (famSt σ z f) j, tH (famSt σ z f) j) (v)).2.2.2.1)) (68 + 5 * j) ((tdU U (fun i => kindUp (f i) 12 0) (0, tP (famSt σ z f) j, tK (famSt σ z f) j, tC (famSt σ z f) j, tH (famSt σ z f) j) (v)).2.2.2.2)) (64 + 5 * j) 4 (nI (v))) (64 + 5 * j) 5 (nI ((tdU U (fun i => kindUp (f i) 12 0) (0, tP (famSt σ z f) j, tK (famSt σ z f) j, tC (famSt σ z f) j, tH (famSt σ z f) j) (v)).1))) (f (v))) gX1_growTree_X1_kindIfAlone rfl rfl rfl (by decide +kernel) ⟨by decide, by decide⟩ rfl (Nat.le_of_ble_eq_true rfl) ⟨by decide, by decide⟩ (fun r_5 σ_5 q_5 => ?_)
    obtain ⟨qs_5, qr_5⟩ := q_5
    rw [qs_5, qr_5]
    clear qs_5 qr_5
    rcases Nat.eq_zero_or_pos v with hv0 | hv0
    · subst hv0
      refine g_callVi (nn := 2) (rest := []) (pc9 := 32) C rfl (64 + 5 * j) [.int (around f (f 0) 0), .int (kindUp (f 0) 12 0)] rfl dX1_growTree_29 (m_X7_addRoot l w (famSt σ z f) j hj _ _ _ _ _ _ _) gX1_growTree_X7_addNode (by omega) (ce_tree w (sN (sN (sI (sI (sI (sI (sN (sI σ (42) (f)) (41) 1 (nI (z))) (65 + 5 * j) ((tdU U (fun i => kindUp (f i) 12 0) (0, tP (famSt σ z f) j, tK (famSt σ z f) j, tC (famSt σ z f) j, tH (famSt σ z f) j) (0)).2.1)) (66 + 5 * j) ((tdU U (fun i => kindUp (f i) 12 0) (0, tP (famSt σ z f) j, tK (famSt σ z f) j, tC (famSt σ z f) j, tH (famSt σ z f) j) (0)).2.2.1)) (67 + 5 * j) ((tdU U (fun i => kindUp (f i) 12 0) (0, tP (famSt σ z f) j, tK (famSt σ z f) j, tC (famSt σ z f) j, tH (famSt σ z f) j) (0)).2.2.2.1)) (68 + 5 * j) ((tdU U (fun i => kindUp (f i) 12 0) (0, tP (famSt σ z f) j, tK (famSt σ z f) j, tC (famSt σ z f) j, tH (famSt σ z f) j) (0)).2.2.2.2)) (64 + 5 * j) 4 (nI (0))) (64 + 5 * j) 5 (nI ((tdU U (fun i => kindUp (f i) 12 0) (0, tP (famSt σ z f) j, tK (famSt σ z f) j, tC (famSt σ z f) j, tH (famSt σ z f) j) (0)).1))) (j)) rfl rfl rfl rfl rfl (by decide +kernel) ⟨by decide, by decide⟩ rfl (Nat.le_of_ble_eq_true rfl) ⟨by decide, by decide⟩ (fun r_6 σ_6 q_6 => ?_)
      obtain ⟨qs_6, qr_6⟩ := q_6
      replace qs_6 : σ_6 = sN (sN (sI (sI (sI (sI (sN (sI σ (42) (f)) (41) 1 (nI (z))) (65 + 5 * j) ((tdU U (fun i => kindUp (f i) 12 0) (0, tP (famSt σ z f) j, tK (famSt σ z f) j, tC (famSt σ z f) j, tH (famSt σ z f) j) (1)).2.1)) (66 + 5 * j) ((tdU U (fun i => kindUp (f i) 12 0) (0, tP (famSt σ z f) j, tK (famSt σ z f) j, tC (famSt σ z f) j, tH (famSt σ z f) j) (1)).2.2.1)) (67 + 5 * j) ((tdU U (fun i => kindUp (f i) 12 0) (0, tP (famSt σ z f) j, tK (famSt σ z f) j, tC (famSt σ z f) j, tH (famSt σ z f) j) (1)).2.2.2.1)) (68 + 5 * j) ((tdU U (fun i => kindUp (f i) 12 0) (0, tP (famSt σ z f) j, tK (famSt σ z f) j, tC (famSt σ z f) j, tH (famSt σ z f) j) (1)).2.2.2.2)) (64 + 5 * j) 4 (nI (1))) (64 + 5 * j) 5 (nI ((tdU U (fun i => kindUp (f i) 12 0) (0, tP (famSt σ z f) j, tK (famSt σ z f) j, tC (famSt σ z f) j, tH (famSt σ z f) j) (1)).1)) := qs_6
      rw [qs_6, qr_6]
      refine g_pop (pc9 := 33) C rfl dX1_growTree_32 rfl ?_
      refine g_iinc (pc9 := 36) C rfl [(2, .int (nI (0 + 1))), (0, .ref (w.1 (41))), (1, .ref (w.1 (64 + 5 * j)))] 0 (nI (0 + 1)) dX1_growTree_33 rfl (nI_1 (0)) (by decide) rfl ?_
      refine g_goto C 6 dX1_growTree_36 rfl ?_
      refine g_sub [0, 1, 2] [(2, .int (nI (0 + 1))), (0, .ref (w.1 (41))), (1, .ref (w.1 (64 + 5 * j)))] rfl ?_
      exact ih 1 (by omega) (by omega)
    · rw [(hU v hv0 (by omega)).1]
      refine g_callVi (nn := 2) (rest := []) (pc9 := 32) C rfl (64 + 5 * j) [.int (nI (U v)), .int (kindUp (f v) 12 0)] rfl dX1_growTree_29 (m_X7_addChild l w (famSt σ z f) j hj v _ _ _ _ _ hv0 (by omega) (U v) (hU v hv0 (by omega)).2 _) gX1_growTree_X7_addNode (by omega) (ce_tree w (sN (sN (sI (sI (sI (sI (sN (sI σ (42) (f)) (41) 1 (nI (z))) (65 + 5 * j) ((tdU U (fun i => kindUp (f i) 12 0) (0, tP (famSt σ z f) j, tK (famSt σ z f) j, tC (famSt σ z f) j, tH (famSt σ z f) j) (v)).2.1)) (66 + 5 * j) ((tdU U (fun i => kindUp (f i) 12 0) (0, tP (famSt σ z f) j, tK (famSt σ z f) j, tC (famSt σ z f) j, tH (famSt σ z f) j) (v)).2.2.1)) (67 + 5 * j) ((tdU U (fun i => kindUp (f i) 12 0) (0, tP (famSt σ z f) j, tK (famSt σ z f) j, tC (famSt σ z f) j, tH (famSt σ z f) j) (v)).2.2.2.1)) (68 + 5 * j) ((tdU U (fun i => kindUp (f i) 12 0) (0, tP (famSt σ z f) j, tK (famSt σ z f) j, tC (famSt σ z f) j, tH (famSt σ z f) j) (v)).2.2.2.2)) (64 + 5 * j) 4 (nI (v))) (64 + 5 * j) 5 (nI ((tdU U (fun i => kindUp (f i) 12 0) (0, tP (famSt σ z f) j, tK (famSt σ z f) j, tC (famSt σ z f) j, tH (famSt σ z f) j) (v)).1))) (j)) rfl rfl rfl rfl rfl (by decide +kernel) ⟨by decide, by decide⟩ rfl (Nat.le_of_ble_eq_true rfl) ⟨by decide, by decide⟩ (fun r_7 σ_7 q_7 => ?_)
      obtain ⟨qs_7, qr_7⟩ := q_7
      replace qs_7 : σ_7 = sN (sN (sI (sI (sI (sI (sN (sI σ (42) (f)) (41) 1 (nI (z))) (65 + 5 * j) ((tdU U (fun i => kindUp (f i) 12 0) (0, tP (famSt σ z f) j, tK (famSt σ z f) j, tC (famSt σ z f) j, tH (famSt σ z f) j) (v + 1)).2.1)) (66 + 5 * j) ((tdU U (fun i => kindUp (f i) 12 0) (0, tP (famSt σ z f) j, tK (famSt σ z f) j, tC (famSt σ z f) j, tH (famSt σ z f) j) (v + 1)).2.2.1)) (67 + 5 * j) ((tdU U (fun i => kindUp (f i) 12 0) (0, tP (famSt σ z f) j, tK (famSt σ z f) j, tC (famSt σ z f) j, tH (famSt σ z f) j) (v + 1)).2.2.2.1)) (68 + 5 * j) ((tdU U (fun i => kindUp (f i) 12 0) (0, tP (famSt σ z f) j, tK (famSt σ z f) j, tC (famSt σ z f) j, tH (famSt σ z f) j) (v + 1)).2.2.2.2)) (64 + 5 * j) 4 (nI (v + 1))) (64 + 5 * j) 5 (nI ((tdU U (fun i => kindUp (f i) 12 0) (0, tP (famSt σ z f) j, tK (famSt σ z f) j, tC (famSt σ z f) j, tH (famSt σ z f) j) (v + 1)).1)) := qs_7.trans (tdS_A hv0)
      rw [qs_7, qr_7]
      refine g_pop (pc9 := 33) C rfl dX1_growTree_32 rfl ?_
      refine g_iinc (pc9 := 36) C rfl [(2, .int (nI (v + 1))), (0, .ref (w.1 (41))), (1, .ref (w.1 (64 + 5 * j)))] 0 (nI (v + 1)) dX1_growTree_33 rfl (nI_1 (v)) (by decide) rfl ?_
      refine g_goto C 6 dX1_growTree_36 rfl ?_
      refine g_sub [0, 1, 2] [(2, .int (nI (v + 1))), (0, .ref (w.1 (41))), (1, .ref (w.1 (64 + 5 * j)))] rfl ?_
      exact ih (v + 1) (by omega) (by omega)

/-! LineageBench: a family settles on a shelf; cut, build, perfect, clock, nearest -/
abbrev uF (F : Fam) (i : Nat) : Nat := (around F.2 (F.2 i) i).toNatClampNeg
/-- a family that a tree can grow of -/
def famG (F : Fam) : Prop := 0 < F.1 ∧ F.1 ≤ 47 ∧ ∀ i, 0 < i → i < F.1 → around F.2 (F.2 i) i = nI (uF F i) ∧ uF F i < i
abbrev grD (σ : St) (F : Fam) (j : Nat) : TD := tdU (uF F) (fun i => kindUp (F.2 i) 12 0) (0, tP (faS σ F) j, tK (faS σ F) j, tC (faS σ F) j, tH (faS σ F) j) F.1
def growS (σ : St) (F : Fam) (j : Nat) : St := sI (tdS (faS σ F) j F.1 (grD σ F j)) (67 + 5 * j) (gath (uF F) (F.1 - 1) (grD σ F j).2.2.2.1)
theorem growS_t {σ : St} {F : Fam} {j : Nat} : tS (growS σ F j) = tS σ := rfl
def sfS (σ : St) (F : Fam) (i : Nat) : St := sT (sT (growS σ F (tS σ 8)) i (tS σ 8)) 8 (tS σ i)
set_option maxRecDepth 100000 in
set_option maxHeartbeats 4000000 in
theorem m_makeEmpty (l : Launch) (w : Wd) (σ : St)  : MV l yX1_makeEmpty wsX1_makeEmpty (rmL 1) w [.ref (w.1 (41))] (σ) (fun σ9 => σ9 = faS σ (0, iA σ 42)) := by
  refine MV_of (cc := cX1_makeEmpty) (maxL := 1) (by decide) rfl (Nat.le_of_ble_eq_true rfl) ?_
  intro p e s m args below meth c A C hr hlk
  have C : Cx p s m args c w A cX1_makeEmpty RX1 1 wsX1_makeEmpty := C
  have hin_1 : ∀ u ∈ wsX10, u ∈ wsX1_makeEmpty := by decide +kernel
  have hl_15 : Cond.fieldLink RX1 15 "LineageBench$Family" "size" "I" ∈ wsX1_makeEmpty := by decide +kernel
  refine g_aload_n (pc9 := 1) C rfl 0 dX1_makeEmpty_0 rfl rfl ?_
  refine g_iconst (pc9 := 2) C rfl (nI (0)) dX1_makeEmpty_1 rfl ?_
  refine g_put (pc9 := 5) C rfl (41) 1 dX1_makeEmpty_2 (by decide) (ce_41 w (σ)) (rfl) hin_1 hl_15 tyX1 tyX1_ok nmX1 rfl (by decide) rfl rfl rfl (Nat.le_of_ble_eq_true rfl) ?_
  exact g_return C hr hlk dX1_makeEmpty_5 (by show _ = sN (sI σ 42 (iA σ 42)) 41 1 (nI 0); rw [sI_self])
set_option maxRecDepth 100000 in
set_option maxHeartbeats 4000000 in
theorem m_X10_settleFamily (l : Launch) (w : Wd) (σ : St) (F : Fam) (hF : famG F) (i : Nat) (hi : i < 8) (h8 : tS σ 8 < 9) : MV l yX10_settleFamily wsX10_settleFamily (rmL 3) w [.ref (w.1 (31)), .int (nI (i))] (sN (sI σ (42) ((F).2)) (41) 1 (nI ((F).1))) (fun σ9 => σ9 = sfS σ F i) := by
  refine MV_of (cc := cX10_settleFamily) (maxL := 2) (by decide) rfl (Nat.le_of_ble_eq_true rfl) ?_
  intro p e s m args below meth c A C hr hlk
  have C : Cx p s m args c w A cX10_settleFamily RX10 2 wsX10_settleFamily := C
  have hin_10 : ∀ u ∈ wsX100, u ∈ wsX10_settleFamily := by decide +kernel
  have hl_39 : Cond.fieldLink RX10 39 "LineageBench" "family" "LLineageBench$Family;" ∈ wsX10_settleFamily := by decide +kernel
  have hl_83 : Cond.fieldLink RX10 83 "LineageBench" "spare" "LLineageBench$Tree;" ∈ wsX10_settleFamily := by decide +kernel
  refine g_aload_n (pc9 := 1) C rfl 0 dX10_settleFamily_0 rfl rfl ?_
  refine g_get (v := .ref (w.1 (41))) (pc9 := 4) C rfl (31) 4 dX10_settleFamily_1 (by decide) (ce_31 w (sN (sI σ (42) ((F).2)) (41) 1 (nI ((F).1)))) hin_10 hl_39 rfl (by decide) rfl rfl ?_
  refine g_aload_n (pc9 := 5) C rfl 0 dX10_settleFamily_4 rfl rfl ?_
  refine g_get (v := .ref (w.1 (64 + 5 * (tS σ 8)))) (pc9 := 8) C rfl (31) 11 dX10_settleFamily_5 (by decide) (ce_31 w (sN (sI σ (42) ((F).2)) (41) 1 (nI ((F).1)))) hin_10 hl_83 rfl (by decide) rfl rfl ?_
  refine g_callVv (nn := 1) (rest := []) (pc9 := 11) C rfl (41) [.ref (w.1 (64 + 5 * (tS σ 8)))] rfl dX10_settleFamily_8 (m_X1_growTree l w σ F.1 F.2 (tS σ 8) h8 hF.1 hF.2.1 (uF F) hF.2.2) gX10_settleFamily_X1_growTree (by decide) (ce_41 w (sN (sI σ (42) ((F).2)) (41) 1 (nI ((F).1)))) rfl rfl rfl rfl rfl (by decide +kernel) ⟨by decide, by decide⟩ rfl (Nat.le_of_ble_eq_true rfl) ⟨by decide, by decide⟩ (fun σ_1 q_1 => ?_)
  replace q_1 : σ_1 = (growS σ F (tS σ 8)) := q_1
  rw [q_1]
  clear q_1
  refine g_aload_n (pc9 := 12) C rfl 0 dX10_settleFamily_11 rfl rfl ?_
  refine g_iload_n (pc9 := 13) C rfl 1 dX10_settleFamily_12 rfl rfl ?_
  refine g_callVv (nn := 1) (rest := []) (pc9 := 16) C rfl (31) [.int (nI (i))] rfl dX10_settleFamily_13 (m_X10_settle l w (growS σ F (tS σ 8)) i hi h8) gX10_settleFamily_X10_settle (by decide) (ce_31 w ((growS σ F (tS σ 8)))) rfl rfl rfl rfl rfl (by decide +kernel) ⟨by decide, by decide⟩ rfl (Nat.le_of_ble_eq_true rfl) ⟨by decide, by decide⟩ (fun σ_2 q_2 => ?_)
  replace q_2 : σ_2 = (sfS σ F i) := q_2
  rw [q_2]
  clear q_2
  exact g_return C hr hlk dX10_settleFamily_16 rfl
abbrev aK (σ : St) (j : Nat) : Int32 := if tN σ j = 0 then 0 else tC σ j 0
noncomputable abbrev cutF (σ : St) (j : Nat) (y : Int32) (v : Nat) : Fam := famUp (fun v => tC σ j v &&& y) 0 (iA σ 42) v
def cuX (σ : St) (x y u : Int32) (E : String) : Prop := (E = xIOB ∧ (¬ okI 8 x ∨ ¬ okI 8 u)) ∨ (E = xISE ∧ okI 8 u ∧ noP σ x) ∨ (E = xIAE ∧ okI 8 u ∧ ∃ i, i < 8 ∧ x = nI i ∧ okP σ i ∧ aK σ (tS σ i) &&& y = 0)
theorem sfS_tk {σ : St} {F : Fam} {k : Nat} (hk : k < 8) : tS (sfS σ F k) k = tS σ 8 := by
  unfold sfS
  rw [tS_n (by omega), tS_s]
theorem sfS_t9 {σ : St} {F : Fam} {k : Nat} (hT : tOk σ) (hk : k < 8) : tS (sfS σ F k) k < 9 := by
  rw [sfS_tk hk]; exact hT.1 8 (by decide)
set_option maxRecDepth 100000 in
set_option maxHeartbeats 4000000 in
theorem m_X10_cut (l : Launch) (hst : l.stackTraces = false) (w : Wd) (sA : Nat → Nat) (σ : St) (hT : tOk σ) (x y u : Int32) (hG : ∀ i, i < 8 → okP σ i → ¬ aK σ (tS σ i) &&& y = 0 → famG (cutF σ (tS σ i) y (nn σ (tS σ i)))) : MXI l yX10_cut wsX10_cut 8 5 w sA [.ref (w.1 (31)), .int (x), .int (y), .int (u)] (σ) (fun r σ9 => ∃ i k, i < 8 ∧ k < 8 ∧ x = nI i ∧ u = nI k ∧ okP σ i ∧ ¬ aK σ (tS σ i) &&& y = 0 ∧ σ9 = sfS σ (cutF σ (tS σ i) y (nn σ (tS σ i))) k ∧ r = tL σ9 (tS σ9 k)) (fun E σ9 => σ9 = σ ∧ cuX σ x y u E) := by
  refine MXI_of hst (cc := cX10_cut) (maxL := 6) (ret := .int) (by decide) rfl (Nat.le_of_ble_eq_true rfl) ?_
  intro p e s m args below meth c A X hr hlk
  have X : CX p l s m args c w sA A cX10_cut RX10 6 wsX10_cut := X
  have C := X.1
  have hin_7 : ∀ u ∈ wsX70, u ∈ wsX10_cut := by decide +kernel
  have hin_10 : ∀ u ∈ wsX100, u ∈ wsX10_cut := by decide +kernel
  have hl_32 : Cond.fieldLink RX10 32 "LineageBench" "trees" "[LLineageBench$Tree;" ∈ wsX10_cut := by decide +kernel
  have hl_39 : Cond.fieldLink RX10 39 "LineageBench" "family" "LLineageBench$Family;" ∈ wsX10_cut := by decide +kernel
  have hl_123 : Cond.fieldLink RX10 123 "LineageBench$Tree" "leaves" "I" ∈ wsX10_cut := by decide +kernel
  have hl_151 : Cond.fieldLink RX10 151 "LineageBench$Tree" "nodes" "I" ∈ wsX10_cut := by decide +kernel
  have hl_207 : Cond.fieldLink RX10 207 "LineageBench$Tree" "cluster" "[I" ∈ wsX10_cut := by decide +kernel
  refine g_iload_n (pc9 := 1) C rfl 1 dX10_cut_0 rfl rfl ?_
  refine x_callSv (rest := []) X hlk (pc9 := 4) rfl [.int (x)] (nn := 1) rfl dX10_cut_1 (m_X10_needShelf l hst w sA σ x) gX10_cut_X10_needShelf rfl (by decide +kernel) ⟨by decide, by decide⟩ rfl (Nat.le_of_ble_eq_true rfl) ⟨by decide, by decide⟩ ⟨by decide, by decide⟩ (fun E σ9 h => ⟨h.1, Or.inl ⟨h.2.1, Or.inl h.2.2⟩⟩) (fun σ_1 q_1 => ?_)
  obtain ⟨qs_1, i, hb_i, hx_1⟩ := q_1
  rw [qs_1]
  clear qs_1
  subst hx_1
  refine g_iload_n (pc9 := 5) C rfl 3 dX10_cut_4 rfl rfl ?_
  refine x_callSv (rest := []) X hlk (pc9 := 8) rfl [.int (u)] (nn := 1) rfl dX10_cut_5 (m_X10_needShelf l hst w sA σ u) gX10_cut_X10_needShelf rfl (by decide +kernel) ⟨by decide, by decide⟩ rfl (Nat.le_of_ble_eq_true rfl) ⟨by decide, by decide⟩ ⟨by decide, by decide⟩ (fun E σ9 h => ⟨h.1, Or.inl ⟨h.2.1, Or.inr h.2.2⟩⟩) (fun σ_2 q_2 => ?_)
  obtain ⟨qs_2, k, hb_k, hx_2⟩ := q_2
  rw [qs_2]
  clear qs_2
  subst hx_2
  refine g_aload_n (pc9 := 9) C rfl 0 dX10_cut_8 rfl rfl ?_
  refine g_iload_n (pc9 := 10) C rfl 1 dX10_cut_9 rfl rfl ?_
  refine x_callVr (rest := []) X hlk (pc9 := 13) rfl (31) [.int (nI (i))] (nn := 1) rfl dX10_cut_10 (m_X10_plainTreeOn l hst w sA σ i hb_i (hT.s hb_i)) gX10_cut_X10_plainTreeOn (by decide) (ce_31 w (σ)) rfl rfl rfl (by decide +kernel) ⟨by decide, by decide⟩ rfl (Nat.le_of_ble_eq_true rfl) ⟨by decide, by decide⟩ ⟨by decide, by decide⟩ (fun E σ9 h => ⟨h.1, Or.inr (Or.inl ⟨h.2.1, ⟨k, hb_k, rfl⟩, ⟨i, hb_i, rfl, h.2.2⟩⟩)⟩) (fun r_3 σ_3 q_3 => ?_)
  obtain ⟨qs_3, qr_3, hnz_i⟩ := q_3
  replace qs_3 : σ_3 = σ := qs_3
  replace qr_3 : r_3 = 64 + 5 * tS σ i := qr_3
  rw [qs_3, qr_3]
  clear qs_3 qr_3
  have ht_i := hT.s hb_i
  refine g_astore (pc9 := 15) C rfl [(4, .ref (w.1 (64 + 5 * (tS σ i)))), (0, .ref (w.1 (31))), (1, .int (nI (i))), (2, .int (y)), (3, .int (nI (k)))] dX10_cut_13 (by decide) rfl ?_
  refine g_aload (pc9 := 17) C rfl 0 dX10_cut_15 rfl ?_
  refine g_callVi (nn := 0) (rest := []) (pc9 := 20) C rfl (64 + 5 * (tS σ i)) [] rfl dX10_cut_17 (m_X7_allKinds l w σ (tS σ i) ht_i) gX10_cut_X7_allKinds (by omega) (ce_tree w (σ) ((tS σ i))) rfl rfl rfl rfl rfl (by decide +kernel) ⟨by decide, by decide⟩ rfl (Nat.le_of_ble_eq_true rfl) ⟨by decide, by decide⟩ (fun r_4 σ_4 q_4 => ?_)
  obtain ⟨qs_4, qr_4⟩ := q_4
  rw [qs_4, qr_4]
  clear qs_4 qr_4
  refine g_iload_n (pc9 := 21) C rfl 3 dX10_cut_20 rfl rfl ?_
  refine g_iand (pc9 := 22) C rfl dX10_cut_21 ?_
  refine g_if_ne (pc9 := 25) C rfl 35 dX10_cut_22 rfl (fun c_5 => ?_) (fun c_5 => ?_)
  · have hz : ¬ aK σ (tS σ i) &&& y = 0 := c_5
    refine g_aload_n (pc9 := 36) C rfl 1 dX10_cut_35 rfl rfl ?_
    refine g_get (v := .ref (w.1 (41))) (pc9 := 39) C rfl (31) 4 dX10_cut_36 (by decide) (ce_31 w (σ)) hin_10 hl_39 rfl (by decide) rfl rfl ?_
    refine g_callVv (nn := 0) (rest := []) (pc9 := 42) C rfl (41) [] rfl dX10_cut_39 (m_makeEmpty l w σ) gX10_cut_X1_makeEmpty (by decide) (ce_41 w (σ)) rfl rfl rfl rfl rfl (by decide +kernel) ⟨by decide, by decide⟩ rfl (Nat.le_of_ble_eq_true rfl) ⟨by decide, by decide⟩ (fun σ_6 q_6 => ?_)
    replace q_6 : σ_6 = sN (sI σ (42) ((cutF σ (tS σ i) y 0).2)) (41) 1 (nI ((cutF σ (tS σ i) y 0).1)) := q_6
    rw [q_6]
    clear q_6
    refine g_iconst (pc9 := 43) C rfl (nI (0)) dX10_cut_42 rfl ?_
    refine g_istore (pc9 := 45) C rfl [(5, .int (nI (0))), (4, .ref (w.1 (64 + 5 * (tS σ i)))), (0, .ref (w.1 (31))), (1, .int (nI (i))), (2, .int (y)), (3, .int (nI (k)))] dX10_cut_43 (by decide) rfl ?_
    refine g_sub [0, 2, 3, 4, 5, 1] [(5, .int (nI (0))), (0, .ref (w.1 (31))), (1, .int (nI (i))), (2, .int (y)), (3, .int (nI (k))), (4, .ref (w.1 (64 + 5 * (tS σ i))))] rfl ?_
    have h47 := (hT.2 (tS σ i) ht_i).2.1
    refine g_lp1 (α := Nat) (fun v => v ≤ nn σ (tS σ i)) (fun v => nn σ (tS σ i) - v) (fun v => G p l e _ s m args below meth c _ w A _ (sN (sI σ (42) ((cutF σ (tS σ i) y v).2)) (41) 1 (nI ((cutF σ (tS σ i) y v).1))) _ _ 45 [(5, .int (nI (v))), (0, .ref (w.1 (31))), (1, .int (nI (i))), (2, .int (y)), (3, .int (nI (k))), (4, .ref (w.1 (64 + 5 * (tS σ i))))] []) (fun v hI ih => ?_) (0) (Nat.zero_le _)
    obtain hv := hI
    refine g_iload (pc9 := 47) C rfl 0 dX10_cut_45 rfl ?_
    refine g_aload (pc9 := 49) C rfl 5 dX10_cut_47 rfl ?_
    refine g_get (v := .int (nI (nn σ (tS σ i)))) (pc9 := 52) C rfl (64 + 5 * (tS σ i)) 4 dX10_cut_49 (by omega) (ce_tree w (sN (sI σ (42) ((cutF σ (tS σ i) y v).2)) (41) 1 (nI ((cutF σ (tS σ i) y v).1))) ((tS σ i))) hin_7 hl_151 rfl (by decide) rfl (congrArg (fun z => some (Value.int z)) (((nF_n (by omega)).trans (nF_I)).trans (hT.2 (tS σ i) ht_i).1)) ?_
    refine g_icmp_ge (pc9 := 55) C rfl 78 dX10_cut_52 rfl (fun c_7 => ?_) (fun c_7 => ?_)
    · replace c_7 := (nI_leI (by omega) (by omega)).mp c_7
      have hvn : v = nn σ (tS σ i) := by omega
      refine g_aload_n (pc9 := 79) C rfl 1 dX10_cut_78 rfl rfl ?_
      refine g_iload_n (pc9 := 80) C rfl 4 dX10_cut_79 rfl rfl ?_
      refine g_callVv (nn := 1) (rest := []) (pc9 := 83) C rfl (31) [.int (nI (k))] rfl dX10_cut_80 (m_X10_settleFamily l w σ (cutF σ (tS σ i) y v) (by rw [hvn]; exact hG i hb_i hnz_i hz) k hb_k (hT.1 8 (by decide))) gX10_cut_X10_settleFamily (by decide) (ce_31 w (sN (sI σ (42) ((cutF σ (tS σ i) y v).2)) (41) 1 (nI ((cutF σ (tS σ i) y v).1)))) rfl rfl rfl rfl rfl (by decide +kernel) ⟨by decide, by decide⟩ rfl (Nat.le_of_ble_eq_true rfl) ⟨by decide, by decide⟩ (fun σ_8 q_8 => ?_)
      replace q_8 : σ_8 = (sfS σ (cutF σ (tS σ i) y v) k) := q_8
      rw [q_8]
      clear q_8
      refine g_aload_n (pc9 := 84) C rfl 1 dX10_cut_83 rfl rfl ?_
      refine g_get (v := .ref (w.1 (40))) (pc9 := 87) C rfl (31) 3 dX10_cut_84 (by decide) (ce_31 w ((sfS σ (cutF σ (tS σ i) y v) k))) hin_10 hl_32 rfl (by decide) rfl rfl ?_
      refine g_iload_n (pc9 := 88) C rfl 4 dX10_cut_87 rfl rfl ?_
      refine g_aald (pc9 := 89) C rfl (k) dX10_cut_88 rfl (by omega) ?_
      have h9 : tS (sfS σ (cutF σ (tS σ i) y v) k) k < 9 := sfS_t9 hT hb_k
      refine g_get (v := .int (nF (sfS σ (cutF σ (tS σ i) y v) k) (64 + 5 * (tS ((sfS σ (cutF σ (tS σ i) y v) k)) (k))) 5)) (pc9 := 92) C rfl (64 + 5 * (tS ((sfS σ (cutF σ (tS σ i) y v) k)) (k))) 5 dX10_cut_89 (by omega) (ce_tree w ((sfS σ (cutF σ (tS σ i) y v) k)) ((tS ((sfS σ (cutF σ (tS σ i) y v) k)) (k)))) hin_7 hl_123 rfl (by decide) rfl rfl ?_
      exact g_xi (by decide) (by decide) (g_ireturn C hr hlk dX10_cut_92 ⟨i, k, hb_i, hb_k, rfl, rfl, hnz_i, hz, by rw [hvn], rfl⟩)
    · replace c_7 := (not_congr (nI_leI (by omega) (by omega))).mp c_7
      refine g_aload_n (pc9 := 56) C rfl 1 dX10_cut_55 rfl rfl ?_
      refine g_get (v := .ref (w.1 (41))) (pc9 := 59) C rfl (31) 4 dX10_cut_56 (by decide) (ce_31 w (sN (sI σ (42) ((cutF σ (tS σ i) y v).2)) (41) 1 (nI ((cutF σ (tS σ i) y v).1)))) hin_10 hl_39 rfl (by decide) rfl rfl ?_
      refine g_aload (pc9 := 61) C rfl 5 dX10_cut_59 rfl ?_
      refine g_get (v := .ref (w.1 (67 + 5 * (tS σ i)))) (pc9 := 64) C rfl (64 + 5 * (tS σ i)) 2 dX10_cut_61 (by omega) (ce_tree w (sN (sI σ (42) ((cutF σ (tS σ i) y v).2)) (41) 1 (nI ((cutF σ (tS σ i) y v).1))) ((tS σ i))) hin_7 hl_207 rfl (by decide) rfl rfl ?_
      refine g_iload (pc9 := 66) C rfl 0 dX10_cut_64 rfl ?_
      refine g_iald (x := (iA σ (67 + 5 * (tS σ i))) (v)) (pc9 := 67) C rfl (67 + 5 * (tS σ i)) (v) dX10_cut_66 (by omega) (ce_cluster w (sN (sI σ (42) ((cutF σ (tS σ i) y v).2)) (41) 1 (nI ((cutF σ (tS σ i) y v).1))) ((tS σ i))) rfl (by omega) (by decide) (congrFun ((iA_N).trans (iA_n (by omega))) _) ?_
      refine g_iload_n (pc9 := 68) C rfl 3 dX10_cut_67 rfl rfl ?_
      refine g_iand (pc9 := 69) C rfl dX10_cut_68 ?_
      refine g_callVv (nn := 1) (rest := []) (pc9 := 72) C rfl (41) [.int (((iA σ (67 + 5 * (tS σ i))) (v)) &&& (y))] rfl dX10_cut_69 (m_X1_addCluster l w σ _ _ (famUp_le (Nat.zero_le _) v) (((iA σ (67 + 5 * (tS σ i))) (v)) &&& (y))) gX10_cut_X1_addCluster (by decide) (ce_41 w (sN (sI σ (42) ((cutF σ (tS σ i) y v).2)) (41) 1 (nI ((cutF σ (tS σ i) y v).1)))) rfl rfl rfl rfl rfl (by decide +kernel) ⟨by decide, by decide⟩ rfl (Nat.le_of_ble_eq_true rfl) ⟨by decide, by decide⟩ (fun σ_9 q_9 => ?_)
      replace q_9 : σ_9 = sN (sI σ (42) ((cutF σ (tS σ i) y (v + 1)).2)) (41) 1 (nI ((cutF σ (tS σ i) y (v + 1)).1)) := q_9
      rw [q_9]
      clear q_9
      refine g_iinc (pc9 := 75) C rfl [(5, .int (nI (v + 1))), (0, .ref (w.1 (31))), (1, .int (nI (i))), (2, .int (y)), (3, .int (nI (k))), (4, .ref (w.1 (64 + 5 * (tS σ i))))] 0 (nI (v + 1)) dX10_cut_72 rfl (nI_1 (v)) (by decide) rfl ?_
      refine g_goto C 45 dX10_cut_75 rfl ?_
      exact ih (v + 1) (by omega) (by omega)
  · have hz : aK σ (tS σ i) &&& y = 0 := c_5
    exact g_throw X hlk (cls := "java/lang/IllegalArgumentException") (text := "the tree has none of these kinds") dX10_cut_25 dX10_cut_28 dX10_cut_29 dX10_cut_31 dX10_cut_34 (by decide) (by decide +kernel) (by decide +kernel) (by decide +kernel) (by decide +kernel) (by decide +kernel) (by decide +kernel) (by decide) (Nat.le_of_ble_eq_true rfl) (by decide) (by decide) (by decide) (by decide) ⟨rfl, Or.inr (Or.inr ⟨rfl, ⟨k, hb_k, rfl⟩, i, hb_i, rfl, hnz_i, hz⟩)⟩
noncomputable abbrev buJ (σ : St) (z : Nat) (x : Int32) : Int32 × Fam := jn (pwT (iA σ 44) (iA σ 45) z) 13 x (0, iA σ 42)
def seX (x u : Int32) (E : String) : Prop := (E = xIOB ∧ ¬ okI 8 u) ∨ (E = xIAE ∧ okI 8 u ∧ ¬ okR 1 4095 x)
set_option maxRecDepth 100000 in
set_option maxHeartbeats 4000000 in
theorem m_X10_build (l : Launch) (hst : l.stackTraces = false) (w : Wd) (sA : Nat → Nat) (σ : St) (h8 : tS σ 8 < 9) (z : Nat) (hz : nF σ 43 2 = nI z) (h80 : z ≤ 80) (x u : Int32) (hG : okR 1 4095 x → (buJ σ z x).1 = 0 → famG (buJ σ z x).2) : MXI l yX10_build wsX10_build 18 2 w sA [.ref (w.1 (31)), .int (x), .int (u)] (σ) (fun r σ9 => ∃ k, k < 8 ∧ u = nI k ∧ okR 1 4095 x ∧ r = (buJ σ z x).1 ∧ ((buJ σ z x).1 = 0 → σ9 = sfS σ (buJ σ z x).2 k) ∧ (¬ (buJ σ z x).1 = 0 → σ9 = faS σ (buJ σ z x).2)) (fun E σ9 => σ9 = σ ∧ seX x u E) := by
  refine MXI_of hst (cc := cX10_build) (maxL := 4) (ret := .int) (by decide) rfl (Nat.le_of_ble_eq_true rfl) ?_
  intro p e s m args below meth c A X hr hlk
  have X : CX p l s m args c w sA A cX10_build RX10 4 wsX10_build := X
  have C := X.1
  have hin_10 : ∀ u ∈ wsX100, u ∈ wsX10_build := by decide +kernel
  have hl_39 : Cond.fieldLink RX10 39 "LineageBench" "family" "LLineageBench$Family;" ∈ wsX10_build := by decide +kernel
  have hl_46 : Cond.fieldLink RX10 46 "LineageBench" "triples" "LLineageBench$Triples;" ∈ wsX10_build := by decide +kernel
  refine g_iload_n (pc9 := 1) C rfl 2 dX10_build_0 rfl rfl ?_
  refine x_callSv (rest := []) X hlk (pc9 := 4) rfl [.int (u)] (nn := 1) rfl dX10_build_1 (m_X10_needShelf l hst w sA σ u) gX10_build_X10_needShelf rfl (by decide +kernel) ⟨by decide, by decide⟩ rfl (Nat.le_of_ble_eq_true rfl) ⟨by decide, by decide⟩ ⟨by decide, by decide⟩ (fun E σ9 h => ⟨h.1, Or.inl ⟨h.2.1, h.2.2⟩⟩) (fun σ_1 q_1 => ?_)
  obtain ⟨qs_1, k, hb_k, hx_1⟩ := q_1
  rw [qs_1]
  clear qs_1
  subst hx_1
  refine g_iload_n (pc9 := 5) C rfl 1 dX10_build_4 rfl rfl ?_
  refine x_callSv (rest := []) X hlk (pc9 := 8) rfl [.int (x)] (nn := 1) rfl dX10_build_5 (m_X10_needKindSet l hst w sA σ x) gX10_build_X10_needKindSet rfl (by decide +kernel) ⟨by decide, by decide⟩ rfl (Nat.le_of_ble_eq_true rfl) ⟨by decide, by decide⟩ ⟨by decide, by decide⟩ (fun E σ9 h => ⟨h.1, Or.inr ⟨h.2.1, ⟨k, hb_k, rfl⟩, h.2.2⟩⟩) (fun σ_2 q_2 => ?_)
  obtain ⟨qs_2, hset⟩ := q_2
  rw [qs_2]
  clear qs_2
  refine g_aload_n (pc9 := 9) C rfl 0 dX10_build_8 rfl rfl ?_
  refine g_get (v := .ref (w.1 (41))) (pc9 := 12) C rfl (31) 4 dX10_build_9 (by decide) (ce_31 w (σ)) hin_10 hl_39 rfl (by decide) rfl rfl ?_
  refine g_callVv (nn := 0) (rest := []) (pc9 := 15) C rfl (41) [] rfl dX10_build_12 (m_makeEmpty l w σ) gX10_build_X1_makeEmpty (by decide) (ce_41 w (σ)) rfl rfl rfl rfl rfl (by decide +kernel) ⟨by decide, by decide⟩ rfl (Nat.le_of_ble_eq_true rfl) ⟨by decide, by decide⟩ (fun σ_3 q_3 => ?_)
  replace q_3 : σ_3 = sN (sI σ (42) ((((0, iA σ 42) : Fam)).2)) (41) 1 (nI ((((0, iA σ 42) : Fam)).1)) := q_3
  rw [q_3]
  clear q_3
  refine g_aload_n (pc9 := 16) C rfl 0 dX10_build_15 rfl rfl ?_
  refine g_get (v := .ref (w.1 (43))) (pc9 := 19) C rfl (31) 5 dX10_build_16 (by decide) (ce_31 w (sN (sI σ (42) ((((0, iA σ 42) : Fam)).2)) (41) 1 (nI ((((0, iA σ 42) : Fam)).1)))) hin_10 hl_46 rfl (by decide) rfl rfl ?_
  refine g_iload_n (pc9 := 20) C rfl 1 dX10_build_19 rfl rfl ?_
  refine g_aload_n (pc9 := 21) C rfl 0 dX10_build_20 rfl rfl ?_
  refine g_get (v := .ref (w.1 (41))) (pc9 := 24) C rfl (31) 4 dX10_build_21 (by decide) (ce_31 w (sN (sI σ (42) ((((0, iA σ 42) : Fam)).2)) (41) 1 (nI ((((0, iA σ 42) : Fam)).1)))) hin_10 hl_39 rfl (by decide) rfl rfl ?_
  refine g_callVi (nn := 2) (rest := []) (pc9 := 27) C rfl (43) [.int (x), .ref (w.1 (41))] rfl dX10_build_24 (m_X8_joinAll l w σ z hz h80 (0, iA σ 42) (Nat.zero_le _) x) gX10_build_X8_joinAll (by decide) (ce_43 w (sN (sI σ (42) ((((0, iA σ 42) : Fam)).2)) (41) 1 (nI ((((0, iA σ 42) : Fam)).1)))) rfl rfl rfl rfl rfl (by decide +kernel) ⟨by decide, by decide⟩ rfl (Nat.le_of_ble_eq_true rfl) ⟨by decide, by decide⟩ (fun r_4 σ_4 q_4 => ?_)
  obtain ⟨qs_4, qr_4⟩ := q_4
  replace qs_4 : σ_4 = sN (sI σ (42) (((buJ σ z x).2).2)) (41) 1 (nI (((buJ σ z x).2).1)) := qs_4
  replace qr_4 : r_4 = (buJ σ z x).1 := qr_4
  rw [qs_4, qr_4]
  clear qs_4 qr_4
  refine g_istore_n (pc9 := 28) C rfl [(3, .int ((buJ σ z x).1)), (0, .ref (w.1 (31))), (1, .int (x)), (2, .int (nI (k)))] dX10_build_27 rfl (by decide) rfl ?_
  refine g_iload_n (pc9 := 29) C rfl 0 dX10_build_28 rfl rfl ?_
  refine g_if_ne (pc9 := 32) C rfl 37 dX10_build_29 rfl (fun c_5 => ?_) (fun c_5 => ?_)
  · have hc : ¬ (buJ σ z x).1 = 0 := c_5
    refine g_iload_n (pc9 := 38) C rfl 0 dX10_build_37 rfl rfl ?_
    exact g_xi (by decide) (by decide) (g_ireturn C hr hlk dX10_build_38 ⟨k, hb_k, rfl, hset, rfl, by first | exact ⟨fun h => absurd h hc, fun _ => rfl⟩ | exact ⟨fun _ => rfl, fun h => absurd hc h⟩⟩)
  · have hc : (buJ σ z x).1 = 0 := c_5
    refine g_aload_n (pc9 := 33) C rfl 1 dX10_build_32 rfl rfl ?_
    refine g_iload_n (pc9 := 34) C rfl 3 dX10_build_33 rfl rfl ?_
    refine g_callVv (nn := 1) (rest := []) (pc9 := 37) C rfl (31) [.int (nI (k))] rfl dX10_build_34 (m_X10_settleFamily l w σ (buJ σ z x).2 (hG hset hc) k hb_k h8) gX10_build_X10_settleFamily (by decide) (ce_31 w (sN (sI σ (42) (((buJ σ z x).2).2)) (41) 1 (nI (((buJ σ z x).2).1)))) rfl rfl rfl rfl rfl (by decide +kernel) ⟨by decide, by decide⟩ rfl (Nat.le_of_ble_eq_true rfl) ⟨by decide, by decide⟩ (fun σ_6 q_6 => ?_)
    replace q_6 : σ_6 = (sfS σ (buJ σ z x).2 k) := q_6
    rw [q_6]
    clear q_6
    refine g_iload_n (pc9 := 38) C rfl 0 dX10_build_37 rfl rfl ?_
    exact g_xi (by decide) (by decide) (g_ireturn C hr hlk dX10_build_38 ⟨k, hb_k, rfl, hset, rfl, by first | exact ⟨fun h => absurd h hc, fun _ => rfl⟩ | exact ⟨fun _ => rfl, fun h => absurd hc h⟩⟩)
noncomputable abbrev pf1 (σ : St) (x : Int32) : Fam := eachF x (0, iA σ 42)
noncomputable abbrev pf2 (σ : St) (x : Int32) : Fam := (famZ (pf1 σ x).1 (pf1 σ x).2 x, famF (pf1 σ x).1 (pf1 σ x).2 x)
noncomputable abbrev pfF (σ : St) (x : Int32) (z : Nat) : Fam := famUp (fun k => iA σ 47 k &&& x) (pf2 σ x).1 (pf2 σ x).2 z
theorem pf1_le {σ : St} {x : Int32} : (pf1 σ x).1 ≤ 47 := famUp_le (Nat.zero_le _) 12
theorem pf2_le {σ : St} {x : Int32} : (pf2 σ x).1 ≤ 47 := famZ_le pf1_le
set_option maxRecDepth 100000 in
set_option maxHeartbeats 4000000 in
theorem m_X10_perfect (l : Launch) (hst : l.stackTraces = false) (w : Wd) (sA : Nat → Nat) (σ : St) (h8 : tS σ 8 < 9) (z : Nat) (hz : nF σ 46 1 = nI z) (h16 : z ≤ 16) (x u : Int32) (hG : okR 1 4095 x → qrlR (iA σ 47) x z 0 → famG (pfF σ x z)) : MXI l yX10_perfect wsX10_perfect 7 2 w sA [.ref (w.1 (31)), .int (x), .int (u)] (σ) (fun r σ9 => ∃ k, k < 8 ∧ u = nI k ∧ okR 1 4095 x ∧ qrlR (iA σ 47) x z r ∧ ((¬ r = 0 ∧ σ9 = σ) ∨ (r = 0 ∧ σ9 = sfS σ (pfF σ x z) k))) (fun E σ9 => σ9 = σ ∧ seX x u E) := by
  refine MXI_of hst (cc := cX10_perfect) (maxL := 4) (ret := .int) (by decide) rfl (Nat.le_of_ble_eq_true rfl) ?_
  intro p e s m args below meth c A X hr hlk
  have X : CX p l s m args c w sA A cX10_perfect RX10 4 wsX10_perfect := X
  have C := X.1
  have hin_10 : ∀ u ∈ wsX100, u ∈ wsX10_perfect := by decide +kernel
  have hl_39 : Cond.fieldLink RX10 39 "LineageBench" "family" "LLineageBench$Family;" ∈ wsX10_perfect := by decide +kernel
  have hl_53 : Cond.fieldLink RX10 53 "LineageBench" "signs" "LLineageBench$Signs;" ∈ wsX10_perfect := by decide +kernel
  refine g_iload_n (pc9 := 1) C rfl 2 dX10_perfect_0 rfl rfl ?_
  refine x_callSv (rest := []) X hlk (pc9 := 4) rfl [.int (u)] (nn := 1) rfl dX10_perfect_1 (m_X10_needShelf l hst w sA σ u) gX10_perfect_X10_needShelf rfl (by decide +kernel) ⟨by decide, by decide⟩ rfl (Nat.le_of_ble_eq_true rfl) ⟨by decide, by decide⟩ ⟨by decide, by decide⟩ (fun E σ9 h => ⟨h.1, Or.inl ⟨h.2.1, h.2.2⟩⟩) (fun σ_1 q_1 => ?_)
  obtain ⟨qs_1, k, hb_k, hx_1⟩ := q_1
  rw [qs_1]
  clear qs_1
  subst hx_1
  refine g_iload_n (pc9 := 5) C rfl 1 dX10_perfect_4 rfl rfl ?_
  refine x_callSv (rest := []) X hlk (pc9 := 8) rfl [.int (x)] (nn := 1) rfl dX10_perfect_5 (m_X10_needKindSet l hst w sA σ x) gX10_perfect_X10_needKindSet rfl (by decide +kernel) ⟨by decide, by decide⟩ rfl (Nat.le_of_ble_eq_true rfl) ⟨by decide, by decide⟩ ⟨by decide, by decide⟩ (fun E σ9 h => ⟨h.1, Or.inr ⟨h.2.1, ⟨k, hb_k, rfl⟩, h.2.2⟩⟩) (fun σ_2 q_2 => ?_)
  obtain ⟨qs_2, hset⟩ := q_2
  rw [qs_2]
  clear qs_2
  refine g_aload_n (pc9 := 9) C rfl 0 dX10_perfect_8 rfl rfl ?_
  refine g_get (v := .ref (w.1 (46))) (pc9 := 12) C rfl (31) 6 dX10_perfect_9 (by decide) (ce_31 w (σ)) hin_10 hl_53 rfl (by decide) rfl rfl ?_
  refine g_iload_n (pc9 := 13) C rfl 1 dX10_perfect_12 rfl rfl ?_
  refine g_callVi (nn := 1) (rest := []) (pc9 := 16) C rfl (46) [.int (x)] rfl dX10_perfect_13 (m_X4_firstQuarrel l w σ z hz h16 x) gX10_perfect_X4_firstQuarrel (by decide) (ce_46 w (σ)) rfl rfl rfl rfl rfl (by decide +kernel) ⟨by decide, by decide⟩ rfl (Nat.le_of_ble_eq_true rfl) ⟨by decide, by decide⟩ (fun r_3 σ_3 q_3 => ?_)
  obtain ⟨qs_3, hqr⟩ := q_3
  rw [qs_3]
  clear qs_3
  refine g_istore_n (pc9 := 17) C rfl [(3, .int (r_3)), (0, .ref (w.1 (31))), (1, .int (x)), (2, .int (nI (k)))] dX10_perfect_16 rfl (by decide) rfl ?_
  refine g_iload_n (pc9 := 18) C rfl 0 dX10_perfect_17 rfl rfl ?_
  refine g_if_eq (pc9 := 21) C rfl 23 dX10_perfect_18 rfl (fun c_4 => ?_) (fun c_4 => ?_)
  · have hc := c_4
    refine g_aload_n (pc9 := 24) C rfl 1 dX10_perfect_23 rfl rfl ?_
    refine g_get (v := .ref (w.1 (41))) (pc9 := 27) C rfl (31) 4 dX10_perfect_24 (by decide) (ce_31 w (σ)) hin_10 hl_39 rfl (by decide) rfl rfl ?_
    refine g_callVv (nn := 0) (rest := []) (pc9 := 30) C rfl (41) [] rfl dX10_perfect_27 (m_makeEmpty l w σ) gX10_perfect_X1_makeEmpty (by decide) (ce_41 w (σ)) rfl rfl rfl rfl rfl (by decide +kernel) ⟨by decide, by decide⟩ rfl (Nat.le_of_ble_eq_true rfl) ⟨by decide, by decide⟩ (fun σ_5 q_5 => ?_)
    replace q_5 : σ_5 = sN (sI σ (42) ((((0, iA σ 42) : Fam)).2)) (41) 1 (nI ((((0, iA σ 42) : Fam)).1)) := q_5
    rw [q_5]
    clear q_5
    refine g_aload_n (pc9 := 31) C rfl 1 dX10_perfect_30 rfl rfl ?_
    refine g_get (v := .ref (w.1 (41))) (pc9 := 34) C rfl (31) 4 dX10_perfect_31 (by decide) (ce_31 w (sN (sI σ (42) ((((0, iA σ 42) : Fam)).2)) (41) 1 (nI ((((0, iA σ 42) : Fam)).1)))) hin_10 hl_39 rfl (by decide) rfl rfl ?_
    refine g_iload_n (pc9 := 35) C rfl 2 dX10_perfect_34 rfl rfl ?_
    refine g_callVv (nn := 1) (rest := []) (pc9 := 38) C rfl (41) [.int (x)] rfl dX10_perfect_35 (m_X1_addEachKind l w σ 0 (iA σ 42) (Nat.zero_le _) x) gX10_perfect_X1_addEachKind (by decide) (ce_41 w (sN (sI σ (42) ((((0, iA σ 42) : Fam)).2)) (41) 1 (nI ((((0, iA σ 42) : Fam)).1)))) rfl rfl rfl rfl rfl (by decide +kernel) ⟨by decide, by decide⟩ rfl (Nat.le_of_ble_eq_true rfl) ⟨by decide, by decide⟩ (fun σ_6 q_6 => ?_)
    replace q_6 : σ_6 = sN (sI σ (42) ((pf1 σ x).2)) (41) 1 (nI ((pf1 σ x).1)) := q_6
    rw [q_6]
    clear q_6
    refine g_aload_n (pc9 := 39) C rfl 1 dX10_perfect_38 rfl rfl ?_
    refine g_get (v := .ref (w.1 (41))) (pc9 := 42) C rfl (31) 4 dX10_perfect_39 (by decide) (ce_31 w (sN (sI σ (42) ((pf1 σ x).2)) (41) 1 (nI ((pf1 σ x).1)))) hin_10 hl_39 rfl (by decide) rfl rfl ?_
    refine g_iload_n (pc9 := 43) C rfl 2 dX10_perfect_42 rfl rfl ?_
    refine g_callVv (nn := 1) (rest := []) (pc9 := 46) C rfl (41) [.int (x)] rfl dX10_perfect_43 (m_X1_addCluster l w σ _ _ pf1_le x) gX10_perfect_X1_addCluster (by decide) (ce_41 w (sN (sI σ (42) ((pf1 σ x).2)) (41) 1 (nI ((pf1 σ x).1)))) rfl rfl rfl rfl rfl (by decide +kernel) ⟨by decide, by decide⟩ rfl (Nat.le_of_ble_eq_true rfl) ⟨by decide, by decide⟩ (fun σ_7 q_7 => ?_)
    replace q_7 : σ_7 = sN (sI σ (42) ((pf2 σ x).2)) (41) 1 (nI ((pf2 σ x).1)) := q_7
    rw [q_7]
    clear q_7
    refine g_aload_n (pc9 := 47) C rfl 1 dX10_perfect_46 rfl rfl ?_
    refine g_get (v := .ref (w.1 (46))) (pc9 := 50) C rfl (31) 6 dX10_perfect_47 (by decide) (ce_31 w (sN (sI σ (42) ((pf2 σ x).2)) (41) 1 (nI ((pf2 σ x).1)))) hin_10 hl_53 rfl (by decide) rfl rfl ?_
    refine g_iload_n (pc9 := 51) C rfl 2 dX10_perfect_50 rfl rfl ?_
    refine g_aload_n (pc9 := 52) C rfl 1 dX10_perfect_51 rfl rfl ?_
    refine g_get (v := .ref (w.1 (41))) (pc9 := 55) C rfl (31) 4 dX10_perfect_52 (by decide) (ce_31 w (sN (sI σ (42) ((pf2 σ x).2)) (41) 1 (nI ((pf2 σ x).1)))) hin_10 hl_39 rfl (by decide) rfl rfl ?_
    refine g_callVv (nn := 2) (rest := []) (pc9 := 58) C rfl (46) [.int (x), .ref (w.1 (41))] rfl dX10_perfect_55 (m_X4_addClusters l w σ z hz h16 _ _ pf2_le x) gX10_perfect_X4_addClusters (by decide) (ce_46 w (sN (sI σ (42) ((pf2 σ x).2)) (41) 1 (nI ((pf2 σ x).1)))) rfl rfl rfl rfl rfl (by decide +kernel) ⟨by decide, by decide⟩ rfl (Nat.le_of_ble_eq_true rfl) ⟨by decide, by decide⟩ (fun σ_8 q_8 => ?_)
    replace q_8 : σ_8 = sN (sI σ (42) ((pfF σ x z).2)) (41) 1 (nI ((pfF σ x z).1)) := q_8
    rw [q_8]
    clear q_8
    refine g_aload_n (pc9 := 59) C rfl 1 dX10_perfect_58 rfl rfl ?_
    refine g_iload_n (pc9 := 60) C rfl 3 dX10_perfect_59 rfl rfl ?_
    refine g_callVv (nn := 1) (rest := []) (pc9 := 63) C rfl (31) [.int (nI (k))] rfl dX10_perfect_60 (m_X10_settleFamily l w σ (pfF σ x z) (hG hset (by rw [hc] at hqr; exact hqr)) k hb_k h8) gX10_perfect_X10_settleFamily (by decide) (ce_31 w (sN (sI σ (42) ((pfF σ x z).2)) (41) 1 (nI ((pfF σ x z).1)))) rfl rfl rfl rfl rfl (by decide +kernel) ⟨by decide, by decide⟩ rfl (Nat.le_of_ble_eq_true rfl) ⟨by decide, by decide⟩ (fun σ_9 q_9 => ?_)
    replace q_9 : σ_9 = (sfS σ (pfF σ x z) k) := q_9
    rw [q_9]
    clear q_9
    refine g_iconst (pc9 := 64) C rfl (nI (0)) dX10_perfect_63 rfl ?_
    exact g_xi (by decide) (by decide) (g_ireturn C hr hlk dX10_perfect_64 ⟨k, hb_k, rfl, hset, by rw [hc] at hqr; exact hqr, Or.inr ⟨rfl, rfl⟩⟩)
  · have hc := c_4
    refine g_iload_n (pc9 := 22) C rfl 0 dX10_perfect_21 rfl rfl ?_
    exact g_xi (by decide) (by decide) (g_ireturn C hr hlk dX10_perfect_22 ⟨k, hb_k, rfl, hset, hqr, Or.inl ⟨hc, rfl⟩⟩)
noncomputable abbrev ckF (σ : St) (N : Nat) : Fam := ckU σ N (eachF (allK N) (0, iA σ 42)) N
abbrev ckA (σ : St) (N : Nat) : Prop := ∀ i j k, i < j → j < k → k < N → ckP σ i j k
set_option maxRecDepth 100000 in
set_option maxHeartbeats 4000000 in
theorem m_X10_clock (l : Launch) (hst : l.stackTraces = false) (w : Wd) (sA : Nat → Nat) (σ : St) (h8 : tS σ 8 < 9) (N : Nat) (hN : nF σ 53 0 = nI N) (h12 : N ≤ 12) (u : Int32) (hG : ckA σ N → famG (ckF σ N)) : MXI l yX10_clock wsX10_clock 7 1 w sA [.ref (w.1 (31)), .int (u)] (σ) (fun r σ9 => ∃ k, k < 8 ∧ u = nI k ∧ ((¬ ckA σ N ∧ r = 0 ∧ σ9 = σ) ∨ (ckA σ N ∧ r = 1 ∧ σ9 = sfS σ (ckF σ N) k))) (fun E σ9 => σ9 = σ ∧ E = xIOB ∧ ¬ okI 8 u) := by
  refine MXI_of hst (cc := cX10_clock) (maxL := 2) (ret := .boolean) (by decide) rfl (Nat.le_of_ble_eq_true rfl) ?_
  intro p e s m args below meth c A X hr hlk
  have X : CX p l s m args c w sA A cX10_clock RX10 2 wsX10_clock := X
  have C := X.1
  have hin_10 : ∀ u ∈ wsX100, u ∈ wsX10_clock := by decide +kernel
  have hl_39 : Cond.fieldLink RX10 39 "LineageBench" "family" "LLineageBench$Family;" ∈ wsX10_clock := by decide +kernel
  have hl_71 : Cond.fieldLink RX10 71 "LineageBench" "distances" "LLineageBench$Distances;" ∈ wsX10_clock := by decide +kernel
  refine g_iload_n (pc9 := 1) C rfl 1 dX10_clock_0 rfl rfl ?_
  refine x_callSv (rest := []) X hlk (pc9 := 4) rfl [.int (u)] (nn := 1) rfl dX10_clock_1 (m_X10_needShelf l hst w sA σ u) gX10_clock_X10_needShelf rfl (by decide +kernel) ⟨by decide, by decide⟩ rfl (Nat.le_of_ble_eq_true rfl) ⟨by decide, by decide⟩ ⟨by decide, by decide⟩ (fun E σ9 h => h) (fun σ_1 q_1 => ?_)
  obtain ⟨qs_1, k, hb_k, hx_1⟩ := q_1
  rw [qs_1]
  clear qs_1
  subst hx_1
  refine g_aload_n (pc9 := 5) C rfl 0 dX10_clock_4 rfl rfl ?_
  refine g_get (v := .ref (w.1 (53))) (pc9 := 8) C rfl (31) 9 dX10_clock_5 (by decide) (ce_31 w (σ)) hin_10 hl_71 rfl (by decide) rfl rfl ?_
  refine g_callVi (nn := 0) (rest := []) (pc9 := 11) C rfl (53) [] rfl dX10_clock_8 (m_X0_clockHolds l w σ N hN h12) gX10_clock_X0_clockHolds (by decide) (ce_53 w (σ)) rfl rfl rfl rfl rfl (by decide +kernel) ⟨by decide, by decide⟩ rfl (Nat.le_of_ble_eq_true rfl) ⟨by decide, by decide⟩ (fun r_2 σ_2 q_2 => ?_)
  obtain ⟨qs_2, qr_2⟩ := q_2
  rw [qs_2, qr_2]
  clear qs_2 qr_2
  refine g_if_ne (pc9 := 14) C rfl 16 dX10_clock_11 rfl (fun c_3 => ?_) (fun c_3 => ?_)
  · have hc : ckA σ N := pI_ye c_3
    refine g_aload_n (pc9 := 17) C rfl 0 dX10_clock_16 rfl rfl ?_
    refine g_get (v := .ref (w.1 (41))) (pc9 := 20) C rfl (31) 4 dX10_clock_17 (by decide) (ce_31 w (σ)) hin_10 hl_39 rfl (by decide) rfl rfl ?_
    refine g_callVv (nn := 0) (rest := []) (pc9 := 23) C rfl (41) [] rfl dX10_clock_20 (m_makeEmpty l w σ) gX10_clock_X1_makeEmpty (by decide) (ce_41 w (σ)) rfl rfl rfl rfl rfl (by decide +kernel) ⟨by decide, by decide⟩ rfl (Nat.le_of_ble_eq_true rfl) ⟨by decide, by decide⟩ (fun σ_4 q_4 => ?_)
    replace q_4 : σ_4 = sN (sI σ (42) ((((0, iA σ 42) : Fam)).2)) (41) 1 (nI ((((0, iA σ 42) : Fam)).1)) := q_4
    rw [q_4]
    clear q_4
    refine g_aload_n (pc9 := 24) C rfl 0 dX10_clock_23 rfl rfl ?_
    refine g_get (v := .ref (w.1 (53))) (pc9 := 27) C rfl (31) 9 dX10_clock_24 (by decide) (ce_31 w (sN (sI σ (42) ((((0, iA σ 42) : Fam)).2)) (41) 1 (nI ((((0, iA σ 42) : Fam)).1)))) hin_10 hl_71 rfl (by decide) rfl rfl ?_
    refine g_aload_n (pc9 := 28) C rfl 0 dX10_clock_27 rfl rfl ?_
    refine g_get (v := .ref (w.1 (41))) (pc9 := 31) C rfl (31) 4 dX10_clock_28 (by decide) (ce_31 w (sN (sI σ (42) ((((0, iA σ 42) : Fam)).2)) (41) 1 (nI ((((0, iA σ 42) : Fam)).1)))) hin_10 hl_39 rfl (by decide) rfl rfl ?_
    refine g_callVv (nn := 1) (rest := []) (pc9 := 34) C rfl (53) [.ref (w.1 (41))] rfl dX10_clock_31 (m_X0_addClockClusters l w σ N hN h12 (0, iA σ 42) (Nat.zero_le _)) gX10_clock_X0_addClockClusters (by decide) (ce_53 w (sN (sI σ (42) ((((0, iA σ 42) : Fam)).2)) (41) 1 (nI ((((0, iA σ 42) : Fam)).1)))) rfl rfl rfl rfl rfl (by decide +kernel) ⟨by decide, by decide⟩ rfl (Nat.le_of_ble_eq_true rfl) ⟨by decide, by decide⟩ (fun σ_5 q_5 => ?_)
    replace q_5 : σ_5 = sN (sI σ (42) ((ckF σ N).2)) (41) 1 (nI ((ckF σ N).1)) := q_5
    rw [q_5]
    clear q_5
    refine g_aload_n (pc9 := 35) C rfl 0 dX10_clock_34 rfl rfl ?_
    refine g_iload_n (pc9 := 36) C rfl 1 dX10_clock_35 rfl rfl ?_
    refine g_callVv (nn := 1) (rest := []) (pc9 := 39) C rfl (31) [.int (nI (k))] rfl dX10_clock_36 (m_X10_settleFamily l w σ (ckF σ N) (hG hc) k hb_k h8) gX10_clock_X10_settleFamily (by decide) (ce_31 w (sN (sI σ (42) ((ckF σ N).2)) (41) 1 (nI ((ckF σ N).1)))) rfl rfl rfl rfl rfl (by decide +kernel) ⟨by decide, by decide⟩ rfl (Nat.le_of_ble_eq_true rfl) ⟨by decide, by decide⟩ (fun σ_6 q_6 => ?_)
    replace q_6 : σ_6 = (sfS σ (ckF σ N) k) := q_6
    rw [q_6]
    clear q_6
    refine g_iconst (pc9 := 40) C rfl (nI (1)) dX10_clock_39 rfl ?_
    exact g_xi (by decide) (by decide) (g_zreturn C hr hlk dX10_clock_40 (by decide) ⟨k, hb_k, rfl, Or.inr ⟨hc, rfl, rfl⟩⟩)
  · have hc : ¬ ckA σ N := pI_no c_3
    refine g_iconst (pc9 := 15) C rfl (nI (0)) dX10_clock_14 rfl ?_
    exact g_xi (by decide) (by decide) (g_zreturn C hr hlk dX10_clock_15 (by decide) ⟨k, hb_k, rfl, Or.inl ⟨hc, rfl, rfl⟩⟩)
noncomputable abbrev neT (σ : St) (N a0 b0 : Nat) : NT := njD N (N - 2) (eachF (allK N) (0, iA σ 42), fillG bitI (iA σ 55) N, sjA (dS σ) N (jA σ 56) N, jA σ 57, a0, b0)
noncomputable abbrev neF (σ : St) (N a0 b0 : Nat) : Fam := (famZ (neT σ N a0 b0).1.1 (neT σ N a0 b0).1.2 (allK N), famF (neT σ N a0 b0).1.1 (neT σ N a0 b0).1.2 (allK N))
abbrev neX (σ : St) (T : NT) : St := sN (sN (sJ (sJ (sI σ 55 T.2.1) 56 T.2.2.1) 57 T.2.2.2.1) 53 5 (nI T.2.2.2.2.1)) 53 6 (nI T.2.2.2.2.2)
set_option maxRecDepth 100000 in
set_option maxHeartbeats 4000000 in
theorem m_X10_nearest (l : Launch) (hst : l.stackTraces = false) (w : Wd) (sA : Nat → Nat) (σ : St) (h8 : tS σ 8 < 9) (N : Nat) (hN : nF σ 53 0 = nI N) (h12 : N ≤ 12) (h2 : 2 ≤ N) (a0 b0 : Nat) (ha0 : nF σ 53 5 = nI a0) (hb0 : nF σ 53 6 = nI b0) (ha : a0 < 12) (hb : b0 < 12) (u : Int32) (hG : famG (neF σ N a0 b0)) : MXV l yX10_nearest wsX10_nearest 7 1 w sA [.ref (w.1 (31)), .int (u)] (σ) (fun σ9 => ∃ k, k < 8 ∧ u = nI k ∧ σ9 = sfS (neX σ (neT σ N a0 b0)) (neF σ N a0 b0) k) (fun E σ9 => σ9 = σ ∧ E = xIOB ∧ ¬ okI 8 u) := by
  refine MXV_of hst (cc := cX10_nearest) (maxL := 2) (by decide) rfl (Nat.le_of_ble_eq_true rfl) ?_
  intro p e s m args below meth c A X hr hlk
  have X : CX p l s m args c w sA A cX10_nearest RX10 2 wsX10_nearest := X
  have C := X.1
  have hin_10 : ∀ u ∈ wsX100, u ∈ wsX10_nearest := by decide +kernel
  have hl_39 : Cond.fieldLink RX10 39 "LineageBench" "family" "LLineageBench$Family;" ∈ wsX10_nearest := by decide +kernel
  have hl_71 : Cond.fieldLink RX10 71 "LineageBench" "distances" "LLineageBench$Distances;" ∈ wsX10_nearest := by decide +kernel
  refine g_iload_n (pc9 := 1) C rfl 1 dX10_nearest_0 rfl rfl ?_
  refine x_callSv (rest := []) X hlk (pc9 := 4) rfl [.int (u)] (nn := 1) rfl dX10_nearest_1 (m_X10_needShelf l hst w sA σ u) gX10_nearest_X10_needShelf rfl (by decide +kernel) ⟨by decide, by decide⟩ rfl (Nat.le_of_ble_eq_true rfl) ⟨by decide, by decide⟩ ⟨by decide, by decide⟩ (fun E σ9 h => h) (fun σ_1 q_1 => ?_)
  obtain ⟨qs_1, k, hb_k, hx_1⟩ := q_1
  rw [qs_1]
  clear qs_1
  subst hx_1
  refine g_aload_n (pc9 := 5) C rfl 0 dX10_nearest_4 rfl rfl ?_
  refine g_get (v := .ref (w.1 (41))) (pc9 := 8) C rfl (31) 4 dX10_nearest_5 (by decide) (ce_31 w (σ)) hin_10 hl_39 rfl (by decide) rfl rfl ?_
  refine g_callVv (nn := 0) (rest := []) (pc9 := 11) C rfl (41) [] rfl dX10_nearest_8 (m_makeEmpty l w σ) gX10_nearest_X1_makeEmpty (by decide) (ce_41 w (σ)) rfl rfl rfl rfl rfl (by decide +kernel) ⟨by decide, by decide⟩ rfl (Nat.le_of_ble_eq_true rfl) ⟨by decide, by decide⟩ (fun σ_2 q_2 => ?_)
  replace q_2 : σ_2 = sN (sI σ (42) ((((0, iA σ 42) : Fam)).2)) (41) 1 (nI ((((0, iA σ 42) : Fam)).1)) := q_2
  rw [q_2]
  clear q_2
  refine g_aload_n (pc9 := 12) C rfl 0 dX10_nearest_11 rfl rfl ?_
  refine g_get (v := .ref (w.1 (53))) (pc9 := 15) C rfl (31) 9 dX10_nearest_12 (by decide) (ce_31 w (sN (sI σ (42) ((((0, iA σ 42) : Fam)).2)) (41) 1 (nI ((((0, iA σ 42) : Fam)).1)))) hin_10 hl_71 rfl (by decide) rfl rfl ?_
  refine g_aload_n (pc9 := 16) C rfl 0 dX10_nearest_15 rfl rfl ?_
  refine g_get (v := .ref (w.1 (41))) (pc9 := 19) C rfl (31) 4 dX10_nearest_16 (by decide) (ce_31 w (sN (sI σ (42) ((((0, iA σ 42) : Fam)).2)) (41) 1 (nI ((((0, iA σ 42) : Fam)).1)))) hin_10 hl_39 rfl (by decide) rfl rfl ?_
  refine g_callVv (nn := 1) (rest := []) (pc9 := 22) C rfl (53) [.ref (w.1 (41))] rfl dX10_nearest_19 (m_X0_joinNearest l w σ N hN h12 h2 (0, iA σ 42) (Nat.zero_le _) a0 b0 ha0 hb0 ha hb) gX10_nearest_X0_joinNearest (by decide) (ce_53 w (sN (sI σ (42) ((((0, iA σ 42) : Fam)).2)) (41) 1 (nI ((((0, iA σ 42) : Fam)).1)))) rfl rfl rfl rfl rfl (by decide +kernel) ⟨by decide, by decide⟩ rfl (Nat.le_of_ble_eq_true rfl) ⟨by decide, by decide⟩ (fun σ_3 q_3 => ?_)
  obtain ⟨T, hTT, qs_3⟩ := q_3
  subst hTT
  replace qs_3 : σ_3 = faS (neX σ (neT σ N a0 b0)) (neF σ N a0 b0) := qs_3
  rw [qs_3]
  clear qs_3
  refine g_aload_n (pc9 := 23) C rfl 0 dX10_nearest_22 rfl rfl ?_
  refine g_iload_n (pc9 := 24) C rfl 1 dX10_nearest_23 rfl rfl ?_
  refine g_callVv (nn := 1) (rest := []) (pc9 := 27) C rfl (31) [.int (nI (k))] rfl dX10_nearest_24 (m_X10_settleFamily l w (neX σ (neT σ N a0 b0)) (neF σ N a0 b0) hG k hb_k h8) gX10_nearest_X10_settleFamily (by decide) (ce_31 w (sN (sI ((neX σ (neT σ N a0 b0))) (42) ((neF σ N a0 b0).2)) (41) 1 (nI ((neF σ N a0 b0).1)))) rfl rfl rfl rfl rfl (by decide +kernel) ⟨by decide, by decide⟩ rfl (Nat.le_of_ble_eq_true rfl) ⟨by decide, by decide⟩ (fun σ_4 q_4 => ?_)
  replace q_4 : σ_4 = (sfS (neX σ (neT σ N a0 b0)) (neF σ N a0 b0) k) := q_4
  rw [q_4]
  clear q_4
  exact g_xi (by decide) (by decide) (g_return C hr hlk dX10_nearest_27 ⟨k, hb_k, rfl, rfl⟩)

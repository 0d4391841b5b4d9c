/-! LineageBench: the same kinds; strict, most -/
/-- from shelf s on, k of them, with what was common so far -/
def skR (σ : St) (x : Int32) : Nat → Nat → Int32 → Prop
  | 0, _, _ => True
  | k + 1, s, d => (bt x s → okP σ s ∧ ¬ (¬ d = 0 ∧ ¬ d = aK σ (tS σ s)) ∧ skR σ x k (s + 1) (aK σ (tS σ s))) ∧ (¬ bt x s → skR σ x k (s + 1) d)
theorem skR_s {σ : St} {x : Int32} {s : Nat} {d : Int32} (h : s < 8) : skR σ x (8 - s) s d ↔ (bt x s → okP σ s ∧ ¬ (¬ d = 0 ∧ ¬ d = aK σ (tS σ s)) ∧ skR σ x (8 - (s + 1)) (s + 1) (aK σ (tS σ s))) ∧ (¬ bt x s → skR σ x (8 - (s + 1)) (s + 1) d) := by
  rw [show 8 - s = (8 - (s + 1)) + 1 by omega]
  exact Iff.rfl
abbrev skA (σ : St) (x : Int32) : Prop := skR σ x 8 0 (nI 0)
set_option maxRecDepth 100000 in
set_option maxHeartbeats 4000000 in
theorem m_X10_needSameKinds (l : Launch) (hst : l.stackTraces = false) (w : Wd) (sA : Nat → Nat) (σ : St) (hT : tOk σ) (x : Int32) : MXV l yX10_needSameKinds wsX10_needSameKinds 8 17 w sA [.ref (w.1 (31)), .int (x)] (σ) (fun σ9 => σ9 = σ ∧ skA σ x) (fun E σ9 => σ9 = σ ∧ E = xISE ∧ ¬ skA σ x) := by
  refine MXV_of hst (cc := cX10_needSameKinds) (maxL := 5) (by decide) rfl (Nat.le_of_ble_eq_true rfl) ?_
  intro p e s m args below meth c A X hr hlk
  have X : CX p l s m args c w sA A cX10_needSameKinds RX10 5 wsX10_needSameKinds := X
  have C := X.1
  refine g_iconst (pc9 := 1) C rfl (nI (0)) dX10_needSameKinds_0 rfl ?_
  refine g_istore_n (pc9 := 2) C rfl [(2, .int (nI (0))), (0, .ref (w.1 (31))), (1, .int (x))] dX10_needSameKinds_1 rfl (by decide) rfl ?_
  refine g_iconst (pc9 := 3) C rfl (nI (0)) dX10_needSameKinds_2 rfl ?_
  refine g_istore_n (pc9 := 4) C rfl [(3, .int (nI (0))), (2, .int (nI (0))), (0, .ref (w.1 (31))), (1, .int (x))] dX10_needSameKinds_3 rfl (by decide) rfl ?_
  refine g_sub [0, 1, 2, 3] [(3, .int (nI (0))), (2, .int (nI (0))), (0, .ref (w.1 (31))), (1, .int (x))] rfl ?_
  refine g_wid (k := 2 * 0) (n := 12 * 0) (Nat.le_refl _) (Nat.le_refl _) ?_
  refine g_lp2 (α := Nat) (β := Int32) (fun v d => v ≤ 8 ∧ (skA σ x ↔ skR σ x (8 - v) v d)) (fun v d => 8 - v) (fun v d => G p l e _ s m args below meth c _ w A _ (σ) (2 * v) (12 * v) 4 [(3, .int (nI (v))), (2, .int (d)), (0, .ref (w.1 (31))), (1, .int (x))] []) (fun v d hI ih => ?_) (0) (nI 0) ⟨Nat.zero_le _, Iff.rfl⟩
  obtain ⟨hv, hd⟩ := hI
  refine g_iload_n (pc9 := 5) C rfl 0 dX10_needSameKinds_4 rfl rfl ?_
  refine g_bipush (pc9 := 7) C rfl (nI (8)) dX10_needSameKinds_5 rfl ?_
  refine g_icmp_ge (pc9 := 10) C rfl 58 dX10_needSameKinds_7 rfl (fun c_1 => ?_) (fun c_1 => ?_)
  · replace c_1 := (nI_leI (by omega) (by omega)).mp c_1
    exact g_xi (by show _ ≤ 17; omega) (by show _ ≤ 102; omega) (g_return C hr hlk dX10_needSameKinds_58 ⟨rfl, hd.mpr (by rw [show v = 8 by omega]; trivial)⟩)
  · replace c_1 := (not_congr (nI_leI (by omega) (by omega))).mp c_1
    have hv8 : v < 8 := by omega
    rw [skR_s hv8] at hd
    refine g_iload_n (pc9 := 11) C rfl 3 dX10_needSameKinds_10 rfl rfl ?_
    refine g_iload_n (pc9 := 12) C rfl 0 dX10_needSameKinds_11 rfl rfl ?_
    refine g_ishr (pc9 := 13) C rfl dX10_needSameKinds_12 ?_
    refine g_iconst (pc9 := 14) C rfl (nI (1)) dX10_needSameKinds_13 rfl ?_
    refine g_iand (pc9 := 15) C rfl dX10_needSameKinds_14 ?_
    refine g_if_eq (pc9 := 18) C rfl 52 dX10_needSameKinds_15 rfl (fun c_2 => ?_) (fun c_2 => ?_)
    · have hbt : ¬ bt x v := fun h => h c_2
      refine g_iinc (pc9 := 55) C rfl [(3, .int (nI (v + 1))), (2, .int (d)), (0, .ref (w.1 (31))), (1, .int (x))] 0 (nI (v + 1)) dX10_needSameKinds_52 rfl (nI_1 (v)) (by decide) rfl ?_
      refine g_goto C 4 dX10_needSameKinds_55 rfl ?_
      refine g_sub [0, 1, 2, 3] [(3, .int (nI (v + 1))), (2, .int (d)), (0, .ref (w.1 (31))), (1, .int (x))] rfl ?_
      exact g_wid (by omega) (by omega) (ih (v + 1) d ⟨by omega, hd.trans ⟨fun q => q.2 hbt, fun q => ⟨fun h => absurd h hbt, fun _ => q⟩⟩⟩ (by omega))
    · have hbt : bt x v := c_2
      have ht_v := hT.s hv8
      refine g_aload_n (pc9 := 19) C rfl 2 dX10_needSameKinds_18 rfl rfl ?_
      refine g_iload_n (pc9 := 20) C rfl 0 dX10_needSameKinds_19 rfl rfl ?_
      refine x_callVr (rest := []) X hlk (pc9 := 23) rfl (31) [.int (nI (v))] (nn := 1) rfl dX10_needSameKinds_20 (m_X10_plainTreeOn l hst w sA σ v hv8 ht_v) gX10_needSameKinds_X10_plainTreeOn (by decide) (ce_31 w (σ)) rfl rfl rfl (by decide +kernel) ⟨by decide, by decide⟩ rfl (Nat.le_of_ble_eq_true rfl) ⟨by show _ ≤ 17; omega, by show _ ≤ 102; omega⟩ ⟨by show _ ≤ 17; omega, by show _ ≤ 102; omega⟩ (fun E σ9 h => ⟨h.1, h.2.1, fun q => h.2.2 ((hd.mp q).1 hbt).1⟩) (fun r_3 σ_3 q_3 => ?_)
      obtain ⟨qs_3, qr_3, hok⟩ := q_3
      replace qs_3 : σ_3 = σ := qs_3
      replace qr_3 : r_3 = 64 + 5 * tS σ v := qr_3
      rw [qs_3, qr_3]
      clear qs_3 qr_3
      refine g_callVi (nn := 0) (rest := []) (pc9 := 26) C rfl (64 + 5 * (tS σ v)) [] rfl dX10_needSameKinds_23 (m_X7_allKinds l w σ (tS σ v) ht_v) gX10_needSameKinds_X7_allKinds (by omega) (ce_tree w (σ) ((tS σ v))) rfl rfl rfl rfl rfl (by decide +kernel) ⟨by decide, by decide⟩ rfl (Nat.le_of_ble_eq_true rfl) ⟨by show _ ≤ 17; omega, by show _ ≤ 102; omega⟩ (fun r_4 σ_4 q_4 => ?_)
      obtain ⟨qs_4, qr_4⟩ := q_4
      rw [qs_4, qr_4]
      clear qs_4 qr_4
      refine g_istore (pc9 := 28) C rfl [(4, .int (aK σ (tS σ v))), (3, .int (nI (v))), (2, .int (d)), (0, .ref (w.1 (31))), (1, .int (x))] dX10_needSameKinds_26 (by decide) rfl ?_
      refine g_iload_n (pc9 := 29) C rfl 2 dX10_needSameKinds_28 rfl rfl ?_
      refine g_if_eq (pc9 := 32) C rfl 49 dX10_needSameKinds_29 rfl (fun c_5 => ?_) (fun c_5 => ?_)
      · have hgo : ¬ (¬ d = 0 ∧ ¬ d = aK σ (tS σ v)) := fun h => h.1 c_5
        refine g_iload (pc9 := 51) C rfl 0 dX10_needSameKinds_49 rfl ?_
        refine g_istore_n (pc9 := 52) C rfl [(2, .int (aK σ (tS σ v))), (4, .int (aK σ (tS σ v))), (3, .int (nI (v))), (0, .ref (w.1 (31))), (1, .int (x))] dX10_needSameKinds_51 rfl (by decide) rfl ?_
        refine g_iinc (pc9 := 55) C rfl [(3, .int (nI (v + 1))), (2, .int (aK σ (tS σ v))), (4, .int (aK σ (tS σ v))), (0, .ref (w.1 (31))), (1, .int (x))] 2 (nI (v + 1)) dX10_needSameKinds_52 rfl (nI_1 (v)) (by decide) rfl ?_
        refine g_goto C 4 dX10_needSameKinds_55 rfl ?_
        refine g_sub [0, 1, 3, 4] [(3, .int (nI (v + 1))), (2, .int (aK σ (tS σ v))), (0, .ref (w.1 (31))), (1, .int (x))] rfl ?_
        exact g_wid (by omega) (by omega) (ih (v + 1) (aK σ (tS σ v)) ⟨by omega, hd.trans ⟨fun q => (q.1 hbt).2.2, fun q => ⟨fun _ => ⟨hok, hgo, q⟩, fun h => absurd hbt h⟩⟩⟩ (by omega))
      · have hd0 : ¬ d = 0 := c_5
        refine g_iload_n (pc9 := 33) C rfl 2 dX10_needSameKinds_32 rfl rfl ?_
        refine g_iload (pc9 := 35) C rfl 0 dX10_needSameKinds_33 rfl ?_
        refine g_icmp_eq (pc9 := 38) C rfl 49 dX10_needSameKinds_35 rfl (fun c_6 => ?_) (fun c_6 => ?_)
        · have hgo : ¬ (¬ d = 0 ∧ ¬ d = aK σ (tS σ v)) := fun h => h.2 c_6
          refine g_iload (pc9 := 51) C rfl 0 dX10_needSameKinds_49 rfl ?_
          refine g_istore_n (pc9 := 52) C rfl [(2, .int (aK σ (tS σ v))), (4, .int (aK σ (tS σ v))), (3, .int (nI (v))), (0, .ref (w.1 (31))), (1, .int (x))] dX10_needSameKinds_51 rfl (by decide) rfl ?_
          refine g_iinc (pc9 := 55) C rfl [(3, .int (nI (v + 1))), (2, .int (aK σ (tS σ v))), (4, .int (aK σ (tS σ v))), (0, .ref (w.1 (31))), (1, .int (x))] 2 (nI (v + 1)) dX10_needSameKinds_52 rfl (nI_1 (v)) (by decide) rfl ?_
          refine g_goto C 4 dX10_needSameKinds_55 rfl ?_
          refine g_sub [0, 1, 3, 4] [(3, .int (nI (v + 1))), (2, .int (aK σ (tS σ v))), (0, .ref (w.1 (31))), (1, .int (x))] rfl ?_
          exact g_wid (by omega) (by omega) (ih (v + 1) (aK σ (tS σ v)) ⟨by omega, hd.trans ⟨fun q => (q.1 hbt).2.2, fun q => ⟨fun _ => ⟨hok, hgo, q⟩, fun h => absurd hbt h⟩⟩⟩ (by omega))
        · have hno : (¬ d = 0 ∧ ¬ d = aK σ (tS σ v)) := ⟨hd0, c_6⟩
          exact g_throwW X hlk (cls := "java/lang/IllegalStateException") (text := "the kinds are not the same") dX10_needSameKinds_38 dX10_needSameKinds_41 dX10_needSameKinds_42 dX10_needSameKinds_45 dX10_needSameKinds_48 (by decide) (by decide +kernel) (by decide +kernel) (by decide +kernel) (by decide +kernel) (by decide +kernel) (by decide +kernel) (by decide) (Nat.le_of_ble_eq_true rfl) (by show _ ≤ 17; omega) (by show _ ≤ 102; omega) (by omega) (by omega) ⟨rfl, rfl, fun q => ((hd.mp q).1 hbt).2.1 hno⟩
def smX (σ : St) (x u : Int32) (E : String) : Prop := (E = xIOB ∧ ¬ okI 8 u) ∨ (E = xIAE ∧ okI 8 u ∧ ¬ okR 1 255 x) ∨ (E = xISE ∧ okI 8 u ∧ okR 1 255 x ∧ ¬ skA σ x)
noncomputable abbrev smF (σ : St) (x q : Int32) : Fam := gsO σ x q (0, iA σ 42) 8
set_option maxRecDepth 100000 in
set_option maxHeartbeats 4000000 in
theorem m_X10_strict (l : Launch) (hst : l.stackTraces = false) (w : Wd) (sA : Nat → Nat) (σ : St) (hT : tOk σ) (x u : Int32) (hG : okR 1 255 x → skA σ x → famG (smF σ x (bC x))) : MXI l yX10_strict wsX10_strict 9 19 w sA [.ref (w.1 (31)), .int (x), .int (u)] (σ) (fun r σ9 => ∃ k, k < 8 ∧ u = nI k ∧ okR 1 255 x ∧ skA σ x ∧ σ9 = sfS σ (smF σ x (bC x)) k ∧ r = tN σ9 (tS σ9 k)) (fun E σ9 => σ9 = σ ∧ smX σ x u E) := by
  refine MXI_of hst (cc := cX10_strict) (maxL := 3) (ret := .int) (by decide) rfl (Nat.le_of_ble_eq_true rfl) ?_
  intro p e s m args below meth c A X hr hlk
  have X : CX p l s m args c w sA A cX10_strict RX10 3 wsX10_strict := X
  have C := X.1
  have hin_7 : ∀ u ∈ wsX70, u ∈ wsX10_strict := by decide +kernel
  have hin_10 : ∀ u ∈ wsX100, u ∈ wsX10_strict := by decide +kernel
  have hl_32 : Cond.fieldLink RX10 32 "LineageBench" "trees" "[LLineageBench$Tree;" ∈ wsX10_strict := by decide +kernel
  have hl_151 : Cond.fieldLink RX10 151 "LineageBench$Tree" "nodes" "I" ∈ wsX10_strict := by decide +kernel
  refine g_iload_n (pc9 := 1) C rfl 2 dX10_strict_0 rfl rfl ?_
  refine x_callSv (rest := []) X hlk (pc9 := 4) rfl [.int (u)] (nn := 1) rfl dX10_strict_1 (m_X10_needShelf l hst w sA σ u) gX10_strict_X10_needShelf rfl (by decide +kernel) ⟨by decide, by decide⟩ rfl (Nat.le_of_ble_eq_true rfl) ⟨by decide, by decide⟩ ⟨by decide, by decide⟩ (fun E σ9 h => ⟨h.1, Or.inl ⟨h.2.1, h.2.2⟩⟩) (fun σ_1 q_1 => ?_)
  obtain ⟨qs_1, k, hb_k, hx_1⟩ := q_1
  rw [qs_1]
  clear qs_1
  subst hx_1
  refine g_iload_n (pc9 := 5) C rfl 1 dX10_strict_4 rfl rfl ?_
  refine x_callSv (rest := []) X hlk (pc9 := 8) rfl [.int (x)] (nn := 1) rfl dX10_strict_5 (m_X10_needShelfSet l hst w sA σ x) gX10_strict_X10_needShelfSet rfl (by decide +kernel) ⟨by decide, by decide⟩ rfl (Nat.le_of_ble_eq_true rfl) ⟨by decide, by decide⟩ ⟨by decide, by decide⟩ (fun E σ9 h => ⟨h.1, Or.inr (Or.inl ⟨h.2.1, ⟨k, hb_k, rfl⟩, h.2.2⟩)⟩) (fun σ_2 q_2 => ?_)
  obtain ⟨qs_2, hset⟩ := q_2
  rw [qs_2]
  clear qs_2
  refine g_aload_n (pc9 := 9) C rfl 0 dX10_strict_8 rfl rfl ?_
  refine g_iload_n (pc9 := 10) C rfl 1 dX10_strict_9 rfl rfl ?_
  refine x_callVv (rest := []) X hlk (pc9 := 13) rfl (31) [.int (x)] (nn := 1) rfl dX10_strict_10 (m_X10_needSameKinds l hst w sA σ hT x) gX10_strict_X10_needSameKinds (by decide) (ce_31 w (σ)) rfl rfl rfl (by decide +kernel) ⟨by decide, by decide⟩ rfl (Nat.le_of_ble_eq_true rfl) ⟨by decide, by decide⟩ ⟨by decide, by decide⟩ (fun E σ9 h => ⟨h.1, Or.inr (Or.inr ⟨h.2.1, ⟨k, hb_k, rfl⟩, hset, h.2.2⟩)⟩) (fun σ_3 q_3 => ?_)
  obtain ⟨qs_3, hsk⟩ := q_3
  rw [qs_3]
  clear qs_3
  refine g_aload_n (pc9 := 14) C rfl 0 dX10_strict_13 rfl rfl ?_
  refine g_iload_n (pc9 := 15) C rfl 1 dX10_strict_14 rfl rfl ?_
  refine g_iload_n (pc9 := 16) C rfl 1 dX10_strict_15 rfl rfl ?_
  refine g_callSi (nn := 1) (rest := [.int (x), .ref (w.1 (31))]) (pc9 := 19) C rfl [.int (x)] rfl dX10_strict_16 (m_bitCount l w σ x) gX10_strict_J6_bitCount_0f7a4 rfl rfl rfl (by decide +kernel) ⟨by decide, by decide⟩ rfl (Nat.le_of_ble_eq_true rfl) ⟨by decide, by decide⟩ (fun r_4 σ_4 q_4 => ?_)
  obtain ⟨qs_4, qr_4⟩ := q_4
  rw [qs_4, qr_4]
  clear qs_4 qr_4
  refine g_callVv (nn := 2) (rest := []) (pc9 := 22) C rfl (31) [.int (x), .int (bC x)] rfl dX10_strict_19 (m_X10_gatherShared l w σ hT x (bC x)) gX10_strict_X10_gatherShared (by decide) (ce_31 w (σ)) rfl rfl rfl rfl rfl (by decide +kernel) ⟨by decide, by decide⟩ rfl (Nat.le_of_ble_eq_true rfl) ⟨by decide, by decide⟩ (fun σ_5 q_5 => ?_)
  replace q_5 : σ_5 = sN (sI σ (42) ((smF σ x (bC x)).2)) (41) 1 (nI ((smF σ x (bC x)).1)) := q_5
  rw [q_5]
  clear q_5
  refine g_aload_n (pc9 := 23) C rfl 0 dX10_strict_22 rfl rfl ?_
  refine g_iload_n (pc9 := 24) C rfl 2 dX10_strict_23 rfl rfl ?_
  refine g_callVv (nn := 1) (rest := []) (pc9 := 27) C rfl (31) [.int (nI (k))] rfl dX10_strict_24 (m_X10_settleFamily l w σ (smF σ x (bC x)) (hG hset hsk) k hb_k (hT.1 8 (by decide))) gX10_strict_X10_settleFamily (by decide) (ce_31 w (sN (sI σ (42) ((smF σ x (bC x)).2)) (41) 1 (nI ((smF σ x (bC x)).1)))) rfl rfl rfl rfl rfl (by decide +kernel) ⟨by decide, by decide⟩ rfl (Nat.le_of_ble_eq_true rfl) ⟨by decide, by decide⟩ (fun σ_6 q_6 => ?_)
  replace q_6 : σ_6 = (sfS σ (smF σ x (bC x)) k) := q_6
  rw [q_6]
  clear q_6
  refine g_aload_n (pc9 := 28) C rfl 0 dX10_strict_27 rfl rfl ?_
  refine g_get (v := .ref (w.1 (40))) (pc9 := 31) C rfl (31) 3 dX10_strict_28 (by decide) (ce_31 w ((sfS σ (smF σ x (bC x)) k))) hin_10 hl_32 rfl (by decide) rfl rfl ?_
  refine g_iload_n (pc9 := 32) C rfl 2 dX10_strict_31 rfl rfl ?_
  refine g_aald (pc9 := 33) C rfl (k) dX10_strict_32 rfl (by omega) ?_
  have h9 : tS (sfS σ (smF σ x (bC x)) k) k < 9 := sfS_t9 hT hb_k
  refine g_get (v := .int (nF (sfS σ (smF σ x (bC x)) k) (64 + 5 * (tS ((sfS σ (smF σ x (bC x)) k)) (k))) 4)) (pc9 := 36) C rfl (64 + 5 * (tS ((sfS σ (smF σ x (bC x)) k)) (k))) 4 dX10_strict_33 (by omega) (ce_tree w ((sfS σ (smF σ x (bC x)) k)) ((tS ((sfS σ (smF σ x (bC x)) k)) (k)))) hin_7 hl_151 rfl (by decide) rfl rfl ?_
  exact g_xi (by decide) (by decide) (g_ireturn C hr hlk dX10_strict_36 ⟨k, hb_k, rfl, hset, hsk, rfl, rfl⟩)
set_option maxRecDepth 100000 in
set_option maxHeartbeats 4000000 in
theorem m_X10_most (l : Launch) (hst : l.stackTraces = false) (w : Wd) (sA : Nat → Nat) (σ : St) (hT : tOk σ) (x u : Int32) (hG : okR 1 255 x → skA σ x → famG (smF σ x (bC x / nI 2 + nI 1))) : MXI l yX10_most wsX10_most 9 19 w sA [.ref (w.1 (31)), .int (x), .int (u)] (σ) (fun r σ9 => ∃ k, k < 8 ∧ u = nI k ∧ okR 1 255 x ∧ skA σ x ∧ σ9 = sfS σ (smF σ x (bC x / nI 2 + nI 1)) k ∧ r = tN σ9 (tS σ9 k)) (fun E σ9 => σ9 = σ ∧ smX σ x u E) := by
  refine MXI_of hst (cc := cX10_most) (maxL := 3) (ret := .int) (by decide) rfl (Nat.le_of_ble_eq_true rfl) ?_
  intro p e s m args below meth c A X hr hlk
  have X : CX p l s m args c w sA A cX10_most RX10 3 wsX10_most := X
  have C := X.1
  have hin_7 : ∀ u ∈ wsX70, u ∈ wsX10_most := by decide +kernel
  have hin_10 : ∀ u ∈ wsX100, u ∈ wsX10_most := by decide +kernel
  have hl_32 : Cond.fieldLink RX10 32 "LineageBench" "trees" "[LLineageBench$Tree;" ∈ wsX10_most := by decide +kernel
  have hl_151 : Cond.fieldLink RX10 151 "LineageBench$Tree" "nodes" "I" ∈ wsX10_most := by decide +kernel
  refine g_iload_n (pc9 := 1) C rfl 2 dX10_most_0 rfl rfl ?_
  refine x_callSv (rest := []) X hlk (pc9 := 4) rfl [.int (u)] (nn := 1) rfl dX10_most_1 (m_X10_needShelf l hst w sA σ u) gX10_most_X10_needShelf rfl (by decide +kernel) ⟨by decide, by decide⟩ rfl (Nat.le_of_ble_eq_true rfl) ⟨by decide, by decide⟩ ⟨by decide, by decide⟩ (fun E σ9 h => ⟨h.1, Or.inl ⟨h.2.1, h.2.2⟩⟩) (fun σ_1 q_1 => ?_)
  obtain ⟨qs_1, k, hb_k, hx_1⟩ := q_1
  rw [qs_1]
  clear qs_1
  subst hx_1
  refine g_iload_n (pc9 := 5) C rfl 1 dX10_most_4 rfl rfl ?_
  refine x_callSv (rest := []) X hlk (pc9 := 8) rfl [.int (x)] (nn := 1) rfl dX10_most_5 (m_X10_needShelfSet l hst w sA σ x) gX10_most_X10_needShelfSet rfl (by decide +kernel) ⟨by decide, by decide⟩ rfl (Nat.le_of_ble_eq_true rfl) ⟨by decide, by decide⟩ ⟨by decide, by decide⟩ (fun E σ9 h => ⟨h.1, Or.inr (Or.inl ⟨h.2.1, ⟨k, hb_k, rfl⟩, h.2.2⟩)⟩) (fun σ_2 q_2 => ?_)
  obtain ⟨qs_2, hset⟩ := q_2
  rw [qs_2]
  clear qs_2
  refine g_aload_n (pc9 := 9) C rfl 0 dX10_most_8 rfl rfl ?_
  refine g_iload_n (pc9 := 10) C rfl 1 dX10_most_9 rfl rfl ?_
  refine x_callVv (rest := []) X hlk (pc9 := 13) rfl (31) [.int (x)] (nn := 1) rfl dX10_most_10 (m_X10_needSameKinds l hst w sA σ hT x) gX10_most_X10_needSameKinds (by decide) (ce_31 w (σ)) rfl rfl rfl (by decide +kernel) ⟨by decide, by decide⟩ rfl (Nat.le_of_ble_eq_true rfl) ⟨by decide, by decide⟩ ⟨by decide, by decide⟩ (fun E σ9 h => ⟨h.1, Or.inr (Or.inr ⟨h.2.1, ⟨k, hb_k, rfl⟩, hset, h.2.2⟩)⟩) (fun σ_3 q_3 => ?_)
  obtain ⟨qs_3, hsk⟩ := q_3
  rw [qs_3]
  clear qs_3
  refine g_aload_n (pc9 := 14) C rfl 0 dX10_most_13 rfl rfl ?_
  refine g_iload_n (pc9 := 15) C rfl 1 dX10_most_14 rfl rfl ?_
  refine g_iload_n (pc9 := 16) C rfl 1 dX10_most_15 rfl rfl ?_
  refine g_callSi (nn := 1) (rest := [.int (x), .ref (w.1 (31))]) (pc9 := 19) C rfl [.int (x)] rfl dX10_most_16 (m_bitCount l w σ x) gX10_most_J6_bitCount_0f7a4 rfl rfl rfl (by decide +kernel) ⟨by decide, by decide⟩ rfl (Nat.le_of_ble_eq_true rfl) ⟨by decide, by decide⟩ (fun r_4 σ_4 q_4 => ?_)
  obtain ⟨qs_4, qr_4⟩ := q_4
  rw [qs_4, qr_4]
  clear qs_4 qr_4
  refine g_iconst (pc9 := 20) C rfl (nI (2)) dX10_most_19 rfl ?_
  refine g_idiv (pc9 := 21) C rfl dX10_most_20 (by decide) ?_
  refine g_iconst (pc9 := 22) C rfl (nI (1)) dX10_most_21 rfl ?_
  refine g_iadd (pc9 := 23) C rfl dX10_most_22 ?_
  refine g_callVv (nn := 2) (rest := []) (pc9 := 26) C rfl (31) [.int (x), .int (((bC x) / (nI (2))) + (nI (1)))] rfl dX10_most_23 (m_X10_gatherShared l w σ hT x (((bC x) / (nI (2))) + (nI (1)))) gX10_most_X10_gatherShared (by decide) (ce_31 w (σ)) rfl rfl rfl rfl rfl (by decide +kernel) ⟨by decide, by decide⟩ rfl (Nat.le_of_ble_eq_true rfl) ⟨by decide, by decide⟩ (fun σ_5 q_5 => ?_)
  replace q_5 : σ_5 = sN (sI σ (42) ((smF σ x (bC x / nI 2 + nI 1)).2)) (41) 1 (nI ((smF σ x (bC x / nI 2 + nI 1)).1)) := q_5
  rw [q_5]
  clear q_5
  refine g_aload_n (pc9 := 27) C rfl 0 dX10_most_26 rfl rfl ?_
  refine g_iload_n (pc9 := 28) C rfl 2 dX10_most_27 rfl rfl ?_
  refine g_callVv (nn := 1) (rest := []) (pc9 := 31) C rfl (31) [.int (nI (k))] rfl dX10_most_28 (m_X10_settleFamily l w σ (smF σ x (bC x / nI 2 + nI 1)) (hG hset hsk) k hb_k (hT.1 8 (by decide))) gX10_most_X10_settleFamily (by decide) (ce_31 w (sN (sI σ (42) ((smF σ x (bC x / nI 2 + nI 1)).2)) (41) 1 (nI ((smF σ x (bC x / nI 2 + nI 1)).1)))) rfl rfl rfl rfl rfl (by decide +kernel) ⟨by decide, by decide⟩ rfl (Nat.le_of_ble_eq_true rfl) ⟨by decide, by decide⟩ (fun σ_6 q_6 => ?_)
  replace q_6 : σ_6 = (sfS σ (smF σ x (bC x / nI 2 + nI 1)) k) := q_6
  rw [q_6]
  clear q_6
  refine g_aload_n (pc9 := 32) C rfl 0 dX10_most_31 rfl rfl ?_
  refine g_get (v := .ref (w.1 (40))) (pc9 := 35) C rfl (31) 3 dX10_most_32 (by decide) (ce_31 w ((sfS σ (smF σ x (bC x / nI 2 + nI 1)) k))) hin_10 hl_32 rfl (by decide) rfl rfl ?_
  refine g_iload_n (pc9 := 36) C rfl 2 dX10_most_35 rfl rfl ?_
  refine g_aald (pc9 := 37) C rfl (k) dX10_most_36 rfl (by omega) ?_
  have h9 : tS (sfS σ (smF σ x (bC x / nI 2 + nI 1)) k) k < 9 := sfS_t9 hT hb_k
  refine g_get (v := .int (nF (sfS σ (smF σ x (bC x / nI 2 + nI 1)) k) (64 + 5 * (tS ((sfS σ (smF σ x (bC x / nI 2 + nI 1)) k)) (k))) 4)) (pc9 := 40) C rfl (64 + 5 * (tS ((sfS σ (smF σ x (bC x / nI 2 + nI 1)) k)) (k))) 4 dX10_most_37 (by omega) (ce_tree w ((sfS σ (smF σ x (bC x / nI 2 + nI 1)) k)) ((tS ((sfS σ (smF σ x (bC x / nI 2 + nI 1)) k)) (k)))) hin_7 hl_151 rfl (by decide) rfl rfl ?_
  exact g_xi (by decide) (by decide) (g_ireturn C hr hlk dX10_most_40 ⟨k, hb_k, rfl, hset, hsk, rfl, rfl⟩)
abbrev biP (σ : St) (j : Nat) : Prop := ∀ v, v < nn σ j → tH σ j v ≤ nI 2
def lyX (σ : St) (x y : Int32) (E : String) : Prop := (E = xIOB ∧ (¬ okI 8 x ∨ ¬ okI 8 y)) ∨ (E = xISE ∧ ∃ i k, i < 8 ∧ k < 8 ∧ x = nI i ∧ y = nI k ∧ (tN σ (tS σ i) = 0 ∨ ¬ okP σ k ∨ ¬ (biP σ (tS σ i) ∧ biP σ (tS σ k)) ∨ ¬ aK σ (tS σ i) &&& (aK σ (tS σ k) ^^^ (-1)) = 0))
abbrev lyOk (σ : St) (i k : Nat) : Prop := ¬ tN σ (tS σ i) = 0 ∧ okP σ k ∧ biP σ (tS σ i) ∧ biP σ (tS σ k) ∧ aK σ (tS σ i) &&& (aK σ (tS σ k) ^^^ (-1)) = 0
abbrev lyG (σ : St) (j : Nat) := ftO (pp σ j) (nn σ j) (iA σ 60) (iA σ 61)
abbrev lyK (σ : St) (j : Nat) := ftO (pp σ j) (nn σ j) (iA σ 62) (iA σ 63)
def lyV (σ : St) (j t : Nat) : Int32 := (lyD (lyG σ j).1 (lyG σ j).2 (lyK σ t).1 (lyK σ t).2 (tK σ j) (tK σ t) (nn σ t) (nn σ j) (iA σ 59) NEV).2
abbrev lyS (σ : St) (j t : Nat) (h : Nat → Int32) : St := sI (sI (sI (sI (sI σ 60 (lyG σ j).1) 61 (lyG σ j).2) 62 (lyK σ t).1) 63 (lyK σ t).2) 59 h
def lyH (σ : St) : Prop := (∀ j, j < 9 → biP σ j → ∀ i, i < nn σ j → twoC (lyG σ j).1 (lyG σ j).2 47 i) ∧ ∀ i, i < 8 → okP σ i → biP σ (tS σ i) → nn σ (tS σ i) ≤ 23 ∧ ∀ v, v < nn σ (tS σ i) → twoC (lyK σ (tS σ i)).1 (lyK σ (tS σ i)).2 23 v
set_option maxRecDepth 100000 in
set_option maxHeartbeats 4000000 in
theorem m_X10_layingCost (l : Launch) (hst : l.stackTraces = false) (w : Wd) (sA : Nat → Nat) (σ : St) (hT : tOk σ) (hH : lyH σ) (x y : Int32) : MXI l yX10_layingCost wsX10_layingCost 8 6 w sA [.ref (w.1 (31)), .int (x), .int (y)] (σ) (fun r σ9 => ∃ i k, i < 8 ∧ k < 8 ∧ x = nI i ∧ y = nI k ∧ lyOk σ i k ∧ (∃ h, σ9 = lyS σ (tS σ i) (tS σ k) h) ∧ r = lyV σ (tS σ i) (tS σ k)) (fun E σ9 => σ9 = σ ∧ lyX σ x y E) := by
  refine MXI_of hst (cc := cX10_layingCost) (maxL := 5) (ret := .int) (by decide) rfl (Nat.le_of_ble_eq_true rfl) ?_
  intro p e s m args below meth c A X hr hlk
  have X : CX p l s m args c w sA A cX10_layingCost RX10 5 wsX10_layingCost := X
  have C := X.1
  have hin_10 : ∀ u ∈ wsX100, u ∈ wsX10_layingCost := by decide +kernel
  have hl_78 : Cond.fieldLink RX10 78 "LineageBench" "laying" "LLineageBench$Laying;" ∈ wsX10_layingCost := by decide +kernel
  refine g_iload_n (pc9 := 1) C rfl 1 dX10_layingCost_0 rfl rfl ?_
  refine x_callSv (rest := []) X hlk (pc9 := 4) rfl [.int (x)] (nn := 1) rfl dX10_layingCost_1 (m_X10_needShelf l hst w sA σ x) gX10_layingCost_X10_needShelf rfl (by decide +kernel) ⟨by decide, by decide⟩ rfl (Nat.le_of_ble_eq_true rfl) ⟨by decide, by decide⟩ ⟨by decide, by decide⟩ (fun E σ9 h => ⟨h.1, Or.inl ⟨h.2.1, Or.inl h.2.2⟩⟩) (fun σ_1 q_1 => ?_)
  obtain ⟨qs_1, i, hb_i, hx_1⟩ := q_1
  rw [qs_1]
  clear qs_1
  subst hx_1
  refine g_iload_n (pc9 := 5) C rfl 2 dX10_layingCost_4 rfl rfl ?_
  refine x_callSv (rest := []) X hlk (pc9 := 8) rfl [.int (y)] (nn := 1) rfl dX10_layingCost_5 (m_X10_needShelf l hst w sA σ y) gX10_layingCost_X10_needShelf rfl (by decide +kernel) ⟨by decide, by decide⟩ rfl (Nat.le_of_ble_eq_true rfl) ⟨by decide, by decide⟩ ⟨by decide, by decide⟩ (fun E σ9 h => ⟨h.1, Or.inl ⟨h.2.1, Or.inr h.2.2⟩⟩) (fun σ_2 q_2 => ?_)
  obtain ⟨qs_2, k, hb_k, hx_2⟩ := q_2
  rw [qs_2]
  clear qs_2
  subst hx_2
  refine g_aload_n (pc9 := 9) C rfl 0 dX10_layingCost_8 rfl rfl ?_
  refine g_iload_n (pc9 := 10) C rfl 1 dX10_layingCost_9 rfl rfl ?_
  refine x_callVr (rest := []) X hlk (pc9 := 13) rfl (31) [.int (nI (i))] (nn := 1) rfl dX10_layingCost_10 (m_X10_treeOn l hst w sA σ i hb_i (hT.s hb_i)) gX10_layingCost_X10_treeOn (by decide) (ce_31 w (σ)) rfl rfl rfl (by decide +kernel) ⟨by decide, by decide⟩ rfl (Nat.le_of_ble_eq_true rfl) ⟨by decide, by decide⟩ ⟨by decide, by decide⟩ (fun E σ9 h => ⟨h.1, Or.inr ⟨h.2.1, i, k, hb_i, hb_k, rfl, rfl, Or.inl h.2.2⟩⟩) (fun r_3 σ_3 q_3 => ?_)
  obtain ⟨qs_3, qr_3, hnz_i⟩ := q_3
  replace qs_3 : σ_3 = σ := qs_3
  replace qr_3 : r_3 = 64 + 5 * tS σ i := qr_3
  rw [qs_3, qr_3]
  clear qs_3 qr_3
  have ht_i := hT.s hb_i
  refine g_astore_n (pc9 := 14) C rfl [(3, .ref (w.1 (64 + 5 * (tS σ i)))), (0, .ref (w.1 (31))), (1, .int (nI (i))), (2, .int (nI (k)))] dX10_layingCost_13 rfl (by decide) rfl ?_
  refine g_aload_n (pc9 := 15) C rfl 1 dX10_layingCost_14 rfl rfl ?_
  refine g_iload_n (pc9 := 16) C rfl 3 dX10_layingCost_15 rfl rfl ?_
  refine x_callVr (rest := []) X hlk (pc9 := 19) rfl (31) [.int (nI (k))] (nn := 1) rfl dX10_layingCost_16 (m_X10_plainTreeOn l hst w sA σ k hb_k (hT.s hb_k)) gX10_layingCost_X10_plainTreeOn (by decide) (ce_31 w (σ)) rfl rfl rfl (by decide +kernel) ⟨by decide, by decide⟩ rfl (Nat.le_of_ble_eq_true rfl) ⟨by decide, by decide⟩ ⟨by decide, by decide⟩ (fun E σ9 h => ⟨h.1, Or.inr ⟨h.2.1, i, k, hb_i, hb_k, rfl, rfl, Or.inr (Or.inl h.2.2)⟩⟩) (fun r_4 σ_4 q_4 => ?_)
  obtain ⟨qs_4, qr_4, hnz_k⟩ := q_4
  replace qs_4 : σ_4 = σ := qs_4
  replace qr_4 : r_4 = 64 + 5 * tS σ k := qr_4
  rw [qs_4, qr_4]
  clear qs_4 qr_4
  have ht_k := hT.s hb_k
  refine g_astore (pc9 := 21) C rfl [(4, .ref (w.1 (64 + 5 * (tS σ k)))), (3, .ref (w.1 (64 + 5 * (tS σ i)))), (0, .ref (w.1 (31))), (1, .int (nI (i))), (2, .int (nI (k)))] dX10_layingCost_19 (by decide) rfl ?_
  refine g_aload_n (pc9 := 22) C rfl 1 dX10_layingCost_21 rfl rfl ?_
  refine g_callVi (nn := 0) (rest := []) (pc9 := 25) C rfl (64 + 5 * (tS σ i)) [] rfl dX10_layingCost_22 (m_X7_isBinary l w σ (tS σ i) ht_i (nn σ (tS σ i)) (hT.2 _ ht_i).1 (hT.2 _ ht_i).2.1) gX10_layingCost_X7_isBinary (by omega) (ce_tree w (σ) ((tS σ i))) rfl rfl rfl rfl rfl (by decide +kernel) ⟨by decide, by decide⟩ rfl (Nat.le_of_ble_eq_true rfl) ⟨by decide, by decide⟩ (fun r_5 σ_5 q_5 => ?_)
  obtain ⟨qs_5, qr_5⟩ := q_5
  rw [qs_5, qr_5]
  clear qs_5 qr_5
  refine g_if_eq (pc9 := 28) C rfl 36 dX10_layingCost_25 rfl (fun c_6 => ?_) (fun c_6 => ?_)
  · have hbi : ¬ (biP σ (tS σ i) ∧ biP σ (tS σ k)) := fun h => pI_no c_6 h.1
    exact g_throwW X hlk (cls := "java/lang/IllegalStateException") (text := "a tree is not binary") dX10_layingCost_36 dX10_layingCost_39 dX10_layingCost_40 dX10_layingCost_43 dX10_layingCost_46 (by decide) (by decide +kernel) (by decide +kernel) (by decide +kernel) (by decide +kernel) (by decide +kernel) (by decide +kernel) (by decide) (Nat.le_of_ble_eq_true rfl) (by decide) (by decide) (by decide) (by decide) ⟨rfl, Or.inr ⟨rfl, i, k, hb_i, hb_k, rfl, rfl, Or.inr (Or.inr (Or.inl hbi))⟩⟩
  · have hbi1 : biP σ (tS σ i) := pI_ye c_6
    refine g_aload (pc9 := 30) C rfl 0 dX10_layingCost_28 rfl ?_
    refine g_callVi (nn := 0) (rest := []) (pc9 := 33) C rfl (64 + 5 * (tS σ k)) [] rfl dX10_layingCost_30 (m_X7_isBinary l w σ (tS σ k) ht_k (nn σ (tS σ k)) (hT.2 _ ht_k).1 (hT.2 _ ht_k).2.1) gX10_layingCost_X7_isBinary (by omega) (ce_tree w (σ) ((tS σ k))) rfl rfl rfl rfl rfl (by decide +kernel) ⟨by decide, by decide⟩ rfl (Nat.le_of_ble_eq_true rfl) ⟨by decide, by decide⟩ (fun r_7 σ_7 q_7 => ?_)
    obtain ⟨qs_7, qr_7⟩ := q_7
    rw [qs_7, qr_7]
    clear qs_7 qr_7
    refine g_if_ne (pc9 := 36) C rfl 47 dX10_layingCost_33 rfl (fun c_8 => ?_) (fun c_8 => ?_)
    · have hbi2 : biP σ (tS σ k) := pI_ye c_8
      refine g_aload_n (pc9 := 48) C rfl 1 dX10_layingCost_47 rfl rfl ?_
      refine g_callVi (nn := 0) (rest := []) (pc9 := 51) C rfl (64 + 5 * (tS σ i)) [] rfl dX10_layingCost_48 (m_X7_allKinds l w σ (tS σ i) ht_i) gX10_layingCost_X7_allKinds (by omega) (ce_tree w (σ) ((tS σ i))) rfl rfl rfl rfl rfl (by decide +kernel) ⟨by decide, by decide⟩ rfl (Nat.le_of_ble_eq_true rfl) ⟨by decide, by decide⟩ (fun r_9 σ_9 q_9 => ?_)
      obtain ⟨qs_9, qr_9⟩ := q_9
      rw [qs_9, qr_9]
      clear qs_9 qr_9
      refine g_aload (pc9 := 53) C rfl 0 dX10_layingCost_51 rfl ?_
      refine g_callVi (nn := 0) (rest := [.int (aK σ (tS σ i))]) (pc9 := 56) C rfl (64 + 5 * (tS σ k)) [] rfl dX10_layingCost_53 (m_X7_allKinds l w σ (tS σ k) ht_k) gX10_layingCost_X7_allKinds (by omega) (ce_tree w (σ) ((tS σ k))) rfl rfl rfl rfl rfl (by decide +kernel) ⟨by decide, by decide⟩ rfl (Nat.le_of_ble_eq_true rfl) ⟨by decide, by decide⟩ (fun r_10 σ_10 q_10 => ?_)
      obtain ⟨qs_10, qr_10⟩ := q_10
      rw [qs_10, qr_10]
      clear qs_10 qr_10
      refine g_iconst (pc9 := 57) C rfl ((-1)) dX10_layingCost_56 rfl ?_
      refine g_ixor (pc9 := 58) C rfl dX10_layingCost_57 ?_
      refine g_iand (pc9 := 59) C rfl dX10_layingCost_58 ?_
      refine g_if_eq (pc9 := 62) C rfl 73 dX10_layingCost_59 rfl (fun c_11 => ?_) (fun c_11 => ?_)
      · have hka := c_11
        have hnp := hnz_k.1
        refine g_aload_n (pc9 := 74) C rfl 2 dX10_layingCost_73 rfl rfl ?_
        refine g_get (v := .ref (w.1 (58))) (pc9 := 77) C rfl (31) 10 dX10_layingCost_74 (by decide) (ce_31 w (σ)) hin_10 hl_78 rfl (by decide) rfl rfl ?_
        refine g_aload_n (pc9 := 78) C rfl 1 dX10_layingCost_77 rfl rfl ?_
        refine g_aload (pc9 := 80) C rfl 0 dX10_layingCost_78 rfl ?_
        refine g_callVi (nn := 2) (rest := []) (pc9 := 83) C rfl (58) [.ref (w.1 (64 + 5 * (tS σ i))), .ref (w.1 (64 + 5 * (tS σ k)))] rfl dX10_layingCost_80 (m_X2_leastCost l w σ (tS σ i) (tS σ k) ht_i ht_k (nn σ (tS σ i)) (nn σ (tS σ k)) (hT.2 _ ht_i).1 (hT.2 _ ht_k).1 (nn_pos (hT.2 _ ht_i) hnz_i) (nn_pos (hT.2 _ ht_k) hnz_k.1) (hT.2 _ ht_i).2.1 (hH.2 k hb_k hnz_k hbi2).1 (pp σ (tS σ i)) (pp σ (tS σ k)) (hT.2 _ ht_i).2.2.1 (hT.2 _ ht_k).2.2.1 (hH.1 _ ht_i hbi1) (hH.2 k hb_k hnz_k hbi2).2) gX10_layingCost_X2_leastCost (by decide) (ce_58 w (σ)) rfl rfl rfl rfl rfl (by decide +kernel) ⟨by decide, by decide⟩ rfl (Nat.le_of_ble_eq_true rfl) ⟨by decide, by decide⟩ (fun r_12 σ_12 q_12 => ?_)
        obtain ⟨h9, qs_12, qr_12⟩ := q_12
        replace qs_12 : σ_12 = lyS σ (tS σ i) (tS σ k) h9 := qs_12
        replace qr_12 : r_12 = lyV σ (tS σ i) (tS σ k) := qr_12
        rw [qs_12, qr_12]
        exact g_xi (by decide) (by decide) (g_ireturn C hr hlk dX10_layingCost_83 ⟨i, k, hb_i, hb_k, rfl, rfl, ⟨hnz_i, hnz_k, hbi1, hbi2, hka⟩, ⟨h9, rfl⟩, rfl⟩)
      · have hka := c_11
        exact g_throwW X hlk (cls := "java/lang/IllegalStateException") (text := "a kind of the genes is missing") dX10_layingCost_62 dX10_layingCost_65 dX10_layingCost_66 dX10_layingCost_69 dX10_layingCost_72 (by decide) (by decide +kernel) (by decide +kernel) (by decide +kernel) (by decide +kernel) (by decide +kernel) (by decide +kernel) (by decide) (Nat.le_of_ble_eq_true rfl) (by decide) (by decide) (by decide) (by decide) ⟨rfl, Or.inr ⟨rfl, i, k, hb_i, hb_k, rfl, rfl, Or.inr (Or.inr (Or.inr hka))⟩⟩
    · have hbi : ¬ (biP σ (tS σ i) ∧ biP σ (tS σ k)) := fun h => pI_no c_8 h.2
      exact g_throwW X hlk (cls := "java/lang/IllegalStateException") (text := "a tree is not binary") dX10_layingCost_36 dX10_layingCost_39 dX10_layingCost_40 dX10_layingCost_43 dX10_layingCost_46 (by decide) (by decide +kernel) (by decide +kernel) (by decide +kernel) (by decide +kernel) (by decide +kernel) (by decide +kernel) (by decide) (Nat.le_of_ble_eq_true rfl) (by decide) (by decide) (by decide) (by decide) ⟨rfl, Or.inr ⟨rfl, i, k, hb_i, hb_k, rfl, rfl, Or.inr (Or.inr (Or.inl hbi))⟩⟩
set_option maxRecDepth 100000 in
set_option maxHeartbeats 4000000 in
theorem m_X10_doublings (l : Launch) (hst : l.stackTraces = false) (w : Wd) (sA : Nat → Nat) (σ : St) (hT : tOk σ) (hH : lyH σ) (x y : Int32) : MXI l yX10_doublings wsX10_doublings 9 6 w sA [.ref (w.1 (31)), .int (x), .int (y)] (σ) (fun r σ9 => ∃ i k, i < 8 ∧ k < 8 ∧ x = nI i ∧ y = nI k ∧ lyOk σ i k ∧ (∃ h, σ9 = lyS σ (tS σ i) (tS σ k) h) ∧ r = lyV σ (tS σ i) (tS σ k) / nI 10000) (fun E σ9 => σ9 = σ ∧ lyX σ x y E) := by
  refine MXI_of hst (cc := cX10_doublings) (maxL := 3) (ret := .int) (by decide) rfl (Nat.le_of_ble_eq_true rfl) ?_
  intro p e s m args below meth c A X hr hlk
  have X : CX p l s m args c w sA A cX10_doublings RX10 3 wsX10_doublings := X
  have C := X.1
  refine g_aload_n (pc9 := 1) C rfl 0 dX10_doublings_0 rfl rfl ?_
  refine g_iload_n (pc9 := 2) C rfl 1 dX10_doublings_1 rfl rfl ?_
  refine g_iload_n (pc9 := 3) C rfl 2 dX10_doublings_2 rfl rfl ?_
  refine x_callVi (rest := []) X hlk (pc9 := 6) rfl (31) [.int (x), .int (y)] (nn := 2) rfl dX10_doublings_3 (m_X10_layingCost l hst w sA σ hT hH x y) gX10_doublings_X10_layingCost (by decide) (ce_31 w (σ)) rfl rfl rfl (by decide +kernel) ⟨by decide, by decide⟩ rfl (Nat.le_of_ble_eq_true rfl) ⟨by decide, by decide⟩ ⟨by decide, by decide⟩ (fun E σ9 h => h) (fun r_1 σ_1 q_1 => ?_)
  obtain ⟨i, k, hi, hk, rfl, rfl, hok, ⟨h9, qs_1⟩, qr_1⟩ := q_1
  rw [qs_1, qr_1]
  refine g_sipush (pc9 := 9) C rfl (nI (10000)) dX10_doublings_6 rfl ?_
  refine g_idiv (pc9 := 10) C rfl dX10_doublings_9 (by decide) ?_
  exact g_xi (by decide) (by decide) (g_ireturn C hr hlk dX10_doublings_10 ⟨i, k, hi, hk, rfl, rfl, hok, ⟨h9, rfl⟩, rfl⟩)
set_option maxRecDepth 100000 in
set_option maxHeartbeats 4000000 in
theorem m_X10_losses (l : Launch) (hst : l.stackTraces = false) (w : Wd) (sA : Nat → Nat) (σ : St) (hT : tOk σ) (hH : lyH σ) (x y : Int32) : MXI l yX10_losses wsX10_losses 9 6 w sA [.ref (w.1 (31)), .int (x), .int (y)] (σ) (fun r σ9 => ∃ i k, i < 8 ∧ k < 8 ∧ x = nI i ∧ y = nI k ∧ lyOk σ i k ∧ (∃ h, σ9 = lyS σ (tS σ i) (tS σ k) h) ∧ r = lyV σ (tS σ i) (tS σ k) - lyV σ (tS σ i) (tS σ k) / nI 10000 * nI 10000) (fun E σ9 => σ9 = σ ∧ lyX σ x y E) := by
  refine MXI_of hst (cc := cX10_losses) (maxL := 3) (ret := .int) (by decide) rfl (Nat.le_of_ble_eq_true rfl) ?_
  intro p e s m args below meth c A X hr hlk
  have X : CX p l s m args c w sA A cX10_losses RX10 3 wsX10_losses := X
  have C := X.1
  refine g_aload_n (pc9 := 1) C rfl 0 dX10_losses_0 rfl rfl ?_
  refine g_iload_n (pc9 := 2) C rfl 1 dX10_losses_1 rfl rfl ?_
  refine g_iload_n (pc9 := 3) C rfl 2 dX10_losses_2 rfl rfl ?_
  refine x_callVi (rest := []) X hlk (pc9 := 6) rfl (31) [.int (x), .int (y)] (nn := 2) rfl dX10_losses_3 (m_X10_layingCost l hst w sA σ hT hH x y) gX10_losses_X10_layingCost (by decide) (ce_31 w (σ)) rfl rfl rfl (by decide +kernel) ⟨by decide, by decide⟩ rfl (Nat.le_of_ble_eq_true rfl) ⟨by decide, by decide⟩ ⟨by decide, by decide⟩ (fun E σ9 h => h) (fun r_1 σ_1 q_1 => ?_)
  obtain ⟨i, k, hi, hk, rfl, rfl, hok, ⟨h9, qs_1⟩, qr_1⟩ := q_1
  rw [qs_1, qr_1]
  refine g_sipush (pc9 := 9) C rfl (nI (10000)) dX10_losses_6 rfl ?_
  refine g_irem (pc9 := 10) C rfl dX10_losses_9 (by decide) ?_
  exact g_xi (by decide) (by decide) (g_ireturn C hr hlk dX10_losses_10 ⟨i, k, hi, hk, rfl, rfl, hok, ⟨h9, rfl⟩, rfl⟩)

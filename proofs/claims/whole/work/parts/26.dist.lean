/-! Distances: how many kinds count at 53.0, the distances at 54 -/
abbrev dS (σ : St) (a b : Nat) : Int32 := iA σ 54 (a * 12 + b)
def mx (a b : Int32) : Int32 := if a < b then b else a
def tgP (x y z : Int32) : Prop := (x = y ∧ x = mx x (mx y z)) ∨ (¬ x = y ∧ z = mx x (mx y z) ∧ (x = mx x (mx y z) ∨ y = mx x (mx y z)))
set_option maxRecDepth 100000 in
set_option maxHeartbeats 4000000 in
theorem m_X0_d (l : Launch) (w : Wd) (σ : St) (a b : Nat) (ha : a < 12) (hb : b < 12) : MI l yX0_d wsX0_d (rmL 1) w [.ref (w.1 (53)), .int (nI (a)), .int (nI (b))] (σ) (fun r σ9 => σ9 = σ ∧ r = dS σ a b) := by
  refine MI_of (cc := cX0_d) (maxL := 3) (ret := .int) (by decide) rfl (Nat.le_of_ble_eq_true rfl) ?_
  intro p e s m args below meth c A C hr hlk
  have C : Cx p s m args c w A cX0_d RX0 3 wsX0_d := C
  have hin_0 : ∀ u ∈ wsX00, u ∈ wsX0_d := by decide +kernel
  have hl_15 : Cond.fieldLink RX0 15 "LineageBench$Distances" "between" "[I" ∈ wsX0_d := by decide +kernel
  refine g_aload_n (pc9 := 1) C rfl 0 dX0_d_0 rfl rfl ?_
  refine g_get (v := .ref (w.1 (54))) (pc9 := 4) C rfl (53) 1 dX0_d_1 (by decide) (ce_53 w (σ)) hin_0 hl_15 rfl (by decide) rfl rfl ?_
  refine g_iload_n (pc9 := 5) C rfl 1 dX0_d_4 rfl rfl ?_
  refine g_bipush (pc9 := 7) C rfl (nI (12)) dX0_d_5 rfl ?_
  refine g_imulN (pc9 := 8) C rfl dX0_d_7 ?_
  refine g_iload_n (pc9 := 9) C rfl 2 dX0_d_8 rfl rfl ?_
  refine g_iaddN (pc9 := 10) C rfl dX0_d_9 ?_
  refine g_iald (x := (iA σ (54)) ((a * 12) + b)) (pc9 := 11) C rfl (54) ((a * 12) + b) dX0_d_10 (by decide) (ce_54 w (σ)) rfl (by omega) (by decide) rfl ?_
  exact g_ireturn C hr hlk dX0_d_11 ⟨rfl, rfl⟩
set_option maxRecDepth 100000 in
set_option maxHeartbeats 4000000 in
theorem m_X0_setBetween (l : Launch) (w : Wd) (σ : St) (a b : Nat) (ha : a < 12) (hb : b < 12) (x : Int32) : MV l yX0_setBetween wsX0_setBetween (rmL 1) w [.ref (w.1 (53)), .int (nI (a)), .int (nI (b)), .int (x)] (σ) (fun σ9 => σ9 = sI σ 54 (upd (upd (iA σ 54) (a * 12 + b) x) (b * 12 + a) x)) := by
  refine MV_of (cc := cX0_setBetween) (maxL := 4) (by decide) rfl (Nat.le_of_ble_eq_true rfl) ?_
  intro p e s m args below meth c A C hr hlk
  have C : Cx p s m args c w A cX0_setBetween RX0 4 wsX0_setBetween := C
  have hin_0 : ∀ u ∈ wsX00, u ∈ wsX0_setBetween := by decide +kernel
  have hl_15 : Cond.fieldLink RX0 15 "LineageBench$Distances" "between" "[I" ∈ wsX0_setBetween := by decide +kernel
  refine g_aload_n (pc9 := 1) C rfl 0 dX0_setBetween_0 rfl rfl ?_
  refine g_get (v := .ref (w.1 (54))) (pc9 := 4) C rfl (53) 1 dX0_setBetween_1 (by decide) (ce_53 w (σ)) hin_0 hl_15 rfl (by decide) rfl rfl ?_
  refine g_iload_n (pc9 := 5) C rfl 1 dX0_setBetween_4 rfl rfl ?_
  refine g_bipush (pc9 := 7) C rfl (nI (12)) dX0_setBetween_5 rfl ?_
  refine g_imulN (pc9 := 8) C rfl dX0_setBetween_7 ?_
  refine g_iload_n (pc9 := 9) C rfl 2 dX0_setBetween_8 rfl rfl ?_
  refine g_iaddN (pc9 := 10) C rfl dX0_setBetween_9 ?_
  refine g_iload_n (pc9 := 11) C rfl 3 dX0_setBetween_10 rfl rfl ?_
  refine g_iast (pc9 := 12) C rfl (54) ((a * 12) + b) (iA σ (54)) dX0_setBetween_11 (by decide) (fun _ => rfl) (ce_54 w (σ)) rfl (by omega) (by decide) rfl ?_
  refine g_aload_n (pc9 := 13) C rfl 0 dX0_setBetween_12 rfl rfl ?_
  refine g_get (v := .ref (w.1 (54))) (pc9 := 16) C rfl (53) 1 dX0_setBetween_13 (by decide) (ce_53 w (sI σ (54) (upd (iA σ (54)) ((a * 12) + b) (x)))) hin_0 hl_15 rfl (by decide) rfl rfl ?_
  refine g_iload_n (pc9 := 17) C rfl 2 dX0_setBetween_16 rfl rfl ?_
  refine g_bipush (pc9 := 19) C rfl (nI (12)) dX0_setBetween_17 rfl ?_
  refine g_imulN (pc9 := 20) C rfl dX0_setBetween_19 ?_
  refine g_iload_n (pc9 := 21) C rfl 1 dX0_setBetween_20 rfl rfl ?_
  refine g_iaddN (pc9 := 22) C rfl dX0_setBetween_21 ?_
  refine g_iload_n (pc9 := 23) C rfl 3 dX0_setBetween_22 rfl rfl ?_
  refine g_iast (pc9 := 24) C rfl (54) ((b * 12) + a) (upd (iA σ (54)) ((a * 12) + b) (x)) dX0_setBetween_23 (by decide) (fun _ => rfl) (ce_54 w (sI σ (54) (upd (iA σ (54)) ((a * 12) + b) (x)))) rfl (by omega) (by decide) (iA_s) ?_
  rw [sI_sI (a := 54)]
  exact g_return C hr hlk dX0_setBetween_24 rfl
set_option maxRecDepth 100000 in
set_option maxHeartbeats 4000000 in
theorem m_X0_twoGreatestAreEqual (l : Launch) (w : Wd) (σ : St) (x y z : Int32) : MI l yX0_twoGreatestAreEqual wsX0_twoGreatestAreEqual (rmL 1) w [.int (x), .int (y), .int (z)] (σ) (fun r σ9 => σ9 = σ ∧ r = pI (tgP x y z)) := by
  refine MI_of (cc := cX0_twoGreatestAreEqual) (maxL := 4) (ret := .boolean) (by decide) rfl (Nat.le_of_ble_eq_true rfl) ?_
  intro p e s m args below meth c A C hr hlk
  have C : Cx p s m args c w A cX0_twoGreatestAreEqual RX0 4 wsX0_twoGreatestAreEqual := C
  refine g_iload_n (pc9 := 1) C rfl 0 dX0_twoGreatestAreEqual_0 rfl rfl ?_
  refine g_iload_n (pc9 := 2) C rfl 1 dX0_twoGreatestAreEqual_1 rfl rfl ?_
  refine g_iload_n (pc9 := 3) C rfl 2 dX0_twoGreatestAreEqual_2 rfl rfl ?_
  refine g_mmax (pc9 := 6) C rfl dX0_twoGreatestAreEqual_3 (by decide +kernel) (by decide +kernel) (by decide +kernel) (by decide +kernel) (by decide) (Nat.le_of_ble_eq_true rfl) (by decide) (by decide) ?_
  refine g_mmax (pc9 := 9) C rfl dX0_twoGreatestAreEqual_6 (by decide +kernel) (by decide +kernel) (by decide +kernel) (by decide +kernel) (by decide) (Nat.le_of_ble_eq_true rfl) (by decide) (by decide) ?_
  show G p l e _ s m args below meth c _ w A _ σ 0 0 9 _ [.int (mx x (mx y z))]
  generalize hg : mx x (mx y z) = g
  refine g_istore_n (pc9 := 10) C rfl [(3, .int (g)), (0, .int (x)), (1, .int (y)), (2, .int (z))] dX0_twoGreatestAreEqual_9 rfl (by decide) rfl ?_
  refine g_iload_n (pc9 := 11) C rfl 1 dX0_twoGreatestAreEqual_10 rfl rfl ?_
  refine g_iload_n (pc9 := 12) C rfl 2 dX0_twoGreatestAreEqual_11 rfl rfl ?_
  refine g_icmp_ne (pc9 := 15) C rfl 28 dX0_twoGreatestAreEqual_12 rfl (fun c_1 => ?_) (fun c_1 => ?_)
  · refine g_iload_n (pc9 := 29) C rfl 3 dX0_twoGreatestAreEqual_28 rfl rfl ?_
    refine g_iload_n (pc9 := 30) C rfl 0 dX0_twoGreatestAreEqual_29 rfl rfl ?_
    refine g_icmp_ne (pc9 := 33) C rfl 47 dX0_twoGreatestAreEqual_30 rfl (fun c_2 => ?_) (fun c_2 => ?_)
    · refine g_iconst (pc9 := 48) C rfl (nI (0)) dX0_twoGreatestAreEqual_47 rfl ?_
      exact g_zreturn C hr hlk dX0_twoGreatestAreEqual_48 (by decide) ⟨rfl, by unfold tgP; rw [hg]; first | exact (pI_t (by first | exact Or.inl ⟨by assumption, by assumption⟩ | exact Or.inr ⟨by assumption, by assumption, Or.inl (by assumption)⟩ | exact Or.inr ⟨by assumption, by assumption, Or.inr (by assumption)⟩)).symm | exact (pI_f (by rintro (⟨h1, h2⟩ | ⟨h1, h2, h3 | h3⟩) <;> contradiction)).symm⟩
    · refine g_iload_n (pc9 := 34) C rfl 1 dX0_twoGreatestAreEqual_33 rfl rfl ?_
      refine g_iload_n (pc9 := 35) C rfl 0 dX0_twoGreatestAreEqual_34 rfl rfl ?_
      refine g_icmp_eq (pc9 := 38) C rfl 43 dX0_twoGreatestAreEqual_35 rfl (fun c_3 => ?_) (fun c_3 => ?_)
      · refine g_iconst (pc9 := 44) C rfl (nI (1)) dX0_twoGreatestAreEqual_43 rfl ?_
        refine g_goto C 48 dX0_twoGreatestAreEqual_44 rfl ?_
        exact g_zreturn C hr hlk dX0_twoGreatestAreEqual_48 (by decide) ⟨rfl, by unfold tgP; rw [hg]; first | exact (pI_t (by first | exact Or.inl ⟨by assumption, by assumption⟩ | exact Or.inr ⟨by assumption, by assumption, Or.inl (by assumption)⟩ | exact Or.inr ⟨by assumption, by assumption, Or.inr (by assumption)⟩)).symm | exact (pI_f (by rintro (⟨h1, h2⟩ | ⟨h1, h2, h3 | h3⟩) <;> contradiction)).symm⟩
      · refine g_iload_n (pc9 := 39) C rfl 2 dX0_twoGreatestAreEqual_38 rfl rfl ?_
        refine g_iload_n (pc9 := 40) C rfl 0 dX0_twoGreatestAreEqual_39 rfl rfl ?_
        refine g_icmp_ne (pc9 := 43) C rfl 47 dX0_twoGreatestAreEqual_40 rfl (fun c_4 => ?_) (fun c_4 => ?_)
        · refine g_iconst (pc9 := 48) C rfl (nI (0)) dX0_twoGreatestAreEqual_47 rfl ?_
          exact g_zreturn C hr hlk dX0_twoGreatestAreEqual_48 (by decide) ⟨rfl, by unfold tgP; rw [hg]; first | exact (pI_t (by first | exact Or.inl ⟨by assumption, by assumption⟩ | exact Or.inr ⟨by assumption, by assumption, Or.inl (by assumption)⟩ | exact Or.inr ⟨by assumption, by assumption, Or.inr (by assumption)⟩)).symm | exact (pI_f (by rintro (⟨h1, h2⟩ | ⟨h1, h2, h3 | h3⟩) <;> contradiction)).symm⟩
        · refine g_iconst (pc9 := 44) C rfl (nI (1)) dX0_twoGreatestAreEqual_43 rfl ?_
          refine g_goto C 48 dX0_twoGreatestAreEqual_44 rfl ?_
          exact g_zreturn C hr hlk dX0_twoGreatestAreEqual_48 (by decide) ⟨rfl, by unfold tgP; rw [hg]; first | exact (pI_t (by first | exact Or.inl ⟨by assumption, by assumption⟩ | exact Or.inr ⟨by assumption, by assumption, Or.inl (by assumption)⟩ | exact Or.inr ⟨by assumption, by assumption, Or.inr (by assumption)⟩)).symm | exact (pI_f (by rintro (⟨h1, h2⟩ | ⟨h1, h2, h3 | h3⟩) <;> contradiction)).symm⟩
  · refine g_iload_n (pc9 := 16) C rfl 1 dX0_twoGreatestAreEqual_15 rfl rfl ?_
    refine g_iload_n (pc9 := 17) C rfl 0 dX0_twoGreatestAreEqual_16 rfl rfl ?_
    refine g_icmp_ne (pc9 := 20) C rfl 24 dX0_twoGreatestAreEqual_17 rfl (fun c_5 => ?_) (fun c_5 => ?_)
    · refine g_iconst (pc9 := 25) C rfl (nI (0)) dX0_twoGreatestAreEqual_24 rfl ?_
      refine g_goto C 48 dX0_twoGreatestAreEqual_25 rfl ?_
      exact g_zreturn C hr hlk dX0_twoGreatestAreEqual_48 (by decide) ⟨rfl, by unfold tgP; rw [hg]; first | exact (pI_t (by first | exact Or.inl ⟨by assumption, by assumption⟩ | exact Or.inr ⟨by assumption, by assumption, Or.inl (by assumption)⟩ | exact Or.inr ⟨by assumption, by assumption, Or.inr (by assumption)⟩)).symm | exact (pI_f (by rintro (⟨h1, h2⟩ | ⟨h1, h2, h3 | h3⟩) <;> contradiction)).symm⟩
    · refine g_iconst (pc9 := 21) C rfl (nI (1)) dX0_twoGreatestAreEqual_20 rfl ?_
      refine g_goto C 48 dX0_twoGreatestAreEqual_21 rfl ?_
      exact g_zreturn C hr hlk dX0_twoGreatestAreEqual_48 (by decide) ⟨rfl, by unfold tgP; rw [hg]; first | exact (pI_t (by first | exact Or.inl ⟨by assumption, by assumption⟩ | exact Or.inr ⟨by assumption, by assumption, Or.inl (by assumption)⟩ | exact Or.inr ⟨by assumption, by assumption, Or.inr (by assumption)⟩)).symm | exact (pI_f (by rintro (⟨h1, h2⟩ | ⟨h1, h2, h3 | h3⟩) <;> contradiction)).symm⟩
def fpP (σ : St) (i j k t : Nat) : Prop := tgP (dS σ i j + dS σ k t) (dS σ i k + dS σ j t) (dS σ i t + dS σ j k)
set_option maxRecDepth 100000 in
set_option maxHeartbeats 4000000 in
theorem m_X0_fourPointsHoldFrom (l : Launch) (w : Wd) (σ : St) (N : Nat) (hN : nF σ 53 0 = nI N) (h12 : N ≤ 12) (i j k : Nat) (hi : i < N) (hj : j < N) (hk : k < N) : MI l yX0_fourPointsHoldFrom wsX0_fourPointsHoldFrom (rmL 2) w [.ref (w.1 (53)), .int (nI (i)), .int (nI (j)), .int (nI (k))] (σ) (fun r σ9 => σ9 = σ ∧ r = pI (∀ t, k ≤ t → t < N → fpP σ i j k t)) := by
  refine MI_of (cc := cX0_fourPointsHoldFrom) (maxL := 5) (ret := .boolean) (by decide) rfl (Nat.le_of_ble_eq_true rfl) ?_
  intro p e s m args below meth c A C hr hlk
  have C : Cx p s m args c w A cX0_fourPointsHoldFrom RX0 5 wsX0_fourPointsHoldFrom := C
  have hin_0 : ∀ u ∈ wsX00, u ∈ wsX0_fourPointsHoldFrom := by decide +kernel
  have hl_9 : Cond.fieldLink RX0 9 "LineageBench$Distances" "counting" "I" ∈ wsX0_fourPointsHoldFrom := by decide +kernel
  refine g_iload_n (pc9 := 1) C rfl 3 dX0_fourPointsHoldFrom_0 rfl rfl ?_
  refine g_istore (pc9 := 3) C rfl [(4, .int (nI (k))), (0, .ref (w.1 (53))), (1, .int (nI (i))), (2, .int (nI (j))), (3, .int (nI (k)))] dX0_fourPointsHoldFrom_1 (by decide) rfl ?_
  refine g_lp1 (α := Nat) (fun t => k ≤ t ∧ t ≤ N ∧ ∀ u, k ≤ u → u < t → fpP σ i j k u) (fun t => N - t) (fun t => G p l e _ s m args below meth c _ w A _ (σ) 0 0 3 [(4, .int (nI (t))), (0, .ref (w.1 (53))), (1, .int (nI (i))), (2, .int (nI (j))), (3, .int (nI (k)))] []) (fun t hI ih => ?_) (k) ⟨Nat.le_refl _, by omega, fun u h1 h2 => absurd h1 (by omega)⟩
  obtain ⟨ht1, ht, hu⟩ := hI
  refine g_iload (pc9 := 5) C rfl 0 dX0_fourPointsHoldFrom_3 rfl ?_
  refine g_aload_n (pc9 := 6) C rfl 1 dX0_fourPointsHoldFrom_5 rfl rfl ?_
  refine g_get (v := .int (nI (N))) (pc9 := 9) C rfl (53) 0 dX0_fourPointsHoldFrom_6 (by decide) (ce_53 w (σ)) hin_0 hl_9 rfl (by decide) rfl (congrArg (fun z => some (Value.int z)) hN) ?_
  refine g_icmp_ge (pc9 := 12) C rfl 68 dX0_fourPointsHoldFrom_9 rfl (fun c_1 => ?_) (fun c_1 => ?_)
  · replace c_1 := (nI_leI (by omega) (by omega)).mp c_1
    refine g_iconst (pc9 := 69) C rfl (nI (1)) dX0_fourPointsHoldFrom_68 rfl ?_
    exact g_zreturn C hr hlk dX0_fourPointsHoldFrom_69 (by decide) ⟨rfl, (pI_t (fun u h1 h2 => hu u h1 (by omega))).symm⟩
  · replace c_1 := (not_congr (nI_leI (by omega) (by omega))).mp c_1
    refine g_aload_n (pc9 := 13) C rfl 1 dX0_fourPointsHoldFrom_12 rfl rfl ?_
    refine g_iload_n (pc9 := 14) C rfl 2 dX0_fourPointsHoldFrom_13 rfl rfl ?_
    refine g_iload_n (pc9 := 15) C rfl 3 dX0_fourPointsHoldFrom_14 rfl rfl ?_
    refine g_callVi (nn := 2) (rest := []) (pc9 := 18) C rfl (53) [.int (nI (i)), .int (nI (j))] rfl dX0_fourPointsHoldFrom_15 (m_X0_d l w σ (i) (j) (by omega) (by omega)) gX0_fourPointsHoldFrom_X0_d (by decide) (ce_53 w (σ)) rfl rfl rfl rfl rfl (by decide +kernel) ⟨by decide, by decide⟩ rfl (Nat.le_of_ble_eq_true rfl) ⟨by decide, by decide⟩ (fun r_2 σ_2 q_2 => ?_)
    obtain ⟨qs_2, qr_2⟩ := q_2
    rw [qs_2, qr_2]
    clear qs_2 qr_2
    refine g_aload_n (pc9 := 19) C rfl 1 dX0_fourPointsHoldFrom_18 rfl rfl ?_
    refine g_iload_n (pc9 := 20) C rfl 4 dX0_fourPointsHoldFrom_19 rfl rfl ?_
    refine g_iload (pc9 := 22) C rfl 0 dX0_fourPointsHoldFrom_20 rfl ?_
    refine g_callVi (nn := 2) (rest := [.int (dS σ (i) (j))]) (pc9 := 25) C rfl (53) [.int (nI (k)), .int (nI (t))] rfl dX0_fourPointsHoldFrom_22 (m_X0_d l w σ (k) (t) (by omega) (by omega)) gX0_fourPointsHoldFrom_X0_d (by decide) (ce_53 w (σ)) rfl rfl rfl rfl rfl (by decide +kernel) ⟨by decide, by decide⟩ rfl (Nat.le_of_ble_eq_true rfl) ⟨by decide, by decide⟩ (fun r_3 σ_3 q_3 => ?_)
    obtain ⟨qs_3, qr_3⟩ := q_3
    rw [qs_3, qr_3]
    clear qs_3 qr_3
    refine g_iadd (pc9 := 26) C rfl dX0_fourPointsHoldFrom_25 ?_
    refine g_aload_n (pc9 := 27) C rfl 1 dX0_fourPointsHoldFrom_26 rfl rfl ?_
    refine g_iload_n (pc9 := 28) C rfl 2 dX0_fourPointsHoldFrom_27 rfl rfl ?_
    refine g_iload_n (pc9 := 29) C rfl 4 dX0_fourPointsHoldFrom_28 rfl rfl ?_
    refine g_callVi (nn := 2) (rest := [.int ((dS σ (i) (j)) + (dS σ (k) (t)))]) (pc9 := 32) C rfl (53) [.int (nI (i)), .int (nI (k))] rfl dX0_fourPointsHoldFrom_29 (m_X0_d l w σ (i) (k) (by omega) (by omega)) gX0_fourPointsHoldFrom_X0_d (by decide) (ce_53 w (σ)) rfl rfl rfl rfl rfl (by decide +kernel) ⟨by decide, by decide⟩ rfl (Nat.le_of_ble_eq_true rfl) ⟨by decide, by decide⟩ (fun r_4 σ_4 q_4 => ?_)
    obtain ⟨qs_4, qr_4⟩ := q_4
    rw [qs_4, qr_4]
    clear qs_4 qr_4
    refine g_aload_n (pc9 := 33) C rfl 1 dX0_fourPointsHoldFrom_32 rfl rfl ?_
    refine g_iload_n (pc9 := 34) C rfl 3 dX0_fourPointsHoldFrom_33 rfl rfl ?_
    refine g_iload (pc9 := 36) C rfl 0 dX0_fourPointsHoldFrom_34 rfl ?_
    refine g_callVi (nn := 2) (rest := [.int (dS σ (i) (k)), .int ((dS σ (i) (j)) + (dS σ (k) (t)))]) (pc9 := 39) C rfl (53) [.int (nI (j)), .int (nI (t))] rfl dX0_fourPointsHoldFrom_36 (m_X0_d l w σ (j) (t) (by omega) (by omega)) gX0_fourPointsHoldFrom_X0_d (by decide) (ce_53 w (σ)) rfl rfl rfl rfl rfl (by decide +kernel) ⟨by decide, by decide⟩ rfl (Nat.le_of_ble_eq_true rfl) ⟨by decide, by decide⟩ (fun r_5 σ_5 q_5 => ?_)
    obtain ⟨qs_5, qr_5⟩ := q_5
    rw [qs_5, qr_5]
    clear qs_5 qr_5
    refine g_iadd (pc9 := 40) C rfl dX0_fourPointsHoldFrom_39 ?_
    refine g_aload_n (pc9 := 41) C rfl 1 dX0_fourPointsHoldFrom_40 rfl rfl ?_
    refine g_iload_n (pc9 := 42) C rfl 2 dX0_fourPointsHoldFrom_41 rfl rfl ?_
    refine g_iload (pc9 := 44) C rfl 0 dX0_fourPointsHoldFrom_42 rfl ?_
    refine g_callVi (nn := 2) (rest := [.int ((dS σ (i) (k)) + (dS σ (j) (t))), .int ((dS σ (i) (j)) + (dS σ (k) (t)))]) (pc9 := 47) C rfl (53) [.int (nI (i)), .int (nI (t))] rfl dX0_fourPointsHoldFrom_44 (m_X0_d l w σ (i) (t) (by omega) (by omega)) gX0_fourPointsHoldFrom_X0_d (by decide) (ce_53 w (σ)) rfl rfl rfl rfl rfl (by decide +kernel) ⟨by decide, by decide⟩ rfl (Nat.le_of_ble_eq_true rfl) ⟨by decide, by decide⟩ (fun r_6 σ_6 q_6 => ?_)
    obtain ⟨qs_6, qr_6⟩ := q_6
    rw [qs_6, qr_6]
    clear qs_6 qr_6
    refine g_aload_n (pc9 := 48) C rfl 1 dX0_fourPointsHoldFrom_47 rfl rfl ?_
    refine g_iload_n (pc9 := 49) C rfl 3 dX0_fourPointsHoldFrom_48 rfl rfl ?_
    refine g_iload_n (pc9 := 50) C rfl 4 dX0_fourPointsHoldFrom_49 rfl rfl ?_
    refine g_callVi (nn := 2) (rest := [.int (dS σ (i) (t)), .int ((dS σ (i) (k)) + (dS σ (j) (t))), .int ((dS σ (i) (j)) + (dS σ (k) (t)))]) (pc9 := 53) C rfl (53) [.int (nI (j)), .int (nI (k))] rfl dX0_fourPointsHoldFrom_50 (m_X0_d l w σ (j) (k) (by omega) (by omega)) gX0_fourPointsHoldFrom_X0_d (by decide) (ce_53 w (σ)) rfl rfl rfl rfl rfl (by decide +kernel) ⟨by decide, by decide⟩ rfl (Nat.le_of_ble_eq_true rfl) ⟨by decide, by decide⟩ (fun r_7 σ_7 q_7 => ?_)
    obtain ⟨qs_7, qr_7⟩ := q_7
    rw [qs_7, qr_7]
    clear qs_7 qr_7
    refine g_iadd (pc9 := 54) C rfl dX0_fourPointsHoldFrom_53 ?_
    refine g_callSi (nn := 3) (rest := []) (pc9 := 57) C rfl [.int ((dS σ (i) (j)) + (dS σ (k) (t))), .int ((dS σ (i) (k)) + (dS σ (j) (t))), .int ((dS σ (i) (t)) + (dS σ (j) (k)))] rfl dX0_fourPointsHoldFrom_54 (m_X0_twoGreatestAreEqual l w σ ((dS σ (i) (j)) + (dS σ (k) (t))) ((dS σ (i) (k)) + (dS σ (j) (t))) ((dS σ (i) (t)) + (dS σ (j) (k)))) gX0_fourPointsHoldFrom_X0_twoGreatestAreEqual rfl rfl rfl (by decide +kernel) ⟨by decide, by decide⟩ rfl (Nat.le_of_ble_eq_true rfl) ⟨by decide, by decide⟩ (fun r_8 σ_8 q_8 => ?_)
    obtain ⟨qs_8, qr_8⟩ := q_8
    rw [qs_8, qr_8]
    clear qs_8 qr_8
    refine g_if_ne (pc9 := 60) C rfl 62 dX0_fourPointsHoldFrom_57 rfl (fun c_9 => ?_) (fun c_9 => ?_)
    · have hye : (fpP σ i j k t) := pI_ye c_9
      have hu2 : ∀ u, k ≤ u → u < t + 1 → fpP σ i j k u := fun u h1 h2 => by
        by_cases h3 : u = t
        · rw [h3]; exact hye
        · exact hu u h1 (by omega)
      refine g_iinc (pc9 := 65) C rfl [(4, .int (nI (t + 1))), (0, .ref (w.1 (53))), (1, .int (nI (i))), (2, .int (nI (j))), (3, .int (nI (k)))] 0 (nI (t + 1)) dX0_fourPointsHoldFrom_62 rfl (nI_1 (t)) (by decide) rfl ?_
      refine g_goto C 3 dX0_fourPointsHoldFrom_65 rfl ?_
      exact ih (t + 1) ⟨by omega, by omega, hu2⟩ (by omega)
    · have hno : ¬ (fpP σ i j k t) := pI_no c_9
      refine g_iconst (pc9 := 61) C rfl (nI (0)) dX0_fourPointsHoldFrom_60 rfl ?_
      exact g_zreturn C hr hlk dX0_fourPointsHoldFrom_61 (by decide) ⟨rfl, (pI_f (fun h => hno (h t ht1 (by omega)))).symm⟩
set_option maxRecDepth 100000 in
set_option maxHeartbeats 4000000 in
theorem m_X0_fourPointsHold (l : Launch) (w : Wd) (σ : St) (N : Nat) (hN : nF σ 53 0 = nI N) (h12 : N ≤ 12) : MI l yX0_fourPointsHold wsX0_fourPointsHold (rmL 3) w [.ref (w.1 (53))] (σ) (fun r σ9 => σ9 = σ ∧ r = pI (∀ i j k t, i ≤ j → j ≤ k → k ≤ t → t < N → fpP σ i j k t)) := by
  refine MI_of (cc := cX0_fourPointsHold) (maxL := 4) (ret := .boolean) (by decide) rfl (Nat.le_of_ble_eq_true rfl) ?_
  intro p e s m args below meth c A C hr hlk
  have C : Cx p s m args c w A cX0_fourPointsHold RX0 4 wsX0_fourPointsHold := C
  have hin_0 : ∀ u ∈ wsX00, u ∈ wsX0_fourPointsHold := by decide +kernel
  have hl_9 : Cond.fieldLink RX0 9 "LineageBench$Distances" "counting" "I" ∈ wsX0_fourPointsHold := by decide +kernel
  refine g_iconst (pc9 := 1) C rfl (nI (0)) dX0_fourPointsHold_0 rfl ?_
  refine g_istore_n (pc9 := 2) C rfl [(1, .int (nI (0))), (0, .ref (w.1 (53)))] dX0_fourPointsHold_1 rfl (by decide) rfl ?_
  refine g_lp1 (α := Nat) (fun i => i ≤ N ∧ ∀ i9 j9 k9 t, i9 < i → i9 ≤ j9 → j9 ≤ k9 → k9 ≤ t → t < N → fpP σ i9 j9 k9 t) (fun i => N - i) (fun i => G p l e _ s m args below meth c _ w A _ (σ) 0 0 2 [(1, .int (nI (i))), (0, .ref (w.1 (53)))] []) (fun i hI ih => ?_) (0) ⟨Nat.zero_le _, fun _ _ _ _ h => absurd h (by omega)⟩
  obtain ⟨hi, hu⟩ := hI
  refine g_iload_n (pc9 := 3) C rfl 0 dX0_fourPointsHold_2 rfl rfl ?_
  refine g_aload_n (pc9 := 4) C rfl 1 dX0_fourPointsHold_3 rfl rfl ?_
  refine g_get (v := .int (nI (N))) (pc9 := 7) C rfl (53) 0 dX0_fourPointsHold_4 (by decide) (ce_53 w (σ)) hin_0 hl_9 rfl (by decide) rfl (congrArg (fun z => some (Value.int z)) hN) ?_
  refine g_icmp_ge (pc9 := 10) C rfl 60 dX0_fourPointsHold_7 rfl (fun c_1 => ?_) (fun c_1 => ?_)
  · replace c_1 := (nI_leI (by omega) (by omega)).mp c_1
    refine g_iconst (pc9 := 61) C rfl (nI (1)) dX0_fourPointsHold_60 rfl ?_
    exact g_zreturn C hr hlk dX0_fourPointsHold_61 (by decide) ⟨rfl, (pI_t (fun i9 j9 k9 t h1 h2 h3 h4 => hu i9 j9 k9 t (by omega) h1 h2 h3 h4)).symm⟩
  · replace c_1 := (not_congr (nI_leI (by omega) (by omega))).mp c_1
    refine g_iload_n (pc9 := 11) C rfl 0 dX0_fourPointsHold_10 rfl rfl ?_
    refine g_istore_n (pc9 := 12) C rfl [(2, .int (nI (i))), (1, .int (nI (i))), (0, .ref (w.1 (53)))] dX0_fourPointsHold_11 rfl (by decide) rfl ?_
    refine g_sub [0, 1, 2] [(2, .int (nI (i))), (1, .int (nI (i))), (0, .ref (w.1 (53)))] rfl ?_
    refine g_lp1 (α := Nat) (fun j => i ≤ j ∧ j ≤ N ∧ ∀ j9 k9 t, i ≤ j9 → j9 < j → j9 ≤ k9 → k9 ≤ t → t < N → fpP σ i j9 k9 t) (fun j => N - j) (fun j => G p l e _ s m args below meth c _ w A _ (σ) 0 0 12 [(2, .int (nI (j))), (1, .int (nI (i))), (0, .ref (w.1 (53)))] []) (fun j hI ih2 => ?_) (i) ⟨Nat.le_refl _, by omega, fun _ _ _ h1 h2 => absurd h1 (by omega)⟩
    obtain ⟨hj1, hj, hv⟩ := hI
    refine g_iload_n (pc9 := 13) C rfl 0 dX0_fourPointsHold_12 rfl rfl ?_
    refine g_aload_n (pc9 := 14) C rfl 2 dX0_fourPointsHold_13 rfl rfl ?_
    refine g_get (v := .int (nI (N))) (pc9 := 17) C rfl (53) 0 dX0_fourPointsHold_14 (by decide) (ce_53 w (σ)) hin_0 hl_9 rfl (by decide) rfl (congrArg (fun z => some (Value.int z)) hN) ?_
    refine g_icmp_ge (pc9 := 20) C rfl 54 dX0_fourPointsHold_17 rfl (fun c_2 => ?_) (fun c_2 => ?_)
    · replace c_2 := (nI_leI (by omega) (by omega)).mp c_2
      have hu2 : ∀ i9 j9 k9 t, i9 < i + 1 → i9 ≤ j9 → j9 ≤ k9 → k9 ≤ t → t < N → fpP σ i9 j9 k9 t := fun i9 j9 k9 t h1 h2 h3 h4 h5 => by
        by_cases h6 : i9 = i
        · subst h6; exact hv j9 k9 t h2 (by omega) h3 h4 h5
        · exact hu i9 j9 k9 t (by omega) h2 h3 h4 h5
      refine g_iinc (pc9 := 57) C rfl [(1, .int (nI (i + 1))), (2, .int (nI (j))), (0, .ref (w.1 (53)))] 1 (nI (i + 1)) dX0_fourPointsHold_54 rfl (nI_1 (i)) (by decide) rfl ?_
      refine g_goto C 2 dX0_fourPointsHold_57 rfl ?_
      refine g_sub [0, 2] [(1, .int (nI (i + 1))), (0, .ref (w.1 (53)))] rfl ?_
      exact ih (i + 1) ⟨by omega, hu2⟩ (by omega)
    · replace c_2 := (not_congr (nI_leI (by omega) (by omega))).mp c_2
      refine g_iload_n (pc9 := 21) C rfl 0 dX0_fourPointsHold_20 rfl rfl ?_
      refine g_istore_n (pc9 := 22) C rfl [(3, .int (nI (j))), (2, .int (nI (j))), (1, .int (nI (i))), (0, .ref (w.1 (53)))] dX0_fourPointsHold_21 rfl (by decide) rfl ?_
      refine g_sub [0, 1, 2, 3] [(3, .int (nI (j))), (2, .int (nI (j))), (1, .int (nI (i))), (0, .ref (w.1 (53)))] rfl ?_
      refine g_lp1 (α := Nat) (fun k => j ≤ k ∧ k ≤ N ∧ ∀ k9 t, j ≤ k9 → k9 < k → k9 ≤ t → t < N → fpP σ i j k9 t) (fun k => N - k) (fun k => G p l e _ s m args below meth c _ w A _ (σ) 0 0 22 [(3, .int (nI (k))), (2, .int (nI (j))), (1, .int (nI (i))), (0, .ref (w.1 (53)))] []) (fun k hI ih3 => ?_) (j) ⟨Nat.le_refl _, by omega, fun _ _ h1 h2 => absurd h1 (by omega)⟩
      obtain ⟨hk1, hk, hw⟩ := hI
      refine g_iload_n (pc9 := 23) C rfl 0 dX0_fourPointsHold_22 rfl rfl ?_
      refine g_aload_n (pc9 := 24) C rfl 3 dX0_fourPointsHold_23 rfl rfl ?_
      refine g_get (v := .int (nI (N))) (pc9 := 27) C rfl (53) 0 dX0_fourPointsHold_24 (by decide) (ce_53 w (σ)) hin_0 hl_9 rfl (by decide) rfl (congrArg (fun z => some (Value.int z)) hN) ?_
      refine g_icmp_ge (pc9 := 30) C rfl 48 dX0_fourPointsHold_27 rfl (fun c_3 => ?_) (fun c_3 => ?_)
      · replace c_3 := (nI_leI (by omega) (by omega)).mp c_3
        have hv2 : ∀ j9 k9 t, i ≤ j9 → j9 < j + 1 → j9 ≤ k9 → k9 ≤ t → t < N → fpP σ i j9 k9 t := fun j9 k9 t h1 h2 h3 h4 h5 => by
          by_cases h6 : j9 = j
          · subst h6; exact hw k9 t h3 (by omega) h4 h5
          · exact hv j9 k9 t h1 (by omega) h3 h4 h5
        refine g_iinc (pc9 := 51) C rfl [(2, .int (nI (j + 1))), (3, .int (nI (k))), (1, .int (nI (i))), (0, .ref (w.1 (53)))] 1 (nI (j + 1)) dX0_fourPointsHold_48 rfl (nI_1 (j)) (by decide) rfl ?_
        refine g_goto C 12 dX0_fourPointsHold_51 rfl ?_
        refine g_sub [0, 2, 3] [(2, .int (nI (j + 1))), (1, .int (nI (i))), (0, .ref (w.1 (53)))] rfl ?_
        exact ih2 (j + 1) ⟨by omega, by omega, hv2⟩ (by omega)
      · replace c_3 := (not_congr (nI_leI (by omega) (by omega))).mp c_3
        refine g_aload_n (pc9 := 31) C rfl 3 dX0_fourPointsHold_30 rfl rfl ?_
        refine g_iload_n (pc9 := 32) C rfl 2 dX0_fourPointsHold_31 rfl rfl ?_
        refine g_iload_n (pc9 := 33) C rfl 1 dX0_fourPointsHold_32 rfl rfl ?_
        refine g_iload_n (pc9 := 34) C rfl 0 dX0_fourPointsHold_33 rfl rfl ?_
        refine g_callVi (nn := 3) (rest := []) (pc9 := 37) C rfl (53) [.int (nI (i)), .int (nI (j)), .int (nI (k))] rfl dX0_fourPointsHold_34 (m_X0_fourPointsHoldFrom l w σ N hN h12 i j k (by omega) (by omega) (by omega)) gX0_fourPointsHold_X0_fourPointsHoldFrom (by decide) (ce_53 w (σ)) rfl rfl rfl rfl rfl (by decide +kernel) ⟨by decide, by decide⟩ rfl (Nat.le_of_ble_eq_true rfl) ⟨by decide, by decide⟩ (fun r_4 σ_4 q_4 => ?_)
        obtain ⟨qs_4, qr_4⟩ := q_4
        rw [qs_4, qr_4]
        clear qs_4 qr_4
        refine g_if_ne (pc9 := 40) C rfl 42 dX0_fourPointsHold_37 rfl (fun c_5 => ?_) (fun c_5 => ?_)
        · have hye : (∀ t, k ≤ t → t < N → fpP σ i j k t) := pI_ye c_5
          have hw2 : ∀ k9 t, j ≤ k9 → k9 < k + 1 → k9 ≤ t → t < N → fpP σ i j k9 t := fun k9 t h1 h2 h3 h4 => by
            by_cases h5 : k9 = k
            · subst h5; exact hye t h3 h4
            · exact hw k9 t h1 (by omega) h3 h4
          refine g_iinc (pc9 := 45) C rfl [(3, .int (nI (k + 1))), (2, .int (nI (j))), (1, .int (nI (i))), (0, .ref (w.1 (53)))] 0 (nI (k + 1)) dX0_fourPointsHold_42 rfl (nI_1 (k)) (by decide) rfl ?_
          refine g_goto C 22 dX0_fourPointsHold_45 rfl ?_
          exact ih3 (k + 1) ⟨by omega, by omega, hw2⟩ (by omega)
        · have hno : ¬ (∀ t, k ≤ t → t < N → fpP σ i j k t) := pI_no c_5
          refine g_iconst (pc9 := 41) C rfl (nI (0)) dX0_fourPointsHold_40 rfl ?_
          exact g_zreturn C hr hlk dX0_fourPointsHold_41 (by decide) ⟨rfl, (pI_f (fun h => hno (fun t h1 h2 => h i j k t hj1 hk1 h1 h2))).symm⟩
def ckP (σ : St) (i j k : Nat) : Prop := tgP (dS σ i j) (dS σ i k) (dS σ j k)
set_option maxRecDepth 100000 in
set_option maxHeartbeats 4000000 in
theorem m_X0_clockHolds (l : Launch) (w : Wd) (σ : St) (N : Nat) (hN : nF σ 53 0 = nI N) (h12 : N ≤ 12) : MI l yX0_clockHolds wsX0_clockHolds (rmL 2) w [.ref (w.1 (53))] (σ) (fun r σ9 => σ9 = σ ∧ r = pI (∀ i j k, i < j → j < k → k < N → ckP σ i j k)) := by
  refine MI_of (cc := cX0_clockHolds) (maxL := 4) (ret := .boolean) (by decide) rfl (Nat.le_of_ble_eq_true rfl) ?_
  intro p e s m args below meth c A C hr hlk
  have C : Cx p s m args c w A cX0_clockHolds RX0 4 wsX0_clockHolds := C
  have hin_0 : ∀ u ∈ wsX00, u ∈ wsX0_clockHolds := by decide +kernel
  have hl_9 : Cond.fieldLink RX0 9 "LineageBench$Distances" "counting" "I" ∈ wsX0_clockHolds := by decide +kernel
  refine g_iconst (pc9 := 1) C rfl (nI (0)) dX0_clockHolds_0 rfl ?_
  refine g_istore_n (pc9 := 2) C rfl [(1, .int (nI (0))), (0, .ref (w.1 (53)))] dX0_clockHolds_1 rfl (by decide) rfl ?_
  refine g_lp1 (α := Nat) (fun i => i ≤ N ∧ ∀ i9 j9 k9, i9 < i → i9 < j9 → j9 < k9 → k9 < N → ckP σ i9 j9 k9) (fun i => N - i) (fun i => G p l e _ s m args below meth c _ w A _ (σ) 0 0 2 [(1, .int (nI (i))), (0, .ref (w.1 (53)))] []) (fun i hI ih => ?_) (0) ⟨Nat.zero_le _, fun _ _ _ h => absurd h (by omega)⟩
  obtain ⟨hi, hu⟩ := hI
  refine g_iload_n (pc9 := 3) C rfl 0 dX0_clockHolds_2 rfl rfl ?_
  refine g_aload_n (pc9 := 4) C rfl 1 dX0_clockHolds_3 rfl rfl ?_
  refine g_get (v := .int (nI (N))) (pc9 := 7) C rfl (53) 0 dX0_clockHolds_4 (by decide) (ce_53 w (σ)) hin_0 hl_9 rfl (by decide) rfl (congrArg (fun z => some (Value.int z)) hN) ?_
  refine g_icmp_ge (pc9 := 10) C rfl 78 dX0_clockHolds_7 rfl (fun c_1 => ?_) (fun c_1 => ?_)
  · replace c_1 := (nI_leI (by omega) (by omega)).mp c_1
    refine g_iconst (pc9 := 79) C rfl (nI (1)) dX0_clockHolds_78 rfl ?_
    exact g_zreturn C hr hlk dX0_clockHolds_79 (by decide) ⟨rfl, (pI_t (fun i9 j9 k9 h1 h2 h3 => hu i9 j9 k9 (by omega) h1 h2 h3)).symm⟩
  · replace c_1 := (not_congr (nI_leI (by omega) (by omega))).mp c_1
    refine g_iload_n (pc9 := 11) C rfl 0 dX0_clockHolds_10 rfl rfl ?_
    refine g_iconst (pc9 := 12) C rfl (nI (1)) dX0_clockHolds_11 rfl ?_
    refine g_iaddN (pc9 := 13) C rfl dX0_clockHolds_12 ?_
    refine g_istore_n (pc9 := 14) C rfl [(2, .int (nI (i + 1))), (1, .int (nI (i))), (0, .ref (w.1 (53)))] dX0_clockHolds_13 rfl (by decide) rfl ?_
    refine g_sub [0, 1, 2] [(2, .int (nI (i + 1))), (1, .int (nI (i))), (0, .ref (w.1 (53)))] rfl ?_
    refine g_lp1 (α := Nat) (fun j => i < j ∧ j ≤ N ∧ ∀ j9 k9, i < j9 → j9 < j → j9 < k9 → k9 < N → ckP σ i j9 k9) (fun j => N - j) (fun j => G p l e _ s m args below meth c _ w A _ (σ) 0 0 14 [(2, .int (nI (j))), (1, .int (nI (i))), (0, .ref (w.1 (53)))] []) (fun j hI ih2 => ?_) (i + 1) ⟨by omega, by omega, fun _ _ h1 h2 => absurd h1 (by omega)⟩
    obtain ⟨hj1, hj, hv⟩ := hI
    refine g_iload_n (pc9 := 15) C rfl 0 dX0_clockHolds_14 rfl rfl ?_
    refine g_aload_n (pc9 := 16) C rfl 2 dX0_clockHolds_15 rfl rfl ?_
    refine g_get (v := .int (nI (N))) (pc9 := 19) C rfl (53) 0 dX0_clockHolds_16 (by decide) (ce_53 w (σ)) hin_0 hl_9 rfl (by decide) rfl (congrArg (fun z => some (Value.int z)) hN) ?_
    refine g_icmp_ge (pc9 := 22) C rfl 72 dX0_clockHolds_19 rfl (fun c_2 => ?_) (fun c_2 => ?_)
    · replace c_2 := (nI_leI (by omega) (by omega)).mp c_2
      have hu2 : ∀ i9 j9 k9, i9 < i + 1 → i9 < j9 → j9 < k9 → k9 < N → ckP σ i9 j9 k9 := fun i9 j9 k9 h1 h2 h3 h4 => by
        by_cases h6 : i9 = i
        · subst h6; exact hv j9 k9 h2 (by omega) h3 h4
        · exact hu i9 j9 k9 (by omega) h2 h3 h4
      refine g_iinc (pc9 := 75) C rfl [(1, .int (nI (i + 1))), (2, .int (nI (j))), (0, .ref (w.1 (53)))] 1 (nI (i + 1)) dX0_clockHolds_72 rfl (nI_1 (i)) (by decide) rfl ?_
      refine g_goto C 2 dX0_clockHolds_75 rfl ?_
      refine g_sub [0, 2] [(1, .int (nI (i + 1))), (0, .ref (w.1 (53)))] rfl ?_
      exact ih (i + 1) ⟨by omega, hu2⟩ (by omega)
    · replace c_2 := (not_congr (nI_leI (by omega) (by omega))).mp c_2
      refine g_iload_n (pc9 := 23) C rfl 0 dX0_clockHolds_22 rfl rfl ?_
      refine g_iconst (pc9 := 24) C rfl (nI (1)) dX0_clockHolds_23 rfl ?_
      refine g_iaddN (pc9 := 25) C rfl dX0_clockHolds_24 ?_
      refine g_istore_n (pc9 := 26) C rfl [(3, .int (nI (j + 1))), (2, .int (nI (j))), (1, .int (nI (i))), (0, .ref (w.1 (53)))] dX0_clockHolds_25 rfl (by decide) rfl ?_
      refine g_sub [0, 1, 2, 3] [(3, .int (nI (j + 1))), (2, .int (nI (j))), (1, .int (nI (i))), (0, .ref (w.1 (53)))] rfl ?_
      refine g_lp1 (α := Nat) (fun k => j < k ∧ k ≤ N ∧ ∀ k9, j < k9 → k9 < k → ckP σ i j k9) (fun k => N - k) (fun k => G p l e _ s m args below meth c _ w A _ (σ) 0 0 26 [(3, .int (nI (k))), (2, .int (nI (j))), (1, .int (nI (i))), (0, .ref (w.1 (53)))] []) (fun k hI ih3 => ?_) (j + 1) ⟨by omega, by omega, fun _ h1 h2 => absurd h1 (by omega)⟩
      obtain ⟨hk1, hk, hw⟩ := hI
      refine g_iload_n (pc9 := 27) C rfl 0 dX0_clockHolds_26 rfl rfl ?_
      refine g_aload_n (pc9 := 28) C rfl 3 dX0_clockHolds_27 rfl rfl ?_
      refine g_get (v := .int (nI (N))) (pc9 := 31) C rfl (53) 0 dX0_clockHolds_28 (by decide) (ce_53 w (σ)) hin_0 hl_9 rfl (by decide) rfl (congrArg (fun z => some (Value.int z)) hN) ?_
      refine g_icmp_ge (pc9 := 34) C rfl 66 dX0_clockHolds_31 rfl (fun c_3 => ?_) (fun c_3 => ?_)
      · replace c_3 := (nI_leI (by omega) (by omega)).mp c_3
        have hv2 : ∀ j9 k9, i < j9 → j9 < j + 1 → j9 < k9 → k9 < N → ckP σ i j9 k9 := fun j9 k9 h1 h2 h3 h4 => by
          by_cases h6 : j9 = j
          · subst h6; exact hw k9 h3 (by omega)
          · exact hv j9 k9 h1 (by omega) h3 h4
        refine g_iinc (pc9 := 69) C rfl [(2, .int (nI (j + 1))), (3, .int (nI (k))), (1, .int (nI (i))), (0, .ref (w.1 (53)))] 1 (nI (j + 1)) dX0_clockHolds_66 rfl (nI_1 (j)) (by decide) rfl ?_
        refine g_goto C 14 dX0_clockHolds_69 rfl ?_
        refine g_sub [0, 2, 3] [(2, .int (nI (j + 1))), (1, .int (nI (i))), (0, .ref (w.1 (53)))] rfl ?_
        exact ih2 (j + 1) ⟨by omega, by omega, hv2⟩ (by omega)
      · replace c_3 := (not_congr (nI_leI (by omega) (by omega))).mp c_3
        refine g_aload_n (pc9 := 35) C rfl 3 dX0_clockHolds_34 rfl rfl ?_
        refine g_iload_n (pc9 := 36) C rfl 2 dX0_clockHolds_35 rfl rfl ?_
        refine g_iload_n (pc9 := 37) C rfl 1 dX0_clockHolds_36 rfl rfl ?_
        refine g_callVi (nn := 2) (rest := []) (pc9 := 40) C rfl (53) [.int (nI (i)), .int (nI (j))] rfl dX0_clockHolds_37 (m_X0_d l w σ (i) (j) (by omega) (by omega)) gX0_clockHolds_X0_d (by decide) (ce_53 w (σ)) rfl rfl rfl rfl rfl (by decide +kernel) ⟨by decide, by decide⟩ rfl (Nat.le_of_ble_eq_true rfl) ⟨by decide, by decide⟩ (fun r_4 σ_4 q_4 => ?_)
        obtain ⟨qs_4, qr_4⟩ := q_4
        rw [qs_4, qr_4]
        clear qs_4 qr_4
        refine g_aload_n (pc9 := 41) C rfl 3 dX0_clockHolds_40 rfl rfl ?_
        refine g_iload_n (pc9 := 42) C rfl 2 dX0_clockHolds_41 rfl rfl ?_
        refine g_iload_n (pc9 := 43) C rfl 0 dX0_clockHolds_42 rfl rfl ?_
        refine g_callVi (nn := 2) (rest := [.int (dS σ (i) (j))]) (pc9 := 46) C rfl (53) [.int (nI (i)), .int (nI (k))] rfl dX0_clockHolds_43 (m_X0_d l w σ (i) (k) (by omega) (by omega)) gX0_clockHolds_X0_d (by decide) (ce_53 w (σ)) rfl rfl rfl rfl rfl (by decide +kernel) ⟨by decide, by decide⟩ rfl (Nat.le_of_ble_eq_true rfl) ⟨by decide, by decide⟩ (fun r_5 σ_5 q_5 => ?_)
        obtain ⟨qs_5, qr_5⟩ := q_5
        rw [qs_5, qr_5]
        clear qs_5 qr_5
        refine g_aload_n (pc9 := 47) C rfl 3 dX0_clockHolds_46 rfl rfl ?_
        refine g_iload_n (pc9 := 48) C rfl 1 dX0_clockHolds_47 rfl rfl ?_
        refine g_iload_n (pc9 := 49) C rfl 0 dX0_clockHolds_48 rfl rfl ?_
        refine g_callVi (nn := 2) (rest := [.int (dS σ (i) (k)), .int (dS σ (i) (j))]) (pc9 := 52) C rfl (53) [.int (nI (j)), .int (nI (k))] rfl dX0_clockHolds_49 (m_X0_d l w σ (j) (k) (by omega) (by omega)) gX0_clockHolds_X0_d (by decide) (ce_53 w (σ)) rfl rfl rfl rfl rfl (by decide +kernel) ⟨by decide, by decide⟩ rfl (Nat.le_of_ble_eq_true rfl) ⟨by decide, by decide⟩ (fun r_6 σ_6 q_6 => ?_)
        obtain ⟨qs_6, qr_6⟩ := q_6
        rw [qs_6, qr_6]
        clear qs_6 qr_6
        refine g_callSi (nn := 3) (rest := []) (pc9 := 55) C rfl [.int (dS σ (i) (j)), .int (dS σ (i) (k)), .int (dS σ (j) (k))] rfl dX0_clockHolds_52 (m_X0_twoGreatestAreEqual l w σ (dS σ (i) (j)) (dS σ (i) (k)) (dS σ (j) (k))) gX0_clockHolds_X0_twoGreatestAreEqual rfl rfl rfl (by decide +kernel) ⟨by decide, by decide⟩ rfl (Nat.le_of_ble_eq_true rfl) ⟨by decide, by decide⟩ (fun r_7 σ_7 q_7 => ?_)
        obtain ⟨qs_7, qr_7⟩ := q_7
        rw [qs_7, qr_7]
        clear qs_7 qr_7
        refine g_if_ne (pc9 := 58) C rfl 60 dX0_clockHolds_55 rfl (fun c_8 => ?_) (fun c_8 => ?_)
        · have hye : (ckP σ i j k) := pI_ye c_8
          have hw2 : ∀ k9, j < k9 → k9 < k + 1 → ckP σ i j k9 := fun k9 h1 h2 => by
            by_cases h5 : k9 = k
            · subst h5; exact hye
            · exact hw k9 h1 (by omega)
          refine g_iinc (pc9 := 63) C rfl [(3, .int (nI (k + 1))), (2, .int (nI (j))), (1, .int (nI (i))), (0, .ref (w.1 (53)))] 0 (nI (k + 1)) dX0_clockHolds_60 rfl (nI_1 (k)) (by decide) rfl ?_
          refine g_goto C 26 dX0_clockHolds_63 rfl ?_
          exact ih3 (k + 1) ⟨by omega, by omega, hw2⟩ (by omega)
        · have hno : ¬ (ckP σ i j k) := pI_no c_8
          refine g_iconst (pc9 := 59) C rfl (nI (0)) dX0_clockHolds_58 rfl ?_
          exact g_zreturn C hr hlk dX0_clockHolds_59 (by decide) ⟨rfl, (pI_f (fun h => hno (h i j k hj1 hk1 (by omega)))).symm⟩
def kwU (g : Nat → Int32) (h w : Int32) : Nat → Int32
  | 0 => w
  | t + 1 => if h < g t then kwU g h w t else kwU g h w t ||| (nI 1 <<< (nI t &&& 31))
abbrev kw (σ : St) (N i : Nat) (h : Int32) : Int32 := kwU (dS σ i) h (nI 1 <<< (nI i &&& 31)) N
set_option maxRecDepth 100000 in
set_option maxHeartbeats 4000000 in
theorem m_X0_kindsWithin (l : Launch) (w : Wd) (σ : St) (N : Nat) (hN : nF σ 53 0 = nI N) (h12 : N ≤ 12) (i : Nat) (hi : i < N) (h : Int32) : MI l yX0_kindsWithin wsX0_kindsWithin (rmL 2) w [.ref (w.1 (53)), .int (nI (i)), .int (h)] (σ) (fun r σ9 => σ9 = σ ∧ r = kw σ N i h) := by
  refine MI_of (cc := cX0_kindsWithin) (maxL := 5) (ret := .int) (by decide) rfl (Nat.le_of_ble_eq_true rfl) ?_
  intro p e s m args below meth c A C hr hlk
  have C : Cx p s m args c w A cX0_kindsWithin RX0 5 wsX0_kindsWithin := C
  have hin_0 : ∀ u ∈ wsX00, u ∈ wsX0_kindsWithin := by decide +kernel
  have hl_9 : Cond.fieldLink RX0 9 "LineageBench$Distances" "counting" "I" ∈ wsX0_kindsWithin := by decide +kernel
  refine g_iconst (pc9 := 1) C rfl (nI (1)) dX0_kindsWithin_0 rfl ?_
  refine g_iload_n (pc9 := 2) C rfl 1 dX0_kindsWithin_1 rfl rfl ?_
  refine g_ishl (pc9 := 3) C rfl dX0_kindsWithin_2 ?_
  refine g_istore_n (pc9 := 4) C rfl [(3, .int ((nI (1)) <<< ((nI (i)) &&& 31))), (0, .ref (w.1 (53))), (1, .int (nI (i))), (2, .int (h))] dX0_kindsWithin_3 rfl (by decide) rfl ?_
  refine g_iconst (pc9 := 5) C rfl (nI (0)) dX0_kindsWithin_4 rfl ?_
  refine g_istore (pc9 := 7) C rfl [(4, .int (nI (0))), (3, .int ((nI (1)) <<< ((nI (i)) &&& 31))), (0, .ref (w.1 (53))), (1, .int (nI (i))), (2, .int (h))] dX0_kindsWithin_5 (by decide) rfl ?_
  refine g_sub [0, 1, 2, 3, 4] [(4, .int (nI (0))), (3, .int ((nI (1)) <<< ((nI (i)) &&& 31))), (0, .ref (w.1 (53))), (1, .int (nI (i))), (2, .int (h))] rfl ?_
  refine g_lp1 (α := Nat) (fun t => t ≤ N) (fun t => N - t) (fun t => G p l e _ s m args below meth c _ w A _ (σ) 0 0 7 [(4, .int (nI (t))), (3, .int (kwU (dS σ i) h (nI 1 <<< (nI i &&& 31)) t)), (0, .ref (w.1 (53))), (1, .int (nI (i))), (2, .int (h))] []) (fun t hI ih => ?_) (0) (Nat.zero_le _)
  obtain ht := hI
  refine g_iload (pc9 := 9) C rfl 0 dX0_kindsWithin_7 rfl ?_
  refine g_aload_n (pc9 := 10) C rfl 2 dX0_kindsWithin_9 rfl rfl ?_
  refine g_get (v := .int (nI (N))) (pc9 := 13) C rfl (53) 0 dX0_kindsWithin_10 (by decide) (ce_53 w (σ)) hin_0 hl_9 rfl (by decide) rfl (congrArg (fun z => some (Value.int z)) hN) ?_
  refine g_icmp_ge (pc9 := 16) C rfl 40 dX0_kindsWithin_13 rfl (fun c_1 => ?_) (fun c_1 => ?_)
  · replace c_1 := (nI_leI (by omega) (by omega)).mp c_1
    refine g_iload_n (pc9 := 41) C rfl 1 dX0_kindsWithin_40 rfl rfl ?_
    exact g_ireturn C hr hlk dX0_kindsWithin_41 ⟨rfl, by rw [show t = N by omega]⟩
  · replace c_1 := (not_congr (nI_leI (by omega) (by omega))).mp c_1
    refine g_aload_n (pc9 := 17) C rfl 2 dX0_kindsWithin_16 rfl rfl ?_
    refine g_iload_n (pc9 := 18) C rfl 3 dX0_kindsWithin_17 rfl rfl ?_
    refine g_iload (pc9 := 20) C rfl 0 dX0_kindsWithin_18 rfl ?_
    refine g_callVi (nn := 2) (rest := []) (pc9 := 23) C rfl (53) [.int (nI (i)), .int (nI (t))] rfl dX0_kindsWithin_20 (m_X0_d l w σ (i) (t) (by omega) (by omega)) gX0_kindsWithin_X0_d (by decide) (ce_53 w (σ)) rfl rfl rfl rfl rfl (by decide +kernel) ⟨by decide, by decide⟩ rfl (Nat.le_of_ble_eq_true rfl) ⟨by decide, by decide⟩ (fun r_2 σ_2 q_2 => ?_)
    obtain ⟨qs_2, qr_2⟩ := q_2
    rw [qs_2, qr_2]
    clear qs_2 qr_2
    refine g_iload_n (pc9 := 24) C rfl 4 dX0_kindsWithin_23 rfl rfl ?_
    refine g_icmp_gt (pc9 := 27) C rfl 34 dX0_kindsWithin_24 rfl (fun c_3 => ?_) (fun c_3 => ?_)
    · have hst : kwU (dS σ i) h (nI 1 <<< (nI i &&& 31)) (t + 1) = kwU (dS σ i) h (nI 1 <<< (nI i &&& 31)) t := if_pos c_3
      refine g_iinc (pc9 := 37) C rfl [(4, .int (nI (t + 1))), (3, .int (kwU (dS σ i) h (nI 1 <<< (nI i &&& 31)) t)), (0, .ref (w.1 (53))), (1, .int (nI (i))), (2, .int (h))] 0 (nI (t + 1)) dX0_kindsWithin_34 rfl (nI_1 (t)) (by decide) rfl ?_
      refine g_goto C 7 dX0_kindsWithin_37 rfl ?_
      refine g_sub [0, 1, 2, 3, 4] [(4, .int (nI (t + 1))), (3, .int (kwU (dS σ i) h (nI 1 <<< (nI i &&& 31)) t)), (0, .ref (w.1 (53))), (1, .int (nI (i))), (2, .int (h))] rfl ?_
      rw [← hst]
      exact ih (t + 1) (by omega) (by omega)
    · have hst : kwU (dS σ i) h (nI 1 <<< (nI i &&& 31)) (t + 1) = kwU (dS σ i) h (nI 1 <<< (nI i &&& 31)) t ||| (nI 1 <<< (nI t &&& 31)) := if_neg c_3
      refine g_iload_n (pc9 := 28) C rfl 1 dX0_kindsWithin_27 rfl rfl ?_
      refine g_iconst (pc9 := 29) C rfl (nI (1)) dX0_kindsWithin_28 rfl ?_
      refine g_iload (pc9 := 31) C rfl 0 dX0_kindsWithin_29 rfl ?_
      refine g_ishl (pc9 := 32) C rfl dX0_kindsWithin_31 ?_
      refine g_ior (pc9 := 33) C rfl dX0_kindsWithin_32 ?_
      rw [← hst]
      refine g_istore_n (pc9 := 34) C rfl [(3, .int (kwU (dS σ i) h (nI 1 <<< (nI i &&& 31)) (t + 1))), (4, .int (nI (t))), (0, .ref (w.1 (53))), (1, .int (nI (i))), (2, .int (h))] dX0_kindsWithin_33 rfl (by decide) rfl ?_
      refine g_iinc (pc9 := 37) C rfl [(4, .int (nI (t + 1))), (3, .int (kwU (dS σ i) h (nI 1 <<< (nI i &&& 31)) (t + 1))), (0, .ref (w.1 (53))), (1, .int (nI (i))), (2, .int (h))] 1 (nI (t + 1)) dX0_kindsWithin_34 rfl (nI_1 (t)) (by decide) rfl ?_
      refine g_goto C 7 dX0_kindsWithin_37 rfl ?_
      refine g_sub [0, 1, 2, 3, 4] [(4, .int (nI (t + 1))), (3, .int (kwU (dS σ i) h (nI 1 <<< (nI i &&& 31)) (t + 1))), (0, .ref (w.1 (53))), (1, .int (nI (i))), (2, .int (h))] rfl ?_
      exact ih (t + 1) (by omega) (by omega)

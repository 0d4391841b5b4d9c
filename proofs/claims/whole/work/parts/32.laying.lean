/-! Laying: lifted costs at 59 (gene node times 23 and node), children at 60, 61 (genes), 62, 63 (kinds) -/
abbrev NEV : Int32 := 268435456
def brC (f k1 k2 : Nat → Int32) (x y i : Nat) : Int32 := if k2 i = -1 then mn ((nI 10000 + f (x * 23 + i)) + f (y * 23 + i)) NEV else mn (mn (mn ((nI 10000 + f (x * 23 + i)) + f (y * 23 + i)) (f (x * 23 + (k1 i).toNatClampNeg) + f (y * 23 + (k2 i).toNatClampNeg))) (f (x * 23 + (k2 i).toNatClampNeg) + f (y * 23 + (k1 i).toNatClampNeg))) NEV
/-- two children, or none -/
def twoC (k1 k2 : Nat → Int32) (N i : Nat) : Prop := k2 i = -1 ∨ ∃ a b, a < N ∧ b < N ∧ k1 i = nI a ∧ k2 i = nI b
set_option maxRecDepth 100000 in
set_option maxHeartbeats 4000000 in
theorem m_X2_lifted (l : Launch) (w : Wd) (σ : St) (g i : Nat) (hg : g < 47) (hi : i < 23) : MI l yX2_lifted wsX2_lifted (rmL 1) w [.ref (w.1 (58)), .int (nI (g)), .int (nI (i))] (σ) (fun r σ9 => σ9 = σ ∧ r = iA σ 59 (g * 23 + i)) := by
  refine MI_of (cc := cX2_lifted) (maxL := 3) (ret := .int) (by decide) rfl (Nat.le_of_ble_eq_true rfl) ?_
  intro p e s m args below meth c A C hr hlk
  have C : Cx p s m args c w A cX2_lifted RX2 3 wsX2_lifted := C
  have hin_2 : ∀ u ∈ wsX20, u ∈ wsX2_lifted := by decide +kernel
  have hl_11 : Cond.fieldLink RX2 11 "LineageBench$Laying" "liftedCost" "[I" ∈ wsX2_lifted := by decide +kernel
  refine g_aload_n (pc9 := 1) C rfl 0 dX2_lifted_0 rfl rfl ?_
  refine g_get (v := .ref (w.1 (59))) (pc9 := 4) C rfl (58) 0 dX2_lifted_1 (by decide) (ce_58 w (σ)) hin_2 hl_11 rfl (by decide) rfl rfl ?_
  refine g_iload_n (pc9 := 5) C rfl 1 dX2_lifted_4 rfl rfl ?_
  refine g_bipush (pc9 := 7) C rfl (nI (23)) dX2_lifted_5 rfl ?_
  refine g_imulN (pc9 := 8) C rfl dX2_lifted_7 ?_
  refine g_iload_n (pc9 := 9) C rfl 2 dX2_lifted_8 rfl rfl ?_
  refine g_iaddN (pc9 := 10) C rfl dX2_lifted_9 ?_
  refine g_iald (x := (iA σ (59)) ((g * 23) + i)) (pc9 := 11) C rfl (59) ((g * 23) + i) dX2_lifted_10 (by decide) (ce_59 w (σ)) rfl (by omega) (by decide) rfl ?_
  exact g_ireturn C hr hlk dX2_lifted_11 ⟨rfl, rfl⟩
set_option maxRecDepth 100000 in
set_option maxHeartbeats 4000000 in
theorem m_X2_branchingCost (l : Launch) (w : Wd) (σ : St) (x y i : Nat) (hx : x < 47) (hy : y < 47) (hi : i < 23) (hk : twoC (iA σ 62) (iA σ 63) 23 i) : MI l yX2_branchingCost wsX2_branchingCost (rmL 2) w [.ref (w.1 (58)), .int (nI (x)), .int (nI (y)), .int (nI (i))] (σ) (fun r σ9 => σ9 = σ ∧ r = brC (iA σ 59) (iA σ 62) (iA σ 63) x y i) := by
  refine MI_of (cc := cX2_branchingCost) (maxL := 5) (ret := .int) (by decide) rfl (Nat.le_of_ble_eq_true rfl) ?_
  intro p e s m args below meth c A C hr hlk
  have C : Cx p s m args c w A cX2_branchingCost RX2 5 wsX2_branchingCost := C
  have hin_2 : ∀ u ∈ wsX20, u ∈ wsX2_branchingCost := by decide +kernel
  have hl_21 : Cond.fieldLink RX2 21 "LineageBench$Laying" "kindOne" "[I" ∈ wsX2_branchingCost := by decide +kernel
  have hl_24 : Cond.fieldLink RX2 24 "LineageBench$Laying" "kindTwo" "[I" ∈ wsX2_branchingCost := by decide +kernel
  rcases hk with hk | ⟨a, b, ha, hb, hk1, hk2⟩
  · refine g_sipush (pc9 := 3) C rfl (nI (10000)) dX2_branchingCost_0 rfl ?_
    refine g_aload_n (pc9 := 4) C rfl 0 dX2_branchingCost_3 rfl rfl ?_
    refine g_iload_n (pc9 := 5) C rfl 1 dX2_branchingCost_4 rfl rfl ?_
    refine g_iload_n (pc9 := 6) C rfl 3 dX2_branchingCost_5 rfl rfl ?_
    refine g_callVi (nn := 2) (rest := [.int (nI (10000))]) (pc9 := 9) C rfl (58) [.int (nI (x)), .int (nI (i))] rfl dX2_branchingCost_6 (m_X2_lifted l w σ (x) (i) (by omega) (by omega)) gX2_branchingCost_X2_lifted (by decide) (ce_58 w (σ)) rfl rfl rfl rfl rfl (by decide +kernel) ⟨by decide, by decide⟩ rfl (Nat.le_of_ble_eq_true rfl) ⟨by decide, by decide⟩ (fun r_1 σ_1 q_1 => ?_)
    obtain ⟨qs_1, qr_1⟩ := q_1
    rw [qs_1, qr_1]
    clear qs_1 qr_1
    refine g_iadd (pc9 := 10) C rfl dX2_branchingCost_9 ?_
    refine g_aload_n (pc9 := 11) C rfl 0 dX2_branchingCost_10 rfl rfl ?_
    refine g_iload_n (pc9 := 12) C rfl 2 dX2_branchingCost_11 rfl rfl ?_
    refine g_iload_n (pc9 := 13) C rfl 3 dX2_branchingCost_12 rfl rfl ?_
    refine g_callVi (nn := 2) (rest := [.int ((nI (10000)) + (iA σ 59 ((x) * 23 + (i))))]) (pc9 := 16) C rfl (58) [.int (nI (y)), .int (nI (i))] rfl dX2_branchingCost_13 (m_X2_lifted l w σ (y) (i) (by omega) (by omega)) gX2_branchingCost_X2_lifted (by decide) (ce_58 w (σ)) rfl rfl rfl rfl rfl (by decide +kernel) ⟨by decide, by decide⟩ rfl (Nat.le_of_ble_eq_true rfl) ⟨by decide, by decide⟩ (fun r_2 σ_2 q_2 => ?_)
    obtain ⟨qs_2, qr_2⟩ := q_2
    rw [qs_2, qr_2]
    clear qs_2 qr_2
    refine g_iadd (pc9 := 17) C rfl dX2_branchingCost_16 ?_
    refine g_istore (pc9 := 19) C rfl [(4, .int (((nI (10000)) + (iA σ 59 ((x) * 23 + (i)))) + (iA σ 59 ((y) * 23 + (i))))), (0, .ref (w.1 (58))), (1, .int (nI (x))), (2, .int (nI (y))), (3, .int (nI (i)))] dX2_branchingCost_17 (by decide) rfl ?_
    refine g_aload_n (pc9 := 20) C rfl 1 dX2_branchingCost_19 rfl rfl ?_
    refine g_get (v := .ref (w.1 (63))) (pc9 := 23) C rfl (58) 4 dX2_branchingCost_20 (by decide) (ce_58 w (σ)) hin_2 hl_24 rfl (by decide) rfl rfl ?_
    refine g_iload_n (pc9 := 24) C rfl 4 dX2_branchingCost_23 rfl rfl ?_
    refine g_iald (x := -1) (pc9 := 25) C rfl (63) (i) dX2_branchingCost_24 (by decide) (ce_63 w (σ)) rfl (by omega) (by decide) hk ?_
    refine g_iconst (pc9 := 26) C rfl ((-1)) dX2_branchingCost_25 rfl ?_
    refine g_icmp_eq (pc9 := 29) C rfl 89 dX2_branchingCost_26 rfl (fun c_3 => ?_) (fun c_3 => ?_)
    · refine g_iload (pc9 := 91) C rfl 0 dX2_branchingCost_89 rfl ?_
      refine g_ldc (pc9 := 93) C rfl (268435456) dX2_branchingCost_91 (by decide +kernel) ?_
      refine g_mmin (pc9 := 96) C rfl dX2_branchingCost_93 (by decide +kernel) (by decide +kernel) (by decide +kernel) (by decide +kernel) (by decide) (Nat.le_of_ble_eq_true rfl) (by decide) (by decide) ?_
      exact g_ireturn C hr hlk dX2_branchingCost_96 ⟨rfl, by unfold brC; rw [if_pos hk]; rfl⟩
    · exact absurd rfl (by assumption)
  · refine g_sipush (pc9 := 3) C rfl (nI (10000)) dX2_branchingCost_0 rfl ?_
    refine g_aload_n (pc9 := 4) C rfl 0 dX2_branchingCost_3 rfl rfl ?_
    refine g_iload_n (pc9 := 5) C rfl 1 dX2_branchingCost_4 rfl rfl ?_
    refine g_iload_n (pc9 := 6) C rfl 3 dX2_branchingCost_5 rfl rfl ?_
    refine g_callVi (nn := 2) (rest := [.int (nI (10000))]) (pc9 := 9) C rfl (58) [.int (nI (x)), .int (nI (i))] rfl dX2_branchingCost_6 (m_X2_lifted l w σ (x) (i) (by omega) (by omega)) gX2_branchingCost_X2_lifted (by decide) (ce_58 w (σ)) rfl rfl rfl rfl rfl (by decide +kernel) ⟨by decide, by decide⟩ rfl (Nat.le_of_ble_eq_true rfl) ⟨by decide, by decide⟩ (fun r_4 σ_4 q_4 => ?_)
    obtain ⟨qs_4, qr_4⟩ := q_4
    rw [qs_4, qr_4]
    clear qs_4 qr_4
    refine g_iadd (pc9 := 10) C rfl dX2_branchingCost_9 ?_
    refine g_aload_n (pc9 := 11) C rfl 0 dX2_branchingCost_10 rfl rfl ?_
    refine g_iload_n (pc9 := 12) C rfl 2 dX2_branchingCost_11 rfl rfl ?_
    refine g_iload_n (pc9 := 13) C rfl 3 dX2_branchingCost_12 rfl rfl ?_
    refine g_callVi (nn := 2) (rest := [.int ((nI (10000)) + (iA σ 59 ((x) * 23 + (i))))]) (pc9 := 16) C rfl (58) [.int (nI (y)), .int (nI (i))] rfl dX2_branchingCost_13 (m_X2_lifted l w σ (y) (i) (by omega) (by omega)) gX2_branchingCost_X2_lifted (by decide) (ce_58 w (σ)) rfl rfl rfl rfl rfl (by decide +kernel) ⟨by decide, by decide⟩ rfl (Nat.le_of_ble_eq_true rfl) ⟨by decide, by decide⟩ (fun r_5 σ_5 q_5 => ?_)
    obtain ⟨qs_5, qr_5⟩ := q_5
    rw [qs_5, qr_5]
    clear qs_5 qr_5
    refine g_iadd (pc9 := 17) C rfl dX2_branchingCost_16 ?_
    refine g_istore (pc9 := 19) C rfl [(4, .int (((nI (10000)) + (iA σ 59 ((x) * 23 + (i)))) + (iA σ 59 ((y) * 23 + (i))))), (0, .ref (w.1 (58))), (1, .int (nI (x))), (2, .int (nI (y))), (3, .int (nI (i)))] dX2_branchingCost_17 (by decide) rfl ?_
    refine g_aload_n (pc9 := 20) C rfl 1 dX2_branchingCost_19 rfl rfl ?_
    refine g_get (v := .ref (w.1 (63))) (pc9 := 23) C rfl (58) 4 dX2_branchingCost_20 (by decide) (ce_58 w (σ)) hin_2 hl_24 rfl (by decide) rfl rfl ?_
    refine g_iload_n (pc9 := 24) C rfl 4 dX2_branchingCost_23 rfl rfl ?_
    refine g_iald (x := nI (b)) (pc9 := 25) C rfl (63) (i) dX2_branchingCost_24 (by decide) (ce_63 w (σ)) rfl (by omega) (by decide) hk2 ?_
    refine g_iconst (pc9 := 26) C rfl ((-1)) dX2_branchingCost_25 rfl ?_
    refine g_icmp_eq (pc9 := 29) C rfl 89 dX2_branchingCost_26 rfl (fun c_6 => ?_) (fun c_6 => ?_)
    · exact absurd c_6 (nI_m1 (by omega))
    · refine g_iload (pc9 := 31) C rfl 0 dX2_branchingCost_29 rfl ?_
      refine g_aload_n (pc9 := 32) C rfl 1 dX2_branchingCost_31 rfl rfl ?_
      refine g_iload_n (pc9 := 33) C rfl 2 dX2_branchingCost_32 rfl rfl ?_
      refine g_aload_n (pc9 := 34) C rfl 1 dX2_branchingCost_33 rfl rfl ?_
      refine g_get (v := .ref (w.1 (62))) (pc9 := 37) C rfl (58) 3 dX2_branchingCost_34 (by decide) (ce_58 w (σ)) hin_2 hl_21 rfl (by decide) rfl rfl ?_
      refine g_iload_n (pc9 := 38) C rfl 4 dX2_branchingCost_37 rfl rfl ?_
      refine g_iald (x := nI (a)) (pc9 := 39) C rfl (62) (i) dX2_branchingCost_38 (by decide) (ce_62 w (σ)) rfl (by omega) (by decide) hk1 ?_
      refine g_callVi (nn := 2) (rest := [.int (((nI (10000)) + (iA σ 59 ((x) * 23 + (i)))) + (iA σ 59 ((y) * 23 + (i))))]) (pc9 := 42) C rfl (58) [.int (nI (x)), .int (nI (a))] rfl dX2_branchingCost_39 (m_X2_lifted l w σ (x) (a) (by omega) (by omega)) gX2_branchingCost_X2_lifted (by decide) (ce_58 w (σ)) rfl rfl rfl rfl rfl (by decide +kernel) ⟨by decide, by decide⟩ rfl (Nat.le_of_ble_eq_true rfl) ⟨by decide, by decide⟩ (fun r_7 σ_7 q_7 => ?_)
      obtain ⟨qs_7, qr_7⟩ := q_7
      rw [qs_7, qr_7]
      clear qs_7 qr_7
      refine g_aload_n (pc9 := 43) C rfl 1 dX2_branchingCost_42 rfl rfl ?_
      refine g_iload_n (pc9 := 44) C rfl 3 dX2_branchingCost_43 rfl rfl ?_
      refine g_aload_n (pc9 := 45) C rfl 1 dX2_branchingCost_44 rfl rfl ?_
      refine g_get (v := .ref (w.1 (63))) (pc9 := 48) C rfl (58) 4 dX2_branchingCost_45 (by decide) (ce_58 w (σ)) hin_2 hl_24 rfl (by decide) rfl rfl ?_
      refine g_iload_n (pc9 := 49) C rfl 4 dX2_branchingCost_48 rfl rfl ?_
      refine g_iald (x := nI (b)) (pc9 := 50) C rfl (63) (i) dX2_branchingCost_49 (by decide) (ce_63 w (σ)) rfl (by omega) (by decide) hk2 ?_
      refine g_callVi (nn := 2) (rest := [.int (iA σ 59 ((x) * 23 + (a))), .int (((nI (10000)) + (iA σ 59 ((x) * 23 + (i)))) + (iA σ 59 ((y) * 23 + (i))))]) (pc9 := 53) C rfl (58) [.int (nI (y)), .int (nI (b))] rfl dX2_branchingCost_50 (m_X2_lifted l w σ (y) (b) (by omega) (by omega)) gX2_branchingCost_X2_lifted (by decide) (ce_58 w (σ)) rfl rfl rfl rfl rfl (by decide +kernel) ⟨by decide, by decide⟩ rfl (Nat.le_of_ble_eq_true rfl) ⟨by decide, by decide⟩ (fun r_8 σ_8 q_8 => ?_)
      obtain ⟨qs_8, qr_8⟩ := q_8
      rw [qs_8, qr_8]
      clear qs_8 qr_8
      refine g_iadd (pc9 := 54) C rfl dX2_branchingCost_53 ?_
      refine g_mmin (pc9 := 57) C rfl dX2_branchingCost_54 (by decide +kernel) (by decide +kernel) (by decide +kernel) (by decide +kernel) (by decide) (Nat.le_of_ble_eq_true rfl) (by decide) (by decide) ?_
      refine g_istore (pc9 := 59) C rfl [(4, .int (if (iA σ 59 ((x) * 23 + (a))) + (iA σ 59 ((y) * 23 + (b))) < ((nI (10000)) + (iA σ 59 ((x) * 23 + (i)))) + (iA σ 59 ((y) * 23 + (i))) then (iA σ 59 ((x) * 23 + (a))) + (iA σ 59 ((y) * 23 + (b))) else ((nI (10000)) + (iA σ 59 ((x) * 23 + (i)))) + (iA σ 59 ((y) * 23 + (i))))), (0, .ref (w.1 (58))), (1, .int (nI (x))), (2, .int (nI (y))), (3, .int (nI (i)))] dX2_branchingCost_57 (by decide) rfl ?_
      refine g_iload (pc9 := 61) C rfl 0 dX2_branchingCost_59 rfl ?_
      refine g_aload_n (pc9 := 62) C rfl 1 dX2_branchingCost_61 rfl rfl ?_
      refine g_iload_n (pc9 := 63) C rfl 2 dX2_branchingCost_62 rfl rfl ?_
      refine g_aload_n (pc9 := 64) C rfl 1 dX2_branchingCost_63 rfl rfl ?_
      refine g_get (v := .ref (w.1 (63))) (pc9 := 67) C rfl (58) 4 dX2_branchingCost_64 (by decide) (ce_58 w (σ)) hin_2 hl_24 rfl (by decide) rfl rfl ?_
      refine g_iload_n (pc9 := 68) C rfl 4 dX2_branchingCost_67 rfl rfl ?_
      refine g_iald (x := nI (b)) (pc9 := 69) C rfl (63) (i) dX2_branchingCost_68 (by decide) (ce_63 w (σ)) rfl (by omega) (by decide) hk2 ?_
      refine g_callVi (nn := 2) (rest := [.int (if (iA σ 59 ((x) * 23 + (a))) + (iA σ 59 ((y) * 23 + (b))) < ((nI (10000)) + (iA σ 59 ((x) * 23 + (i)))) + (iA σ 59 ((y) * 23 + (i))) then (iA σ 59 ((x) * 23 + (a))) + (iA σ 59 ((y) * 23 + (b))) else ((nI (10000)) + (iA σ 59 ((x) * 23 + (i)))) + (iA σ 59 ((y) * 23 + (i))))]) (pc9 := 72) C rfl (58) [.int (nI (x)), .int (nI (b))] rfl dX2_branchingCost_69 (m_X2_lifted l w σ (x) (b) (by omega) (by omega)) gX2_branchingCost_X2_lifted (by decide) (ce_58 w (σ)) rfl rfl rfl rfl rfl (by decide +kernel) ⟨by decide, by decide⟩ rfl (Nat.le_of_ble_eq_true rfl) ⟨by decide, by decide⟩ (fun r_9 σ_9 q_9 => ?_)
      obtain ⟨qs_9, qr_9⟩ := q_9
      rw [qs_9, qr_9]
      clear qs_9 qr_9
      refine g_aload_n (pc9 := 73) C rfl 1 dX2_branchingCost_72 rfl rfl ?_
      refine g_iload_n (pc9 := 74) C rfl 3 dX2_branchingCost_73 rfl rfl ?_
      refine g_aload_n (pc9 := 75) C rfl 1 dX2_branchingCost_74 rfl rfl ?_
      refine g_get (v := .ref (w.1 (62))) (pc9 := 78) C rfl (58) 3 dX2_branchingCost_75 (by decide) (ce_58 w (σ)) hin_2 hl_21 rfl (by decide) rfl rfl ?_
      refine g_iload_n (pc9 := 79) C rfl 4 dX2_branchingCost_78 rfl rfl ?_
      refine g_iald (x := nI (a)) (pc9 := 80) C rfl (62) (i) dX2_branchingCost_79 (by decide) (ce_62 w (σ)) rfl (by omega) (by decide) hk1 ?_
      refine g_callVi (nn := 2) (rest := [.int (iA σ 59 ((x) * 23 + (b))), .int (if (iA σ 59 ((x) * 23 + (a))) + (iA σ 59 ((y) * 23 + (b))) < ((nI (10000)) + (iA σ 59 ((x) * 23 + (i)))) + (iA σ 59 ((y) * 23 + (i))) then (iA σ 59 ((x) * 23 + (a))) + (iA σ 59 ((y) * 23 + (b))) else ((nI (10000)) + (iA σ 59 ((x) * 23 + (i)))) + (iA σ 59 ((y) * 23 + (i))))]) (pc9 := 83) C rfl (58) [.int (nI (y)), .int (nI (a))] rfl dX2_branchingCost_80 (m_X2_lifted l w σ (y) (a) (by omega) (by omega)) gX2_branchingCost_X2_lifted (by decide) (ce_58 w (σ)) rfl rfl rfl rfl rfl (by decide +kernel) ⟨by decide, by decide⟩ rfl (Nat.le_of_ble_eq_true rfl) ⟨by decide, by decide⟩ (fun r_10 σ_10 q_10 => ?_)
      obtain ⟨qs_10, qr_10⟩ := q_10
      rw [qs_10, qr_10]
      clear qs_10 qr_10
      refine g_iadd (pc9 := 84) C rfl dX2_branchingCost_83 ?_
      refine g_mmin (pc9 := 87) C rfl dX2_branchingCost_84 (by decide +kernel) (by decide +kernel) (by decide +kernel) (by decide +kernel) (by decide) (Nat.le_of_ble_eq_true rfl) (by decide) (by decide) ?_
      refine g_istore (pc9 := 89) C rfl [(4, .int (if (iA σ 59 ((x) * 23 + (b))) + (iA σ 59 ((y) * 23 + (a))) < if (iA σ 59 ((x) * 23 + (a))) + (iA σ 59 ((y) * 23 + (b))) < ((nI (10000)) + (iA σ 59 ((x) * 23 + (i)))) + (iA σ 59 ((y) * 23 + (i))) then (iA σ 59 ((x) * 23 + (a))) + (iA σ 59 ((y) * 23 + (b))) else ((nI (10000)) + (iA σ 59 ((x) * 23 + (i)))) + (iA σ 59 ((y) * 23 + (i))) then (iA σ 59 ((x) * 23 + (b))) + (iA σ 59 ((y) * 23 + (a))) else if (iA σ 59 ((x) * 23 + (a))) + (iA σ 59 ((y) * 23 + (b))) < ((nI (10000)) + (iA σ 59 ((x) * 23 + (i)))) + (iA σ 59 ((y) * 23 + (i))) then (iA σ 59 ((x) * 23 + (a))) + (iA σ 59 ((y) * 23 + (b))) else ((nI (10000)) + (iA σ 59 ((x) * 23 + (i)))) + (iA σ 59 ((y) * 23 + (i))))), (0, .ref (w.1 (58))), (1, .int (nI (x))), (2, .int (nI (y))), (3, .int (nI (i)))] dX2_branchingCost_87 (by decide) rfl ?_
      refine g_iload (pc9 := 91) C rfl 0 dX2_branchingCost_89 rfl ?_
      refine g_ldc (pc9 := 93) C rfl (268435456) dX2_branchingCost_91 (by decide +kernel) ?_
      refine g_mmin (pc9 := 96) C rfl dX2_branchingCost_93 (by decide +kernel) (by decide +kernel) (by decide +kernel) (by decide +kernel) (by decide) (Nat.le_of_ble_eq_true rfl) (by decide) (by decide) ?_
      exact g_ireturn C hr hlk dX2_branchingCost_96 ⟨rfl, by unfold brC; rw [if_neg (show ¬ iA σ 63 i = -1 by rw [hk2]; exact nI_m1 (by omega)), hk1, hk2, nI_clamp (by omega), nI_clamp (by omega)]; rfl⟩
def heC (f g1 g2 k1 k2 tk : Nat → Int32) (gk : Int32) (g i : Nat) : Int32 := if g2 g = -1 then (if gk = tk i then nI 0 else NEV) else brC f k1 k2 (g1 g).toNatClampNeg (g2 g).toNatClampNeg i
def liC (f k1 k2 : Nat → Int32) (he : Int32) (g i : Nat) : Int32 := if k2 i = -1 then he else mn he (nI 1 + mn (f (g * 23 + (k1 i).toNatClampNeg)) (f (g * 23 + (k2 i).toNatClampNeg)))
/-- the costs of gene node g, from node i - 1 down -/
def fiD (g1 g2 k1 k2 tk : Nat → Int32) (gk : Int32) (g : Nat) : Nat → (Nat → Int32) → Int32 → (Nat → Int32) × Int32
  | 0, f, be => (f, be)
  | i + 1, f, be => fiD g1 g2 k1 k2 tk gk g i (upd f (g * 23 + i) (mn (liC f k1 k2 (heC f g1 g2 k1 k2 tk gk g i) g i) NEV)) (mn be (heC f g1 g2 k1 k2 tk gk g i))
theorem fiD_s {g1 g2 k1 k2 tk : Nat → Int32} {gk : Int32} {g i : Nat} {f : Nat → Int32} {be : Int32} (h : 0 < i) : fiD g1 g2 k1 k2 tk gk g i f be = fiD g1 g2 k1 k2 tk gk g (i - 1) (upd f (g * 23 + (i - 1)) (mn (liC f k1 k2 (heC f g1 g2 k1 k2 tk gk g (i - 1)) g (i - 1)) NEV)) (mn be (heC f g1 g2 k1 k2 tk gk g (i - 1))) := by
  obtain ⟨u, rfl⟩ : ∃ u, i = u + 1 := ⟨i - 1, by omega⟩
  rfl
/-- a value in a place of the locals, by another name -/
theorem g_lv1 {p : Program} {l : Launch} {e : Env} {R : Room} {s : State} {m : MethodId} {args : Array Value} {below : List Frame} {meth : Method} {c : Code} {Q : State → Prop} {w : Wd} {A : Nat → Prop} {nL : Nat} {σ : St} {cells slots pc i : Nat} {x : Int32} {lv : List (Nat × Value)} {st : List Value} (y : Int32) (h : x = y) (k : G p l e R s m args below meth c Q w A nL σ cells slots pc ((i, .int y) :: lv) st) : G p l e R s m args below meth c Q w A nL σ cells slots pc ((i, .int x) :: lv) st := h ▸ k
set_option maxRecDepth 100000 in
set_option maxHeartbeats 4000000 in
theorem m_X2_fillCosts (l : Launch) (w : Wd) (σ : St) (j : Nat) (hj : j < 9) (n : Nat) (hn : tN σ j = nI n) (h23 : n ≤ 23) (hk : ∀ i, i < n → twoC (iA σ 62) (iA σ 63) 23 i) (f : Nat → Int32) (gk : Int32) (g : Nat) (hg47 : g < 47) (hg : twoC (iA σ 60) (iA σ 61) 47 g) : MI l yX2_fillCosts wsX2_fillCosts (rmL 3) w [.ref (w.1 (58)), .int (gk), .int (nI (g)), .ref (w.1 (64 + 5 * j))] (sI σ (59) (f)) (fun r σ9 => σ9 = sI σ 59 (fiD (iA σ 60) (iA σ 61) (iA σ 62) (iA σ 63) (tK σ j) gk g n f NEV).1 ∧ r = (fiD (iA σ 60) (iA σ 61) (iA σ 62) (iA σ 63) (tK σ j) gk g n f NEV).2) := by
  refine MI_of (cc := cX2_fillCosts) (maxL := 7) (ret := .int) (by decide) rfl (Nat.le_of_ble_eq_true rfl) ?_
  intro p e s m args below meth c A C hr hlk
  have C : Cx p s m args c w A cX2_fillCosts RX2 7 wsX2_fillCosts := C
  have hin_2 : ∀ u ∈ wsX20, u ∈ wsX2_fillCosts := by decide +kernel
  have hin_7 : ∀ u ∈ wsX70, u ∈ wsX2_fillCosts := by decide +kernel
  have hl_11 : Cond.fieldLink RX2 11 "LineageBench$Laying" "liftedCost" "[I" ∈ wsX2_fillCosts := by decide +kernel
  have hl_15 : Cond.fieldLink RX2 15 "LineageBench$Laying" "geneOne" "[I" ∈ wsX2_fillCosts := by decide +kernel
  have hl_18 : Cond.fieldLink RX2 18 "LineageBench$Laying" "geneTwo" "[I" ∈ wsX2_fillCosts := by decide +kernel
  have hl_21 : Cond.fieldLink RX2 21 "LineageBench$Laying" "kindOne" "[I" ∈ wsX2_fillCosts := by decide +kernel
  have hl_24 : Cond.fieldLink RX2 24 "LineageBench$Laying" "kindTwo" "[I" ∈ wsX2_fillCosts := by decide +kernel
  have hl_27 : Cond.fieldLink RX2 27 "LineageBench$Tree" "nodes" "I" ∈ wsX2_fillCosts := by decide +kernel
  have hl_38 : Cond.fieldLink RX2 38 "LineageBench$Tree" "kind" "[I" ∈ wsX2_fillCosts := by decide +kernel
  refine g_ldc (pc9 := 2) C rfl (NEV) dX2_fillCosts_0 (by decide +kernel) ?_
  refine g_istore (pc9 := 4) C rfl [(4, .int (NEV)), (0, .ref (w.1 (58))), (1, .int (gk)), (2, .int (nI (g))), (3, .ref (w.1 (64 + 5 * j)))] dX2_fillCosts_2 (by decide) rfl ?_
  refine g_aload_n (pc9 := 5) C rfl 4 dX2_fillCosts_4 rfl rfl ?_
  refine g_get (v := .int (nI (n))) (pc9 := 8) C rfl (64 + 5 * j) 4 dX2_fillCosts_5 (by omega) (ce_tree w (sI σ (59) (f)) (j)) hin_7 hl_27 rfl (by decide) rfl (congrArg (fun z => some (Value.int z)) ((nF_I).trans hn)) ?_
  refine g_iconst (pc9 := 9) C rfl (nI (1)) dX2_fillCosts_8 rfl ?_
  refine g_isub (pc9 := 10) C rfl dX2_fillCosts_9 ?_
  rw [nI_dn]
  refine g_istore (pc9 := 12) C rfl [(5, .int (dn n)), (4, .int (NEV)), (0, .ref (w.1 (58))), (1, .int (gk)), (2, .int (nI (g))), (3, .ref (w.1 (64 + 5 * j)))] dX2_fillCosts_10 (by decide) rfl ?_
  refine g_sub [0, 1, 2, 3, 4, 5] [(5, .int (dn n)), (4, .int (NEV)), (0, .ref (w.1 (58))), (1, .int (gk)), (2, .int (nI (g))), (3, .ref (w.1 (64 + 5 * j)))] rfl ?_
  refine g_lp3 (α := Nat) (β := Nat → Int32) (γ := Int32) (fun v h be => v ≤ n ∧ fiD (iA σ 60) (iA σ 61) (iA σ 62) (iA σ 63) (tK σ j) gk g v h be = fiD (iA σ 60) (iA σ 61) (iA σ 62) (iA σ 63) (tK σ j) gk g n f NEV) (fun v h be => v) (fun v h be => G p l e _ s m args below meth c _ w A _ (sI σ (59) (h)) 0 0 12 [(5, .int (dn v)), (4, .int (be)), (0, .ref (w.1 (58))), (1, .int (gk)), (2, .int (nI (g))), (3, .ref (w.1 (64 + 5 * j)))] []) (fun v h be hI ih => ?_) (n) (f) (NEV) ⟨Nat.le_refl _, rfl⟩
  obtain ⟨hv, hf⟩ := hI
  rcases Nat.eq_zero_or_pos v with h0 | h0
  · subst h0
    rw [dn_0]
    refine g_iload (pc9 := 14) C rfl 0 dX2_fillCosts_12 rfl ?_
    refine g_if_lt (pc9 := 17) C rfl 149 dX2_fillCosts_14 rfl (fun c_1 => ?_) (fun c_1 => ?_)
    · refine g_iload (pc9 := 151) C rfl 1 dX2_fillCosts_149 rfl ?_
      exact g_ireturn C hr hlk dX2_fillCosts_151 ⟨by rw [← hf]; rfl, by rw [← hf]; rfl⟩
    · exact absurd (by decide) c_1
  · rw [dn_s h0]
    have hkv := hk (v - 1) (by omega)
    have hfs := (fiD_s (f := h) (be := be) h0).symm.trans hf
    obtain ⟨he, hhe⟩ : ∃ z, z = heC h (iA σ 60) (iA σ 61) (iA σ 62) (iA σ 63) (tK σ j) gk g (v - 1) := ⟨_, rfl⟩
    rw [← hhe] at hfs
    rcases hg with hg | ⟨x, y, hx, hy, hg1, hg2⟩
    · refine g_iload (pc9 := 14) C rfl 0 dX2_fillCosts_12 rfl ?_
      refine g_if_lt (pc9 := 17) C rfl 149 dX2_fillCosts_14 rfl (fun c_2 => ?_) (fun c_2 => ?_)
      · replace c_2 := (z_lt (by omega)).mp c_2
        exact absurd c_2 (by simp)
      · replace c_2 := (not_congr (z_lt (by omega))).mp c_2
        refine g_ldc (pc9 := 19) C rfl (NEV) dX2_fillCosts_17 (by decide +kernel) ?_
        refine g_istore (pc9 := 21) C rfl [(6, .int (NEV)), (5, .int (nI (v - 1))), (4, .int (be)), (0, .ref (w.1 (58))), (1, .int (gk)), (2, .int (nI (g))), (3, .ref (w.1 (64 + 5 * j)))] dX2_fillCosts_19 (by decide) rfl ?_
        refine g_aload_n (pc9 := 22) C rfl 3 dX2_fillCosts_21 rfl rfl ?_
        refine g_get (v := .ref (w.1 (61))) (pc9 := 25) C rfl (58) 2 dX2_fillCosts_22 (by decide) (ce_58 w (sI σ (59) (h))) hin_2 hl_18 rfl (by decide) rfl rfl ?_
        refine g_iload_n (pc9 := 26) C rfl 5 dX2_fillCosts_25 rfl rfl ?_
        refine g_iald (x := -1) (pc9 := 27) C rfl (61) (g) dX2_fillCosts_26 (by decide) (ce_61 w (sI σ (59) (h))) rfl (by omega) (by decide) ((congrFun (iA_n (by decide)) _).trans hg) ?_
        refine g_iconst (pc9 := 28) C rfl ((-1)) dX2_fillCosts_27 rfl ?_
        refine g_icmp_eq (pc9 := 31) C rfl 54 dX2_fillCosts_28 rfl (fun c_3 => ?_) (fun c_3 => ?_)
        · refine g_iload_n (pc9 := 55) C rfl 4 dX2_fillCosts_54 rfl rfl ?_
          refine g_aload_n (pc9 := 56) C rfl 6 dX2_fillCosts_55 rfl rfl ?_
          refine g_get (v := .ref (w.1 (66 + 5 * j))) (pc9 := 59) C rfl (64 + 5 * j) 1 dX2_fillCosts_56 (by omega) (ce_tree w (sI σ (59) (h)) (j)) hin_7 hl_38 rfl (by decide) rfl rfl ?_
          refine g_iload (pc9 := 61) C rfl 1 dX2_fillCosts_59 rfl ?_
          refine g_iald (x := (iA σ (66 + 5 * j)) (v - 1)) (pc9 := 62) C rfl (66 + 5 * j) (v - 1) dX2_fillCosts_61 (by omega) (ce_kind w (sI σ (59) (h)) (j)) rfl (by omega) (by decide) (congrFun (iA_n (by omega)) _) ?_
          refine g_icmp_ne (pc9 := 65) C rfl 68 dX2_fillCosts_62 rfl (fun c_4 => ?_) (fun c_4 => ?_)
          · have hq : heC h (iA σ 60) (iA σ 61) (iA σ 62) (iA σ 63) (tK σ j) gk g (v - 1) = NEV := by
              unfold heC
              rw [if_pos hg, if_neg c_4]
            refine g_sub [0, 1, 2, 3, 4, 5, 6] [(6, .int (NEV)), (5, .int (nI (v - 1))), (4, .int (be)), (0, .ref (w.1 (58))), (1, .int (gk)), (2, .int (nI (g))), (3, .ref (w.1 (64 + 5 * j)))] rfl ?_
            refine g_lv1 he (by rw [hhe, hq]) ?_
            clear hhe
            rcases hkv with hkv | ⟨a, b, ha, hb, hk1, hk2⟩
            · have hli : liC h (iA σ 62) (iA σ 63) he g (v - 1) = he := if_pos hkv
              refine g_iload (pc9 := 70) C rfl 2 dX2_fillCosts_68 rfl ?_
              refine g_iload (pc9 := 72) C rfl 0 dX2_fillCosts_70 rfl ?_
              refine g_mmin (pc9 := 75) C rfl dX2_fillCosts_72 (by decide +kernel) (by decide +kernel) (by decide +kernel) (by decide +kernel) (by decide) (Nat.le_of_ble_eq_true rfl) (by decide) (by decide) ?_
              refine g_istore (pc9 := 77) C rfl [(4, .int (if he < be then he else be)), (6, .int (he)), (5, .int (nI (v - 1))), (0, .ref (w.1 (58))), (1, .int (gk)), (2, .int (nI (g))), (3, .ref (w.1 (64 + 5 * j)))] dX2_fillCosts_75 (by decide) rfl ?_
              refine g_aload_n (pc9 := 78) C rfl 3 dX2_fillCosts_77 rfl rfl ?_
              refine g_get (v := .ref (w.1 (63))) (pc9 := 81) C rfl (58) 4 dX2_fillCosts_78 (by decide) (ce_58 w (sI σ (59) (h))) hin_2 hl_24 rfl (by decide) rfl rfl ?_
              refine g_iload (pc9 := 83) C rfl 2 dX2_fillCosts_81 rfl ?_
              refine g_iald (x := -1) (pc9 := 84) C rfl (63) (v - 1) dX2_fillCosts_83 (by decide) (ce_63 w (sI σ (59) (h))) rfl (by omega) (by decide) ((congrFun (iA_n (by decide)) _).trans hkv) ?_
              refine g_iconst (pc9 := 85) C rfl ((-1)) dX2_fillCosts_84 rfl ?_
              refine g_icmp_eq (pc9 := 88) C rfl 124 dX2_fillCosts_85 rfl (fun c_5 => ?_) (fun c_5 => ?_)
              · refine g_aload_n (pc9 := 125) C rfl 3 dX2_fillCosts_124 rfl rfl ?_
                refine g_get (v := .ref (w.1 (59))) (pc9 := 128) C rfl (58) 0 dX2_fillCosts_125 (by decide) (ce_58 w (sI σ (59) (h))) hin_2 hl_11 rfl (by decide) rfl rfl ?_
                refine g_iload_n (pc9 := 129) C rfl 5 dX2_fillCosts_128 rfl rfl ?_
                refine g_bipush (pc9 := 131) C rfl (nI (23)) dX2_fillCosts_129 rfl ?_
                refine g_imulN (pc9 := 132) C rfl dX2_fillCosts_131 ?_
                refine g_iload (pc9 := 134) C rfl 2 dX2_fillCosts_132 rfl ?_
                refine g_iaddN (pc9 := 135) C rfl dX2_fillCosts_134 ?_
                refine g_iload (pc9 := 137) C rfl 1 dX2_fillCosts_135 rfl ?_
                refine g_ldc (pc9 := 139) C rfl (NEV) dX2_fillCosts_137 (by decide +kernel) ?_
                refine g_mmin (pc9 := 142) C rfl dX2_fillCosts_139 (by decide +kernel) (by decide +kernel) (by decide +kernel) (by decide +kernel) (by decide) (Nat.le_of_ble_eq_true rfl) (by decide) (by decide) ?_
                refine g_iast (pc9 := 143) C rfl (59) ((g * 23) + (v - 1)) (h) dX2_fillCosts_142 (by decide) (fun _ => rfl) (ce_59 w (sI σ (59) (h))) rfl (by omega) (by decide) (iA_s) ?_
                rw [sI_sI (a := 59)]
                refine g_iinc (pc9 := 146) C rfl [(5, .int (dn (v - 1))), (4, .int (if he < be then he else be)), (6, .int (he)), (0, .ref (w.1 (58))), (1, .int (gk)), (2, .int (nI (g))), (3, .ref (w.1 (64 + 5 * j)))] 2 (dn (v - 1)) dX2_fillCosts_143 rfl rfl (by decide) rfl ?_
                refine g_goto C 12 dX2_fillCosts_146 rfl ?_
                refine g_sub [0, 1, 3, 4, 5, 6] [(5, .int (dn (v - 1))), (4, .int (if he < be then he else be)), (0, .ref (w.1 (58))), (1, .int (gk)), (2, .int (nI (g))), (3, .ref (w.1 (64 + 5 * j)))] rfl ?_
                exact ih (v - 1) _ _ ⟨by omega, by rw [hli] at hfs; exact hfs⟩ (by omega)
              · exact absurd rfl (by assumption)
            · have hli : liC h (iA σ 62) (iA σ 63) he g (v - 1) = mn he (nI 1 + mn (h (g * 23 + a)) (h (g * 23 + b))) := by
                unfold liC
                rw [if_neg (by rw [hk2]; exact nI_m1 (by omega)), hk1, hk2, nI_clamp (by omega), nI_clamp (by omega)]
              refine g_iload (pc9 := 70) C rfl 2 dX2_fillCosts_68 rfl ?_
              refine g_iload (pc9 := 72) C rfl 0 dX2_fillCosts_70 rfl ?_
              refine g_mmin (pc9 := 75) C rfl dX2_fillCosts_72 (by decide +kernel) (by decide +kernel) (by decide +kernel) (by decide +kernel) (by decide) (Nat.le_of_ble_eq_true rfl) (by decide) (by decide) ?_
              refine g_istore (pc9 := 77) C rfl [(4, .int (if he < be then he else be)), (6, .int (he)), (5, .int (nI (v - 1))), (0, .ref (w.1 (58))), (1, .int (gk)), (2, .int (nI (g))), (3, .ref (w.1 (64 + 5 * j)))] dX2_fillCosts_75 (by decide) rfl ?_
              refine g_aload_n (pc9 := 78) C rfl 3 dX2_fillCosts_77 rfl rfl ?_
              refine g_get (v := .ref (w.1 (63))) (pc9 := 81) C rfl (58) 4 dX2_fillCosts_78 (by decide) (ce_58 w (sI σ (59) (h))) hin_2 hl_24 rfl (by decide) rfl rfl ?_
              refine g_iload (pc9 := 83) C rfl 2 dX2_fillCosts_81 rfl ?_
              refine g_iald (x := nI (b)) (pc9 := 84) C rfl (63) (v - 1) dX2_fillCosts_83 (by decide) (ce_63 w (sI σ (59) (h))) rfl (by omega) (by decide) ((congrFun (iA_n (by decide)) _).trans hk2) ?_
              refine g_iconst (pc9 := 85) C rfl ((-1)) dX2_fillCosts_84 rfl ?_
              refine g_icmp_eq (pc9 := 88) C rfl 124 dX2_fillCosts_85 rfl (fun c_6 => ?_) (fun c_6 => ?_)
              · exact absurd c_6 (nI_m1 (by omega))
              · refine g_iload (pc9 := 90) C rfl 1 dX2_fillCosts_88 rfl ?_
                refine g_iconst (pc9 := 91) C rfl (nI (1)) dX2_fillCosts_90 rfl ?_
                refine g_aload_n (pc9 := 92) C rfl 3 dX2_fillCosts_91 rfl rfl ?_
                refine g_iload_n (pc9 := 93) C rfl 5 dX2_fillCosts_92 rfl rfl ?_
                refine g_aload_n (pc9 := 94) C rfl 3 dX2_fillCosts_93 rfl rfl ?_
                refine g_get (v := .ref (w.1 (62))) (pc9 := 97) C rfl (58) 3 dX2_fillCosts_94 (by decide) (ce_58 w (sI σ (59) (h))) hin_2 hl_21 rfl (by decide) rfl rfl ?_
                refine g_iload (pc9 := 99) C rfl 2 dX2_fillCosts_97 rfl ?_
                refine g_iald (x := nI (a)) (pc9 := 100) C rfl (62) (v - 1) dX2_fillCosts_99 (by decide) (ce_62 w (sI σ (59) (h))) rfl (by omega) (by decide) ((congrFun (iA_n (by decide)) _).trans hk1) ?_
                refine g_callVi (nn := 2) (rest := [.int (nI (1)), .int (he)]) (pc9 := 103) C rfl (58) [.int (nI (g)), .int (nI (a))] rfl dX2_fillCosts_100 (m_X2_lifted l w (sI σ (59) (h)) (g) (a) (by omega) (by omega)) gX2_fillCosts_X2_lifted (by decide) (ce_58 w (sI σ (59) (h))) rfl rfl rfl rfl rfl (by decide +kernel) ⟨by decide, by decide⟩ rfl (Nat.le_of_ble_eq_true rfl) ⟨by decide, by decide⟩ (fun r_7 σ_7 q_7 => ?_)
                obtain ⟨qs_7, qr_7⟩ := q_7
                rw [qs_7, qr_7]
                clear qs_7 qr_7
                refine g_ti (h (g * 23 + a)) (congrFun iA_s _) ?_
                refine g_aload_n (pc9 := 104) C rfl 3 dX2_fillCosts_103 rfl rfl ?_
                refine g_iload_n (pc9 := 105) C rfl 5 dX2_fillCosts_104 rfl rfl ?_
                refine g_aload_n (pc9 := 106) C rfl 3 dX2_fillCosts_105 rfl rfl ?_
                refine g_get (v := .ref (w.1 (63))) (pc9 := 109) C rfl (58) 4 dX2_fillCosts_106 (by decide) (ce_58 w (sI σ (59) (h))) hin_2 hl_24 rfl (by decide) rfl rfl ?_
                refine g_iload (pc9 := 111) C rfl 2 dX2_fillCosts_109 rfl ?_
                refine g_iald (x := nI (b)) (pc9 := 112) C rfl (63) (v - 1) dX2_fillCosts_111 (by decide) (ce_63 w (sI σ (59) (h))) rfl (by omega) (by decide) ((congrFun (iA_n (by decide)) _).trans hk2) ?_
                refine g_callVi (nn := 2) (rest := [.int (h (g * 23 + a)), .int (nI (1)), .int (he)]) (pc9 := 115) C rfl (58) [.int (nI (g)), .int (nI (b))] rfl dX2_fillCosts_112 (m_X2_lifted l w (sI σ (59) (h)) (g) (b) (by omega) (by omega)) gX2_fillCosts_X2_lifted (by decide) (ce_58 w (sI σ (59) (h))) rfl rfl rfl rfl rfl (by decide +kernel) ⟨by decide, by decide⟩ rfl (Nat.le_of_ble_eq_true rfl) ⟨by decide, by decide⟩ (fun r_8 σ_8 q_8 => ?_)
                obtain ⟨qs_8, qr_8⟩ := q_8
                rw [qs_8, qr_8]
                clear qs_8 qr_8
                refine g_ti (h (g * 23 + b)) (congrFun iA_s _) ?_
                refine g_mmin (pc9 := 118) C rfl dX2_fillCosts_115 (by decide +kernel) (by decide +kernel) (by decide +kernel) (by decide +kernel) (by decide) (Nat.le_of_ble_eq_true rfl) (by decide) (by decide) ?_
                refine g_iadd (pc9 := 119) C rfl dX2_fillCosts_118 ?_
                refine g_mmin (pc9 := 122) C rfl dX2_fillCosts_119 (by decide +kernel) (by decide +kernel) (by decide +kernel) (by decide +kernel) (by decide) (Nat.le_of_ble_eq_true rfl) (by decide) (by decide) ?_
                refine g_istore (pc9 := 124) C rfl [(6, .int (if (nI (1)) + (if h (g * 23 + b) < h (g * 23 + a) then h (g * 23 + b) else h (g * 23 + a)) < he then (nI (1)) + (if h (g * 23 + b) < h (g * 23 + a) then h (g * 23 + b) else h (g * 23 + a)) else he)), (4, .int (if he < be then he else be)), (5, .int (nI (v - 1))), (0, .ref (w.1 (58))), (1, .int (gk)), (2, .int (nI (g))), (3, .ref (w.1 (64 + 5 * j)))] dX2_fillCosts_122 (by decide) rfl ?_
                refine g_aload_n (pc9 := 125) C rfl 3 dX2_fillCosts_124 rfl rfl ?_
                refine g_get (v := .ref (w.1 (59))) (pc9 := 128) C rfl (58) 0 dX2_fillCosts_125 (by decide) (ce_58 w (sI σ (59) (h))) hin_2 hl_11 rfl (by decide) rfl rfl ?_
                refine g_iload_n (pc9 := 129) C rfl 5 dX2_fillCosts_128 rfl rfl ?_
                refine g_bipush (pc9 := 131) C rfl (nI (23)) dX2_fillCosts_129 rfl ?_
                refine g_imulN (pc9 := 132) C rfl dX2_fillCosts_131 ?_
                refine g_iload (pc9 := 134) C rfl 2 dX2_fillCosts_132 rfl ?_
                refine g_iaddN (pc9 := 135) C rfl dX2_fillCosts_134 ?_
                refine g_iload (pc9 := 137) C rfl 0 dX2_fillCosts_135 rfl ?_
                refine g_ldc (pc9 := 139) C rfl (NEV) dX2_fillCosts_137 (by decide +kernel) ?_
                refine g_mmin (pc9 := 142) C rfl dX2_fillCosts_139 (by decide +kernel) (by decide +kernel) (by decide +kernel) (by decide +kernel) (by decide) (Nat.le_of_ble_eq_true rfl) (by decide) (by decide) ?_
                refine g_iast (pc9 := 143) C rfl (59) ((g * 23) + (v - 1)) (h) dX2_fillCosts_142 (by decide) (fun _ => rfl) (ce_59 w (sI σ (59) (h))) rfl (by omega) (by decide) (iA_s) ?_
                rw [sI_sI (a := 59)]
                refine g_iinc (pc9 := 146) C rfl [(5, .int (dn (v - 1))), (6, .int (if (nI (1)) + (if h (g * 23 + b) < h (g * 23 + a) then h (g * 23 + b) else h (g * 23 + a)) < he then (nI (1)) + (if h (g * 23 + b) < h (g * 23 + a) then h (g * 23 + b) else h (g * 23 + a)) else he)), (4, .int (if he < be then he else be)), (0, .ref (w.1 (58))), (1, .int (gk)), (2, .int (nI (g))), (3, .ref (w.1 (64 + 5 * j)))] 2 (dn (v - 1)) dX2_fillCosts_143 rfl rfl (by decide) rfl ?_
                refine g_goto C 12 dX2_fillCosts_146 rfl ?_
                refine g_sub [0, 2, 3, 4, 5, 6] [(5, .int (dn (v - 1))), (4, .int (if he < be then he else be)), (0, .ref (w.1 (58))), (1, .int (gk)), (2, .int (nI (g))), (3, .ref (w.1 (64 + 5 * j)))] rfl ?_
                exact ih (v - 1) _ _ ⟨by omega, by rw [hli] at hfs; exact hfs⟩ (by omega)
          · have hq : heC h (iA σ 60) (iA σ 61) (iA σ 62) (iA σ 63) (tK σ j) gk g (v - 1) = nI 0 := by
              unfold heC
              rw [if_pos hg, if_pos c_4]
            refine g_iconst (pc9 := 66) C rfl (nI (0)) dX2_fillCosts_65 rfl ?_
            refine g_istore (pc9 := 68) C rfl [(6, .int (nI (0))), (5, .int (nI (v - 1))), (4, .int (be)), (0, .ref (w.1 (58))), (1, .int (gk)), (2, .int (nI (g))), (3, .ref (w.1 (64 + 5 * j)))] dX2_fillCosts_66 (by decide) rfl ?_
            refine g_sub [0, 1, 2, 3, 4, 5, 6] [(6, .int (nI (0))), (5, .int (nI (v - 1))), (4, .int (be)), (0, .ref (w.1 (58))), (1, .int (gk)), (2, .int (nI (g))), (3, .ref (w.1 (64 + 5 * j)))] rfl ?_
            refine g_lv1 he (by rw [hhe, hq]) ?_
            clear hhe
            rcases hkv with hkv | ⟨a, b, ha, hb, hk1, hk2⟩
            · have hli : liC h (iA σ 62) (iA σ 63) he g (v - 1) = he := if_pos hkv
              refine g_iload (pc9 := 70) C rfl 2 dX2_fillCosts_68 rfl ?_
              refine g_iload (pc9 := 72) C rfl 0 dX2_fillCosts_70 rfl ?_
              refine g_mmin (pc9 := 75) C rfl dX2_fillCosts_72 (by decide +kernel) (by decide +kernel) (by decide +kernel) (by decide +kernel) (by decide) (Nat.le_of_ble_eq_true rfl) (by decide) (by decide) ?_
              refine g_istore (pc9 := 77) C rfl [(4, .int (if he < be then he else be)), (6, .int (he)), (5, .int (nI (v - 1))), (0, .ref (w.1 (58))), (1, .int (gk)), (2, .int (nI (g))), (3, .ref (w.1 (64 + 5 * j)))] dX2_fillCosts_75 (by decide) rfl ?_
              refine g_aload_n (pc9 := 78) C rfl 3 dX2_fillCosts_77 rfl rfl ?_
              refine g_get (v := .ref (w.1 (63))) (pc9 := 81) C rfl (58) 4 dX2_fillCosts_78 (by decide) (ce_58 w (sI σ (59) (h))) hin_2 hl_24 rfl (by decide) rfl rfl ?_
              refine g_iload (pc9 := 83) C rfl 2 dX2_fillCosts_81 rfl ?_
              refine g_iald (x := -1) (pc9 := 84) C rfl (63) (v - 1) dX2_fillCosts_83 (by decide) (ce_63 w (sI σ (59) (h))) rfl (by omega) (by decide) ((congrFun (iA_n (by decide)) _).trans hkv) ?_
              refine g_iconst (pc9 := 85) C rfl ((-1)) dX2_fillCosts_84 rfl ?_
              refine g_icmp_eq (pc9 := 88) C rfl 124 dX2_fillCosts_85 rfl (fun c_9 => ?_) (fun c_9 => ?_)
              · refine g_aload_n (pc9 := 125) C rfl 3 dX2_fillCosts_124 rfl rfl ?_
                refine g_get (v := .ref (w.1 (59))) (pc9 := 128) C rfl (58) 0 dX2_fillCosts_125 (by decide) (ce_58 w (sI σ (59) (h))) hin_2 hl_11 rfl (by decide) rfl rfl ?_
                refine g_iload_n (pc9 := 129) C rfl 5 dX2_fillCosts_128 rfl rfl ?_
                refine g_bipush (pc9 := 131) C rfl (nI (23)) dX2_fillCosts_129 rfl ?_
                refine g_imulN (pc9 := 132) C rfl dX2_fillCosts_131 ?_
                refine g_iload (pc9 := 134) C rfl 2 dX2_fillCosts_132 rfl ?_
                refine g_iaddN (pc9 := 135) C rfl dX2_fillCosts_134 ?_
                refine g_iload (pc9 := 137) C rfl 1 dX2_fillCosts_135 rfl ?_
                refine g_ldc (pc9 := 139) C rfl (NEV) dX2_fillCosts_137 (by decide +kernel) ?_
                refine g_mmin (pc9 := 142) C rfl dX2_fillCosts_139 (by decide +kernel) (by decide +kernel) (by decide +kernel) (by decide +kernel) (by decide) (Nat.le_of_ble_eq_true rfl) (by decide) (by decide) ?_
                refine g_iast (pc9 := 143) C rfl (59) ((g * 23) + (v - 1)) (h) dX2_fillCosts_142 (by decide) (fun _ => rfl) (ce_59 w (sI σ (59) (h))) rfl (by omega) (by decide) (iA_s) ?_
                rw [sI_sI (a := 59)]
                refine g_iinc (pc9 := 146) C rfl [(5, .int (dn (v - 1))), (4, .int (if he < be then he else be)), (6, .int (he)), (0, .ref (w.1 (58))), (1, .int (gk)), (2, .int (nI (g))), (3, .ref (w.1 (64 + 5 * j)))] 2 (dn (v - 1)) dX2_fillCosts_143 rfl rfl (by decide) rfl ?_
                refine g_goto C 12 dX2_fillCosts_146 rfl ?_
                refine g_sub [0, 1, 3, 4, 5, 6] [(5, .int (dn (v - 1))), (4, .int (if he < be then he else be)), (0, .ref (w.1 (58))), (1, .int (gk)), (2, .int (nI (g))), (3, .ref (w.1 (64 + 5 * j)))] rfl ?_
                exact ih (v - 1) _ _ ⟨by omega, by rw [hli] at hfs; exact hfs⟩ (by omega)
              · exact absurd rfl (by assumption)
            · have hli : liC h (iA σ 62) (iA σ 63) he g (v - 1) = mn he (nI 1 + mn (h (g * 23 + a)) (h (g * 23 + b))) := by
                unfold liC
                rw [if_neg (by rw [hk2]; exact nI_m1 (by omega)), hk1, hk2, nI_clamp (by omega), nI_clamp (by omega)]
              refine g_iload (pc9 := 70) C rfl 2 dX2_fillCosts_68 rfl ?_
              refine g_iload (pc9 := 72) C rfl 0 dX2_fillCosts_70 rfl ?_
              refine g_mmin (pc9 := 75) C rfl dX2_fillCosts_72 (by decide +kernel) (by decide +kernel) (by decide +kernel) (by decide +kernel) (by decide) (Nat.le_of_ble_eq_true rfl) (by decide) (by decide) ?_
              refine g_istore (pc9 := 77) C rfl [(4, .int (if he < be then he else be)), (6, .int (he)), (5, .int (nI (v - 1))), (0, .ref (w.1 (58))), (1, .int (gk)), (2, .int (nI (g))), (3, .ref (w.1 (64 + 5 * j)))] dX2_fillCosts_75 (by decide) rfl ?_
              refine g_aload_n (pc9 := 78) C rfl 3 dX2_fillCosts_77 rfl rfl ?_
              refine g_get (v := .ref (w.1 (63))) (pc9 := 81) C rfl (58) 4 dX2_fillCosts_78 (by decide) (ce_58 w (sI σ (59) (h))) hin_2 hl_24 rfl (by decide) rfl rfl ?_
              refine g_iload (pc9 := 83) C rfl 2 dX2_fillCosts_81 rfl ?_
              refine g_iald (x := nI (b)) (pc9 := 84) C rfl (63) (v - 1) dX2_fillCosts_83 (by decide) (ce_63 w (sI σ (59) (h))) rfl (by omega) (by decide) ((congrFun (iA_n (by decide)) _).trans hk2) ?_
              refine g_iconst (pc9 := 85) C rfl ((-1)) dX2_fillCosts_84 rfl ?_
              refine g_icmp_eq (pc9 := 88) C rfl 124 dX2_fillCosts_85 rfl (fun c_10 => ?_) (fun c_10 => ?_)
              · exact absurd c_10 (nI_m1 (by omega))
              · refine g_iload (pc9 := 90) C rfl 1 dX2_fillCosts_88 rfl ?_
                refine g_iconst (pc9 := 91) C rfl (nI (1)) dX2_fillCosts_90 rfl ?_
                refine g_aload_n (pc9 := 92) C rfl 3 dX2_fillCosts_91 rfl rfl ?_
                refine g_iload_n (pc9 := 93) C rfl 5 dX2_fillCosts_92 rfl rfl ?_
                refine g_aload_n (pc9 := 94) C rfl 3 dX2_fillCosts_93 rfl rfl ?_
                refine g_get (v := .ref (w.1 (62))) (pc9 := 97) C rfl (58) 3 dX2_fillCosts_94 (by decide) (ce_58 w (sI σ (59) (h))) hin_2 hl_21 rfl (by decide) rfl rfl ?_
                refine g_iload (pc9 := 99) C rfl 2 dX2_fillCosts_97 rfl ?_
                refine g_iald (x := nI (a)) (pc9 := 100) C rfl (62) (v - 1) dX2_fillCosts_99 (by decide) (ce_62 w (sI σ (59) (h))) rfl (by omega) (by decide) ((congrFun (iA_n (by decide)) _).trans hk1) ?_
                refine g_callVi (nn := 2) (rest := [.int (nI (1)), .int (he)]) (pc9 := 103) C rfl (58) [.int (nI (g)), .int (nI (a))] rfl dX2_fillCosts_100 (m_X2_lifted l w (sI σ (59) (h)) (g) (a) (by omega) (by omega)) gX2_fillCosts_X2_lifted (by decide) (ce_58 w (sI σ (59) (h))) rfl rfl rfl rfl rfl (by decide +kernel) ⟨by decide, by decide⟩ rfl (Nat.le_of_ble_eq_true rfl) ⟨by decide, by decide⟩ (fun r_11 σ_11 q_11 => ?_)
                obtain ⟨qs_11, qr_11⟩ := q_11
                rw [qs_11, qr_11]
                clear qs_11 qr_11
                refine g_ti (h (g * 23 + a)) (congrFun iA_s _) ?_
                refine g_aload_n (pc9 := 104) C rfl 3 dX2_fillCosts_103 rfl rfl ?_
                refine g_iload_n (pc9 := 105) C rfl 5 dX2_fillCosts_104 rfl rfl ?_
                refine g_aload_n (pc9 := 106) C rfl 3 dX2_fillCosts_105 rfl rfl ?_
                refine g_get (v := .ref (w.1 (63))) (pc9 := 109) C rfl (58) 4 dX2_fillCosts_106 (by decide) (ce_58 w (sI σ (59) (h))) hin_2 hl_24 rfl (by decide) rfl rfl ?_
                refine g_iload (pc9 := 111) C rfl 2 dX2_fillCosts_109 rfl ?_
                refine g_iald (x := nI (b)) (pc9 := 112) C rfl (63) (v - 1) dX2_fillCosts_111 (by decide) (ce_63 w (sI σ (59) (h))) rfl (by omega) (by decide) ((congrFun (iA_n (by decide)) _).trans hk2) ?_
                refine g_callVi (nn := 2) (rest := [.int (h (g * 23 + a)), .int (nI (1)), .int (he)]) (pc9 := 115) C rfl (58) [.int (nI (g)), .int (nI (b))] rfl dX2_fillCosts_112 (m_X2_lifted l w (sI σ (59) (h)) (g) (b) (by omega) (by omega)) gX2_fillCosts_X2_lifted (by decide) (ce_58 w (sI σ (59) (h))) rfl rfl rfl rfl rfl (by decide +kernel) ⟨by decide, by decide⟩ rfl (Nat.le_of_ble_eq_true rfl) ⟨by decide, by decide⟩ (fun r_12 σ_12 q_12 => ?_)
                obtain ⟨qs_12, qr_12⟩ := q_12
                rw [qs_12, qr_12]
                clear qs_12 qr_12
                refine g_ti (h (g * 23 + b)) (congrFun iA_s _) ?_
                refine g_mmin (pc9 := 118) C rfl dX2_fillCosts_115 (by decide +kernel) (by decide +kernel) (by decide +kernel) (by decide +kernel) (by decide) (Nat.le_of_ble_eq_true rfl) (by decide) (by decide) ?_
                refine g_iadd (pc9 := 119) C rfl dX2_fillCosts_118 ?_
                refine g_mmin (pc9 := 122) C rfl dX2_fillCosts_119 (by decide +kernel) (by decide +kernel) (by decide +kernel) (by decide +kernel) (by decide) (Nat.le_of_ble_eq_true rfl) (by decide) (by decide) ?_
                refine g_istore (pc9 := 124) C rfl [(6, .int (if (nI (1)) + (if h (g * 23 + b) < h (g * 23 + a) then h (g * 23 + b) else h (g * 23 + a)) < he then (nI (1)) + (if h (g * 23 + b) < h (g * 23 + a) then h (g * 23 + b) else h (g * 23 + a)) else he)), (4, .int (if he < be then he else be)), (5, .int (nI (v - 1))), (0, .ref (w.1 (58))), (1, .int (gk)), (2, .int (nI (g))), (3, .ref (w.1 (64 + 5 * j)))] dX2_fillCosts_122 (by decide) rfl ?_
                refine g_aload_n (pc9 := 125) C rfl 3 dX2_fillCosts_124 rfl rfl ?_
                refine g_get (v := .ref (w.1 (59))) (pc9 := 128) C rfl (58) 0 dX2_fillCosts_125 (by decide) (ce_58 w (sI σ (59) (h))) hin_2 hl_11 rfl (by decide) rfl rfl ?_
                refine g_iload_n (pc9 := 129) C rfl 5 dX2_fillCosts_128 rfl rfl ?_
                refine g_bipush (pc9 := 131) C rfl (nI (23)) dX2_fillCosts_129 rfl ?_
                refine g_imulN (pc9 := 132) C rfl dX2_fillCosts_131 ?_
                refine g_iload (pc9 := 134) C rfl 2 dX2_fillCosts_132 rfl ?_
                refine g_iaddN (pc9 := 135) C rfl dX2_fillCosts_134 ?_
                refine g_iload (pc9 := 137) C rfl 0 dX2_fillCosts_135 rfl ?_
                refine g_ldc (pc9 := 139) C rfl (NEV) dX2_fillCosts_137 (by decide +kernel) ?_
                refine g_mmin (pc9 := 142) C rfl dX2_fillCosts_139 (by decide +kernel) (by decide +kernel) (by decide +kernel) (by decide +kernel) (by decide) (Nat.le_of_ble_eq_true rfl) (by decide) (by decide) ?_
                refine g_iast (pc9 := 143) C rfl (59) ((g * 23) + (v - 1)) (h) dX2_fillCosts_142 (by decide) (fun _ => rfl) (ce_59 w (sI σ (59) (h))) rfl (by omega) (by decide) (iA_s) ?_
                rw [sI_sI (a := 59)]
                refine g_iinc (pc9 := 146) C rfl [(5, .int (dn (v - 1))), (6, .int (if (nI (1)) + (if h (g * 23 + b) < h (g * 23 + a) then h (g * 23 + b) else h (g * 23 + a)) < he then (nI (1)) + (if h (g * 23 + b) < h (g * 23 + a) then h (g * 23 + b) else h (g * 23 + a)) else he)), (4, .int (if he < be then he else be)), (0, .ref (w.1 (58))), (1, .int (gk)), (2, .int (nI (g))), (3, .ref (w.1 (64 + 5 * j)))] 2 (dn (v - 1)) dX2_fillCosts_143 rfl rfl (by decide) rfl ?_
                refine g_goto C 12 dX2_fillCosts_146 rfl ?_
                refine g_sub [0, 2, 3, 4, 5, 6] [(5, .int (dn (v - 1))), (4, .int (if he < be then he else be)), (0, .ref (w.1 (58))), (1, .int (gk)), (2, .int (nI (g))), (3, .ref (w.1 (64 + 5 * j)))] rfl ?_
                exact ih (v - 1) _ _ ⟨by omega, by rw [hli] at hfs; exact hfs⟩ (by omega)
        · exact absurd rfl (by assumption)
    · refine g_iload (pc9 := 14) C rfl 0 dX2_fillCosts_12 rfl ?_
      refine g_if_lt (pc9 := 17) C rfl 149 dX2_fillCosts_14 rfl (fun c_13 => ?_) (fun c_13 => ?_)
      · replace c_13 := (z_lt (by omega)).mp c_13
        exact absurd c_13 (by simp)
      · replace c_13 := (not_congr (z_lt (by omega))).mp c_13
        refine g_ldc (pc9 := 19) C rfl (NEV) dX2_fillCosts_17 (by decide +kernel) ?_
        refine g_istore (pc9 := 21) C rfl [(6, .int (NEV)), (5, .int (nI (v - 1))), (4, .int (be)), (0, .ref (w.1 (58))), (1, .int (gk)), (2, .int (nI (g))), (3, .ref (w.1 (64 + 5 * j)))] dX2_fillCosts_19 (by decide) rfl ?_
        refine g_aload_n (pc9 := 22) C rfl 3 dX2_fillCosts_21 rfl rfl ?_
        refine g_get (v := .ref (w.1 (61))) (pc9 := 25) C rfl (58) 2 dX2_fillCosts_22 (by decide) (ce_58 w (sI σ (59) (h))) hin_2 hl_18 rfl (by decide) rfl rfl ?_
        refine g_iload_n (pc9 := 26) C rfl 5 dX2_fillCosts_25 rfl rfl ?_
        refine g_iald (x := nI (y)) (pc9 := 27) C rfl (61) (g) dX2_fillCosts_26 (by decide) (ce_61 w (sI σ (59) (h))) rfl (by omega) (by decide) ((congrFun (iA_n (by decide)) _).trans hg2) ?_
        refine g_iconst (pc9 := 28) C rfl ((-1)) dX2_fillCosts_27 rfl ?_
        refine g_icmp_eq (pc9 := 31) C rfl 54 dX2_fillCosts_28 rfl (fun c_14 => ?_) (fun c_14 => ?_)
        · exact absurd c_14 (nI_m1 (by omega))
        · refine g_aload_n (pc9 := 32) C rfl 3 dX2_fillCosts_31 rfl rfl ?_
          refine g_aload_n (pc9 := 33) C rfl 3 dX2_fillCosts_32 rfl rfl ?_
          refine g_get (v := .ref (w.1 (60))) (pc9 := 36) C rfl (58) 1 dX2_fillCosts_33 (by decide) (ce_58 w (sI σ (59) (h))) hin_2 hl_15 rfl (by decide) rfl rfl ?_
          refine g_iload_n (pc9 := 37) C rfl 5 dX2_fillCosts_36 rfl rfl ?_
          refine g_iald (x := nI (x)) (pc9 := 38) C rfl (60) (g) dX2_fillCosts_37 (by decide) (ce_60 w (sI σ (59) (h))) rfl (by omega) (by decide) ((congrFun (iA_n (by decide)) _).trans hg1) ?_
          refine g_aload_n (pc9 := 39) C rfl 3 dX2_fillCosts_38 rfl rfl ?_
          refine g_get (v := .ref (w.1 (61))) (pc9 := 42) C rfl (58) 2 dX2_fillCosts_39 (by decide) (ce_58 w (sI σ (59) (h))) hin_2 hl_18 rfl (by decide) rfl rfl ?_
          refine g_iload_n (pc9 := 43) C rfl 5 dX2_fillCosts_42 rfl rfl ?_
          refine g_iald (x := nI (y)) (pc9 := 44) C rfl (61) (g) dX2_fillCosts_43 (by decide) (ce_61 w (sI σ (59) (h))) rfl (by omega) (by decide) ((congrFun (iA_n (by decide)) _).trans hg2) ?_
          refine g_iload (pc9 := 46) C rfl 1 dX2_fillCosts_44 rfl ?_
          refine g_callVi (nn := 3) (rest := []) (pc9 := 49) C rfl (58) [.int (nI (x)), .int (nI (y)), .int (nI (v - 1))] rfl dX2_fillCosts_46 (m_X2_branchingCost l w (sI σ (59) (h)) x y (v - 1) hx hy (by omega) hkv) gX2_fillCosts_X2_branchingCost (by decide) (ce_58 w (sI σ (59) (h))) rfl rfl rfl rfl rfl (by decide +kernel) ⟨by decide, by decide⟩ rfl (Nat.le_of_ble_eq_true rfl) ⟨by decide, by decide⟩ (fun r_15 σ_15 q_15 => ?_)
          obtain ⟨qs_15, qr_15⟩ := q_15
          replace qr_15 : r_15 = brC h (iA σ 62) (iA σ 63) x y (v - 1) := qr_15.trans (by rw [iA_s]; rfl)
          rw [qs_15, qr_15]
          clear qs_15 qr_15
          have hq : heC h (iA σ 60) (iA σ 61) (iA σ 62) (iA σ 63) (tK σ j) gk g (v - 1) = brC h (iA σ 62) (iA σ 63) x y (v - 1) := by
            unfold heC
            rw [if_neg (by rw [hg2]; exact nI_m1 (by omega)), hg1, hg2, nI_clamp (by omega), nI_clamp (by omega)]
          refine g_istore (pc9 := 51) C rfl [(6, .int (brC h (iA σ 62) (iA σ 63) x y (v - 1))), (5, .int (nI (v - 1))), (4, .int (be)), (0, .ref (w.1 (58))), (1, .int (gk)), (2, .int (nI (g))), (3, .ref (w.1 (64 + 5 * j)))] dX2_fillCosts_49 (by decide) rfl ?_
          refine g_goto C 68 dX2_fillCosts_51 rfl ?_
          refine g_sub [0, 1, 2, 3, 4, 5, 6] [(6, .int (brC h (iA σ 62) (iA σ 63) x y (v - 1))), (5, .int (nI (v - 1))), (4, .int (be)), (0, .ref (w.1 (58))), (1, .int (gk)), (2, .int (nI (g))), (3, .ref (w.1 (64 + 5 * j)))] rfl ?_
          refine g_lv1 he (by rw [hhe, hq]) ?_
          clear hhe
          rcases hkv with hkv | ⟨a, b, ha, hb, hk1, hk2⟩
          · have hli : liC h (iA σ 62) (iA σ 63) he g (v - 1) = he := if_pos hkv
            refine g_iload (pc9 := 70) C rfl 2 dX2_fillCosts_68 rfl ?_
            refine g_iload (pc9 := 72) C rfl 0 dX2_fillCosts_70 rfl ?_
            refine g_mmin (pc9 := 75) C rfl dX2_fillCosts_72 (by decide +kernel) (by decide +kernel) (by decide +kernel) (by decide +kernel) (by decide) (Nat.le_of_ble_eq_true rfl) (by decide) (by decide) ?_
            refine g_istore (pc9 := 77) C rfl [(4, .int (if he < be then he else be)), (6, .int (he)), (5, .int (nI (v - 1))), (0, .ref (w.1 (58))), (1, .int (gk)), (2, .int (nI (g))), (3, .ref (w.1 (64 + 5 * j)))] dX2_fillCosts_75 (by decide) rfl ?_
            refine g_aload_n (pc9 := 78) C rfl 3 dX2_fillCosts_77 rfl rfl ?_
            refine g_get (v := .ref (w.1 (63))) (pc9 := 81) C rfl (58) 4 dX2_fillCosts_78 (by decide) (ce_58 w (sI σ (59) (h))) hin_2 hl_24 rfl (by decide) rfl rfl ?_
            refine g_iload (pc9 := 83) C rfl 2 dX2_fillCosts_81 rfl ?_
            refine g_iald (x := -1) (pc9 := 84) C rfl (63) (v - 1) dX2_fillCosts_83 (by decide) (ce_63 w (sI σ (59) (h))) rfl (by omega) (by decide) ((congrFun (iA_n (by decide)) _).trans hkv) ?_
            refine g_iconst (pc9 := 85) C rfl ((-1)) dX2_fillCosts_84 rfl ?_
            refine g_icmp_eq (pc9 := 88) C rfl 124 dX2_fillCosts_85 rfl (fun c_16 => ?_) (fun c_16 => ?_)
            · refine g_aload_n (pc9 := 125) C rfl 3 dX2_fillCosts_124 rfl rfl ?_
              refine g_get (v := .ref (w.1 (59))) (pc9 := 128) C rfl (58) 0 dX2_fillCosts_125 (by decide) (ce_58 w (sI σ (59) (h))) hin_2 hl_11 rfl (by decide) rfl rfl ?_
              refine g_iload_n (pc9 := 129) C rfl 5 dX2_fillCosts_128 rfl rfl ?_
              refine g_bipush (pc9 := 131) C rfl (nI (23)) dX2_fillCosts_129 rfl ?_
              refine g_imulN (pc9 := 132) C rfl dX2_fillCosts_131 ?_
              refine g_iload (pc9 := 134) C rfl 2 dX2_fillCosts_132 rfl ?_
              refine g_iaddN (pc9 := 135) C rfl dX2_fillCosts_134 ?_
              refine g_iload (pc9 := 137) C rfl 1 dX2_fillCosts_135 rfl ?_
              refine g_ldc (pc9 := 139) C rfl (NEV) dX2_fillCosts_137 (by decide +kernel) ?_
              refine g_mmin (pc9 := 142) C rfl dX2_fillCosts_139 (by decide +kernel) (by decide +kernel) (by decide +kernel) (by decide +kernel) (by decide) (Nat.le_of_ble_eq_true rfl) (by decide) (by decide) ?_
              refine g_iast (pc9 := 143) C rfl (59) ((g * 23) + (v - 1)) (h) dX2_fillCosts_142 (by decide) (fun _ => rfl) (ce_59 w (sI σ (59) (h))) rfl (by omega) (by decide) (iA_s) ?_
              rw [sI_sI (a := 59)]
              refine g_iinc (pc9 := 146) C rfl [(5, .int (dn (v - 1))), (4, .int (if he < be then he else be)), (6, .int (he)), (0, .ref (w.1 (58))), (1, .int (gk)), (2, .int (nI (g))), (3, .ref (w.1 (64 + 5 * j)))] 2 (dn (v - 1)) dX2_fillCosts_143 rfl rfl (by decide) rfl ?_
              refine g_goto C 12 dX2_fillCosts_146 rfl ?_
              refine g_sub [0, 1, 3, 4, 5, 6] [(5, .int (dn (v - 1))), (4, .int (if he < be then he else be)), (0, .ref (w.1 (58))), (1, .int (gk)), (2, .int (nI (g))), (3, .ref (w.1 (64 + 5 * j)))] rfl ?_
              exact ih (v - 1) _ _ ⟨by omega, by rw [hli] at hfs; exact hfs⟩ (by omega)
            · exact absurd rfl (by assumption)
          · have hli : liC h (iA σ 62) (iA σ 63) he g (v - 1) = mn he (nI 1 + mn (h (g * 23 + a)) (h (g * 23 + b))) := by
              unfold liC
              rw [if_neg (by rw [hk2]; exact nI_m1 (by omega)), hk1, hk2, nI_clamp (by omega), nI_clamp (by omega)]
            refine g_iload (pc9 := 70) C rfl 2 dX2_fillCosts_68 rfl ?_
            refine g_iload (pc9 := 72) C rfl 0 dX2_fillCosts_70 rfl ?_
            refine g_mmin (pc9 := 75) C rfl dX2_fillCosts_72 (by decide +kernel) (by decide +kernel) (by decide +kernel) (by decide +kernel) (by decide) (Nat.le_of_ble_eq_true rfl) (by decide) (by decide) ?_
            refine g_istore (pc9 := 77) C rfl [(4, .int (if he < be then he else be)), (6, .int (he)), (5, .int (nI (v - 1))), (0, .ref (w.1 (58))), (1, .int (gk)), (2, .int (nI (g))), (3, .ref (w.1 (64 + 5 * j)))] dX2_fillCosts_75 (by decide) rfl ?_
            refine g_aload_n (pc9 := 78) C rfl 3 dX2_fillCosts_77 rfl rfl ?_
            refine g_get (v := .ref (w.1 (63))) (pc9 := 81) C rfl (58) 4 dX2_fillCosts_78 (by decide) (ce_58 w (sI σ (59) (h))) hin_2 hl_24 rfl (by decide) rfl rfl ?_
            refine g_iload (pc9 := 83) C rfl 2 dX2_fillCosts_81 rfl ?_
            refine g_iald (x := nI (b)) (pc9 := 84) C rfl (63) (v - 1) dX2_fillCosts_83 (by decide) (ce_63 w (sI σ (59) (h))) rfl (by omega) (by decide) ((congrFun (iA_n (by decide)) _).trans hk2) ?_
            refine g_iconst (pc9 := 85) C rfl ((-1)) dX2_fillCosts_84 rfl ?_
            refine g_icmp_eq (pc9 := 88) C rfl 124 dX2_fillCosts_85 rfl (fun c_17 => ?_) (fun c_17 => ?_)
            · exact absurd c_17 (nI_m1 (by omega))
            · refine g_iload (pc9 := 90) C rfl 1 dX2_fillCosts_88 rfl ?_
              refine g_iconst (pc9 := 91) C rfl (nI (1)) dX2_fillCosts_90 rfl ?_
              refine g_aload_n (pc9 := 92) C rfl 3 dX2_fillCosts_91 rfl rfl ?_
              refine g_iload_n (pc9 := 93) C rfl 5 dX2_fillCosts_92 rfl rfl ?_
              refine g_aload_n (pc9 := 94) C rfl 3 dX2_fillCosts_93 rfl rfl ?_
              refine g_get (v := .ref (w.1 (62))) (pc9 := 97) C rfl (58) 3 dX2_fillCosts_94 (by decide) (ce_58 w (sI σ (59) (h))) hin_2 hl_21 rfl (by decide) rfl rfl ?_
              refine g_iload (pc9 := 99) C rfl 2 dX2_fillCosts_97 rfl ?_
              refine g_iald (x := nI (a)) (pc9 := 100) C rfl (62) (v - 1) dX2_fillCosts_99 (by decide) (ce_62 w (sI σ (59) (h))) rfl (by omega) (by decide) ((congrFun (iA_n (by decide)) _).trans hk1) ?_
              refine g_callVi (nn := 2) (rest := [.int (nI (1)), .int (he)]) (pc9 := 103) C rfl (58) [.int (nI (g)), .int (nI (a))] rfl dX2_fillCosts_100 (m_X2_lifted l w (sI σ (59) (h)) (g) (a) (by omega) (by omega)) gX2_fillCosts_X2_lifted (by decide) (ce_58 w (sI σ (59) (h))) rfl rfl rfl rfl rfl (by decide +kernel) ⟨by decide, by decide⟩ rfl (Nat.le_of_ble_eq_true rfl) ⟨by decide, by decide⟩ (fun r_18 σ_18 q_18 => ?_)
              obtain ⟨qs_18, qr_18⟩ := q_18
              rw [qs_18, qr_18]
              clear qs_18 qr_18
              refine g_ti (h (g * 23 + a)) (congrFun iA_s _) ?_
              refine g_aload_n (pc9 := 104) C rfl 3 dX2_fillCosts_103 rfl rfl ?_
              refine g_iload_n (pc9 := 105) C rfl 5 dX2_fillCosts_104 rfl rfl ?_
              refine g_aload_n (pc9 := 106) C rfl 3 dX2_fillCosts_105 rfl rfl ?_
              refine g_get (v := .ref (w.1 (63))) (pc9 := 109) C rfl (58) 4 dX2_fillCosts_106 (by decide) (ce_58 w (sI σ (59) (h))) hin_2 hl_24 rfl (by decide) rfl rfl ?_
              refine g_iload (pc9 := 111) C rfl 2 dX2_fillCosts_109 rfl ?_
              refine g_iald (x := nI (b)) (pc9 := 112) C rfl (63) (v - 1) dX2_fillCosts_111 (by decide) (ce_63 w (sI σ (59) (h))) rfl (by omega) (by decide) ((congrFun (iA_n (by decide)) _).trans hk2) ?_
              refine g_callVi (nn := 2) (rest := [.int (h (g * 23 + a)), .int (nI (1)), .int (he)]) (pc9 := 115) C rfl (58) [.int (nI (g)), .int (nI (b))] rfl dX2_fillCosts_112 (m_X2_lifted l w (sI σ (59) (h)) (g) (b) (by omega) (by omega)) gX2_fillCosts_X2_lifted (by decide) (ce_58 w (sI σ (59) (h))) rfl rfl rfl rfl rfl (by decide +kernel) ⟨by decide, by decide⟩ rfl (Nat.le_of_ble_eq_true rfl) ⟨by decide, by decide⟩ (fun r_19 σ_19 q_19 => ?_)
              obtain ⟨qs_19, qr_19⟩ := q_19
              rw [qs_19, qr_19]
              clear qs_19 qr_19
              refine g_ti (h (g * 23 + b)) (congrFun iA_s _) ?_
              refine g_mmin (pc9 := 118) C rfl dX2_fillCosts_115 (by decide +kernel) (by decide +kernel) (by decide +kernel) (by decide +kernel) (by decide) (Nat.le_of_ble_eq_true rfl) (by decide) (by decide) ?_
              refine g_iadd (pc9 := 119) C rfl dX2_fillCosts_118 ?_
              refine g_mmin (pc9 := 122) C rfl dX2_fillCosts_119 (by decide +kernel) (by decide +kernel) (by decide +kernel) (by decide +kernel) (by decide) (Nat.le_of_ble_eq_true rfl) (by decide) (by decide) ?_
              refine g_istore (pc9 := 124) C rfl [(6, .int (if (nI (1)) + (if h (g * 23 + b) < h (g * 23 + a) then h (g * 23 + b) else h (g * 23 + a)) < he then (nI (1)) + (if h (g * 23 + b) < h (g * 23 + a) then h (g * 23 + b) else h (g * 23 + a)) else he)), (4, .int (if he < be then he else be)), (5, .int (nI (v - 1))), (0, .ref (w.1 (58))), (1, .int (gk)), (2, .int (nI (g))), (3, .ref (w.1 (64 + 5 * j)))] dX2_fillCosts_122 (by decide) rfl ?_
              refine g_aload_n (pc9 := 125) C rfl 3 dX2_fillCosts_124 rfl rfl ?_
              refine g_get (v := .ref (w.1 (59))) (pc9 := 128) C rfl (58) 0 dX2_fillCosts_125 (by decide) (ce_58 w (sI σ (59) (h))) hin_2 hl_11 rfl (by decide) rfl rfl ?_
              refine g_iload_n (pc9 := 129) C rfl 5 dX2_fillCosts_128 rfl rfl ?_
              refine g_bipush (pc9 := 131) C rfl (nI (23)) dX2_fillCosts_129 rfl ?_
              refine g_imulN (pc9 := 132) C rfl dX2_fillCosts_131 ?_
              refine g_iload (pc9 := 134) C rfl 2 dX2_fillCosts_132 rfl ?_
              refine g_iaddN (pc9 := 135) C rfl dX2_fillCosts_134 ?_
              refine g_iload (pc9 := 137) C rfl 0 dX2_fillCosts_135 rfl ?_
              refine g_ldc (pc9 := 139) C rfl (NEV) dX2_fillCosts_137 (by decide +kernel) ?_
              refine g_mmin (pc9 := 142) C rfl dX2_fillCosts_139 (by decide +kernel) (by decide +kernel) (by decide +kernel) (by decide +kernel) (by decide) (Nat.le_of_ble_eq_true rfl) (by decide) (by decide) ?_
              refine g_iast (pc9 := 143) C rfl (59) ((g * 23) + (v - 1)) (h) dX2_fillCosts_142 (by decide) (fun _ => rfl) (ce_59 w (sI σ (59) (h))) rfl (by omega) (by decide) (iA_s) ?_
              rw [sI_sI (a := 59)]
              refine g_iinc (pc9 := 146) C rfl [(5, .int (dn (v - 1))), (6, .int (if (nI (1)) + (if h (g * 23 + b) < h (g * 23 + a) then h (g * 23 + b) else h (g * 23 + a)) < he then (nI (1)) + (if h (g * 23 + b) < h (g * 23 + a) then h (g * 23 + b) else h (g * 23 + a)) else he)), (4, .int (if he < be then he else be)), (0, .ref (w.1 (58))), (1, .int (gk)), (2, .int (nI (g))), (3, .ref (w.1 (64 + 5 * j)))] 2 (dn (v - 1)) dX2_fillCosts_143 rfl rfl (by decide) rfl ?_
              refine g_goto C 12 dX2_fillCosts_146 rfl ?_
              refine g_sub [0, 2, 3, 4, 5, 6] [(5, .int (dn (v - 1))), (4, .int (if he < be then he else be)), (0, .ref (w.1 (58))), (1, .int (gk)), (2, .int (nI (g))), (3, .ref (w.1 (64 + 5 * j)))] rfl ?_
              exact ih (v - 1) _ _ ⟨by omega, by rw [hli] at hfs; exact hfs⟩ (by omega)
/-- all gene nodes, from v - 1 down: costs, and what the last one filled answers -/
def lyD (g1 g2 k1 k2 gK tk : Nat → Int32) (n : Nat) : Nat → (Nat → Int32) → Int32 → (Nat → Int32) × Int32
  | 0, f, r => (f, r)
  | v + 1, f, _ => lyD g1 g2 k1 k2 gK tk n v (fiD g1 g2 k1 k2 tk (gK v) v n f NEV).1 (fiD g1 g2 k1 k2 tk (gK v) v n f NEV).2
theorem lyD_s {g1 g2 k1 k2 gK tk : Nat → Int32} {n v : Nat} {f : Nat → Int32} {r : Int32} (h : 0 < v) : lyD g1 g2 k1 k2 gK tk n v f r = lyD g1 g2 k1 k2 gK tk n (v - 1) (fiD g1 g2 k1 k2 tk (gK (v - 1)) (v - 1) n f NEV).1 (fiD g1 g2 k1 k2 tk (gK (v - 1)) (v - 1) n f NEV).2 := by
  obtain ⟨u, rfl⟩ : ∃ u, v = u + 1 := ⟨v - 1, by omega⟩
  rfl
set_option maxRecDepth 100000 in
set_option maxHeartbeats 4000000 in
theorem m_X2_leastCost (l : Launch) (w : Wd) (σ : St) (j t : Nat) (hj : j < 9) (ht : t < 9) (N n : Nat) (hN : tN σ j = nI N) (hn : tN σ t = nI n) (hN0 : 0 < N) (hn0 : 0 < n) (hN47 : N ≤ 47) (h23 : n ≤ 23) (P Q9 : Nat → Nat) (hP : ∀ v, 0 < v → v < N → tP σ j v = nI (P v) ∧ P v < v) (hQ : ∀ v, 0 < v → v < n → tP σ t v = nI (Q9 v) ∧ Q9 v < v) (hg2 : ∀ i, i < N → twoC (ftO P N (iA σ 60) (iA σ 61)).1 (ftO P N (iA σ 60) (iA σ 61)).2 47 i) (hk2 : ∀ i, i < n → twoC (ftO Q9 n (iA σ 62) (iA σ 63)).1 (ftO Q9 n (iA σ 62) (iA σ 63)).2 23 i) : MI l yX2_leastCost wsX2_leastCost (rmL 4) w [.ref (w.1 (58)), .ref (w.1 (64 + 5 * j)), .ref (w.1 (64 + 5 * t))] (σ) (fun r σ9 => ∃ h, σ9 = sI (sI (sI (sI (sI σ 60 (ftO P N (iA σ 60) (iA σ 61)).1) 61 (ftO P N (iA σ 60) (iA σ 61)).2) 62 (ftO Q9 n (iA σ 62) (iA σ 63)).1) 63 (ftO Q9 n (iA σ 62) (iA σ 63)).2) 59 h ∧ r = (lyD (ftO P N (iA σ 60) (iA σ 61)).1 (ftO P N (iA σ 60) (iA σ 61)).2 (ftO Q9 n (iA σ 62) (iA σ 63)).1 (ftO Q9 n (iA σ 62) (iA σ 63)).2 (tK σ j) (tK σ t) n N (iA σ 59) NEV).2) := by
  refine MI_of (cc := cX2_leastCost) (maxL := 5) (ret := .int) (by decide) rfl (Nat.le_of_ble_eq_true rfl) ?_
  intro p e s m args below meth c A C hr hlk
  have C : Cx p s m args c w A cX2_leastCost RX2 5 wsX2_leastCost := C
  have hin_2 : ∀ u ∈ wsX20, u ∈ wsX2_leastCost := by decide +kernel
  have hin_7 : ∀ u ∈ wsX70, u ∈ wsX2_leastCost := by decide +kernel
  have hl_15 : Cond.fieldLink RX2 15 "LineageBench$Laying" "geneOne" "[I" ∈ wsX2_leastCost := by decide +kernel
  have hl_18 : Cond.fieldLink RX2 18 "LineageBench$Laying" "geneTwo" "[I" ∈ wsX2_leastCost := by decide +kernel
  have hl_21 : Cond.fieldLink RX2 21 "LineageBench$Laying" "kindOne" "[I" ∈ wsX2_leastCost := by decide +kernel
  have hl_24 : Cond.fieldLink RX2 24 "LineageBench$Laying" "kindTwo" "[I" ∈ wsX2_leastCost := by decide +kernel
  have hl_27 : Cond.fieldLink RX2 27 "LineageBench$Tree" "nodes" "I" ∈ wsX2_leastCost := by decide +kernel
  have hl_38 : Cond.fieldLink RX2 38 "LineageBench$Tree" "kind" "[I" ∈ wsX2_leastCost := by decide +kernel
  refine g_aload_n (pc9 := 1) C rfl 2 dX2_leastCost_0 rfl rfl ?_
  refine g_get (v := .int (nI (n))) (pc9 := 4) C rfl (64 + 5 * t) 4 dX2_leastCost_1 (by omega) (ce_tree w (σ) (t)) hin_7 hl_27 rfl (by decide) rfl (congrArg (fun z => some (Value.int z)) hn) ?_
  refine g_bipush (pc9 := 6) C rfl (nI (23)) dX2_leastCost_4 rfl ?_
  refine g_icmp_le (pc9 := 9) C rfl 12 dX2_leastCost_6 rfl (fun c_1 => ?_) (fun c_1 => ?_)
  · replace c_1 := (nI_leI (by omega) (by omega)).mp c_1
    refine g_aload_n (pc9 := 13) C rfl 1 dX2_leastCost_12 rfl rfl ?_
    refine g_aload_n (pc9 := 14) C rfl 0 dX2_leastCost_13 rfl rfl ?_
    refine g_get (v := .ref (w.1 (60))) (pc9 := 17) C rfl (58) 1 dX2_leastCost_14 (by decide) (ce_58 w (σ)) hin_2 hl_15 rfl (by decide) rfl rfl ?_
    refine g_aload_n (pc9 := 18) C rfl 0 dX2_leastCost_17 rfl rfl ?_
    refine g_get (v := .ref (w.1 (61))) (pc9 := 21) C rfl (58) 2 dX2_leastCost_18 (by decide) (ce_58 w (σ)) hin_2 hl_18 rfl (by decide) rfl rfl ?_
    refine g_callVv (nn := 2) (rest := []) (pc9 := 24) C rfl (64 + 5 * j) [.ref (w.1 (60)), .ref (w.1 (61))] rfl dX2_leastCost_21 (m_X7_findTwo_60 l w σ j hj N hN (by omega) P hP (by omega)) gX2_leastCost_X7_findTwoChildren (by omega) (ce_tree w (σ) (j)) rfl rfl rfl rfl rfl (by decide +kernel) ⟨by decide, by decide⟩ rfl (Nat.le_of_ble_eq_true rfl) ⟨by decide, by decide⟩ (fun σ_2 q_2 => ?_)
    replace q_2 : σ_2 = sI (sI σ (60) ((ftO P N (iA σ 60) (iA σ 61)).1)) (61) ((ftO P N (iA σ 60) (iA σ 61)).2) := q_2
    rw [q_2]
    clear q_2
    refine g_aload_n (pc9 := 25) C rfl 2 dX2_leastCost_24 rfl rfl ?_
    refine g_aload_n (pc9 := 26) C rfl 0 dX2_leastCost_25 rfl rfl ?_
    refine g_get (v := .ref (w.1 (62))) (pc9 := 29) C rfl (58) 3 dX2_leastCost_26 (by decide) (ce_58 w (sI (sI σ (60) ((ftO P N (iA σ 60) (iA σ 61)).1)) (61) ((ftO P N (iA σ 60) (iA σ 61)).2))) hin_2 hl_21 rfl (by decide) rfl rfl ?_
    refine g_aload_n (pc9 := 30) C rfl 0 dX2_leastCost_29 rfl rfl ?_
    refine g_get (v := .ref (w.1 (63))) (pc9 := 33) C rfl (58) 4 dX2_leastCost_30 (by decide) (ce_58 w (sI (sI σ (60) ((ftO P N (iA σ 60) (iA σ 61)).1)) (61) ((ftO P N (iA σ 60) (iA σ 61)).2))) hin_2 hl_24 rfl (by decide) rfl rfl ?_
    refine g_callVv (nn := 2) (rest := []) (pc9 := 36) C rfl (64 + 5 * t) [.ref (w.1 (62)), .ref (w.1 (63))] rfl dX2_leastCost_33 (m_X7_findTwo_62 l w (sI (sI σ (60) ((ftO P N (iA σ 60) (iA σ 61)).1)) (61) ((ftO P N (iA σ 60) (iA σ 61)).2)) t ht n (by exact hn) (by omega) Q9 (fun v h1 h2 => ⟨(congrFun (((iA_n (by omega)).trans (iA_n (by omega)))) _).trans (hQ v h1 h2).1, (hQ v h1 h2).2⟩) (by omega)) gX2_leastCost_X7_findTwoChildren (by omega) (ce_tree w (sI (sI σ (60) ((ftO P N (iA σ 60) (iA σ 61)).1)) (61) ((ftO P N (iA σ 60) (iA σ 61)).2)) (t)) rfl rfl rfl rfl rfl (by decide +kernel) ⟨by decide, by decide⟩ rfl (Nat.le_of_ble_eq_true rfl) ⟨by decide, by decide⟩ (fun σ_3 q_3 => ?_)
    replace q_3 : σ_3 = sI (sI (sI (sI σ (60) ((ftO P N (iA σ 60) (iA σ 61)).1)) (61) ((ftO P N (iA σ 60) (iA σ 61)).2)) (62) ((ftO Q9 n (iA σ 62) (iA σ 63)).1)) (63) ((ftO Q9 n (iA σ 62) (iA σ 63)).2) := q_3
    rw [q_3]
    clear q_3
    refine g_ldc (pc9 := 38) C rfl (NEV) dX2_leastCost_36 (by decide +kernel) ?_
    refine g_istore_n (pc9 := 39) C rfl [(3, .int (NEV)), (0, .ref (w.1 (58))), (1, .ref (w.1 (64 + 5 * j))), (2, .ref (w.1 (64 + 5 * t)))] dX2_leastCost_38 rfl (by decide) rfl ?_
    refine g_aload_n (pc9 := 40) C rfl 2 dX2_leastCost_39 rfl rfl ?_
    refine g_get (v := .int (nI (N))) (pc9 := 43) C rfl (64 + 5 * j) 4 dX2_leastCost_40 (by omega) (ce_tree w (sI (sI (sI (sI σ (60) ((ftO P N (iA σ 60) (iA σ 61)).1)) (61) ((ftO P N (iA σ 60) (iA σ 61)).2)) (62) ((ftO Q9 n (iA σ 62) (iA σ 63)).1)) (63) ((ftO Q9 n (iA σ 62) (iA σ 63)).2)) (j)) hin_7 hl_27 rfl (by decide) rfl (congrArg (fun z => some (Value.int z)) (((((nF_I).trans (nF_I)).trans (nF_I)).trans (nF_I)).trans hN)) ?_
    refine g_iconst (pc9 := 44) C rfl (nI (1)) dX2_leastCost_43 rfl ?_
    refine g_isub (pc9 := 45) C rfl dX2_leastCost_44 ?_
    rw [nI_dn]
    refine g_istore (pc9 := 47) C rfl [(4, .int (dn N)), (3, .int (NEV)), (0, .ref (w.1 (58))), (1, .ref (w.1 (64 + 5 * j))), (2, .ref (w.1 (64 + 5 * t)))] dX2_leastCost_45 (by decide) rfl ?_
    refine g_sub [0, 1, 2, 3, 4] [(4, .int (dn N)), (3, .int (NEV)), (0, .ref (w.1 (58))), (1, .ref (w.1 (64 + 5 * j))), (2, .ref (w.1 (64 + 5 * t)))] rfl ?_
    refine g_st (σ9 := sI (sI (sI (sI (sI σ (60) ((ftO P N (iA σ 60) (iA σ 61)).1)) (61) ((ftO P N (iA σ 60) (iA σ 61)).2)) (62) ((ftO Q9 n (iA σ 62) (iA σ 63)).1)) (63) ((ftO Q9 n (iA σ 62) (iA σ 63)).2)) (59) (iA σ 59)) (by rw [show iA σ 59 = iA (sI (sI (sI (sI σ (60) ((ftO P N (iA σ 60) (iA σ 61)).1)) (61) ((ftO P N (iA σ 60) (iA σ 61)).2)) (62) ((ftO Q9 n (iA σ 62) (iA σ 63)).1)) (63) ((ftO Q9 n (iA σ 62) (iA σ 63)).2)) 59 from rfl, sI_self]) ?_
    refine g_lp3 (α := Nat) (β := Nat → Int32) (γ := Int32) (fun v h r9 => v ≤ N ∧ lyD (ftO P N (iA σ 60) (iA σ 61)).1 (ftO P N (iA σ 60) (iA σ 61)).2 (ftO Q9 n (iA σ 62) (iA σ 63)).1 (ftO Q9 n (iA σ 62) (iA σ 63)).2 (tK σ j) (tK σ t) n v h r9 = lyD (ftO P N (iA σ 60) (iA σ 61)).1 (ftO P N (iA σ 60) (iA σ 61)).2 (ftO Q9 n (iA σ 62) (iA σ 63)).1 (ftO Q9 n (iA σ 62) (iA σ 63)).2 (tK σ j) (tK σ t) n N (iA σ 59) NEV) (fun v h r9 => v) (fun v h r9 => G p l e _ s m args below meth c _ w A _ (sI (sI (sI (sI (sI σ (60) ((ftO P N (iA σ 60) (iA σ 61)).1)) (61) ((ftO P N (iA σ 60) (iA σ 61)).2)) (62) ((ftO Q9 n (iA σ 62) (iA σ 63)).1)) (63) ((ftO Q9 n (iA σ 62) (iA σ 63)).2)) (59) (h)) 0 0 47 [(4, .int (dn v)), (3, .int (r9)), (0, .ref (w.1 (58))), (1, .ref (w.1 (64 + 5 * j))), (2, .ref (w.1 (64 + 5 * t)))] []) (fun v h r9 hI ih => ?_) (N) (iA σ 59) (NEV) ⟨Nat.le_refl _, rfl⟩
    obtain ⟨hv, hf⟩ := hI
    rcases Nat.eq_zero_or_pos v with h0 | h0
    · subst h0
      rw [dn_0]
      refine g_iload (pc9 := 49) C rfl 0 dX2_leastCost_47 rfl ?_
      refine g_if_lt (pc9 := 52) C rfl 73 dX2_leastCost_49 rfl (fun c_4 => ?_) (fun c_4 => ?_)
      · refine g_iload_n (pc9 := 74) C rfl 1 dX2_leastCost_73 rfl rfl ?_
        exact g_ireturn C hr hlk dX2_leastCost_74 ⟨h, rfl, by rw [← hf]; rfl⟩
      · exact absurd (by decide) c_4
    · rw [dn_s h0]
      have hfs := (lyD_s (f := h) (r := r9) h0).symm.trans hf
      refine g_iload (pc9 := 49) C rfl 0 dX2_leastCost_47 rfl ?_
      refine g_if_lt (pc9 := 52) C rfl 73 dX2_leastCost_49 rfl (fun c_5 => ?_) (fun c_5 => ?_)
      · replace c_5 := (z_lt (by omega)).mp c_5
        exact absurd c_5 (by simp)
      · replace c_5 := (not_congr (z_lt (by omega))).mp c_5
        refine g_aload_n (pc9 := 53) C rfl 2 dX2_leastCost_52 rfl rfl ?_
        refine g_aload_n (pc9 := 54) C rfl 3 dX2_leastCost_53 rfl rfl ?_
        refine g_get (v := .ref (w.1 (66 + 5 * j))) (pc9 := 57) C rfl (64 + 5 * j) 1 dX2_leastCost_54 (by omega) (ce_tree w (sI (sI (sI (sI (sI σ (60) ((ftO P N (iA σ 60) (iA σ 61)).1)) (61) ((ftO P N (iA σ 60) (iA σ 61)).2)) (62) ((ftO Q9 n (iA σ 62) (iA σ 63)).1)) (63) ((ftO Q9 n (iA σ 62) (iA σ 63)).2)) (59) (h)) (j)) hin_7 hl_38 rfl (by decide) rfl rfl ?_
        refine g_iload (pc9 := 59) C rfl 0 dX2_leastCost_57 rfl ?_
        refine g_iald (x := (iA σ (66 + 5 * j)) (v - 1)) (pc9 := 60) C rfl (66 + 5 * j) (v - 1) dX2_leastCost_59 (by omega) (ce_kind w (sI (sI (sI (sI (sI σ (60) ((ftO P N (iA σ 60) (iA σ 61)).1)) (61) ((ftO P N (iA σ 60) (iA σ 61)).2)) (62) ((ftO Q9 n (iA σ 62) (iA σ 63)).1)) (63) ((ftO Q9 n (iA σ 62) (iA σ 63)).2)) (59) (h)) (j)) rfl (by omega) (by decide) (congrFun (((((iA_n (by omega)).trans (iA_n (by omega))).trans (iA_n (by omega))).trans (iA_n (by omega))).trans (iA_n (by omega))) _) ?_
        refine g_iload (pc9 := 62) C rfl 0 dX2_leastCost_60 rfl ?_
        refine g_aload_n (pc9 := 63) C rfl 4 dX2_leastCost_62 rfl rfl ?_
        refine g_callVi (nn := 3) (rest := []) (pc9 := 66) C rfl (58) [.int ((iA σ (66 + 5 * j)) (v - 1)), .int (nI (v - 1)), .ref (w.1 (64 + 5 * t))] rfl dX2_leastCost_63 (m_X2_fillCosts l w (sI (sI (sI (sI σ (60) ((ftO P N (iA σ 60) (iA σ 61)).1)) (61) ((ftO P N (iA σ 60) (iA σ 61)).2)) (62) ((ftO Q9 n (iA σ 62) (iA σ 63)).1)) (63) ((ftO Q9 n (iA σ 62) (iA σ 63)).2)) t ht n (by exact hn) h23 (fun i hi => by rw [show iA (sI (sI (sI (sI σ (60) ((ftO P N (iA σ 60) (iA σ 61)).1)) (61) ((ftO P N (iA σ 60) (iA σ 61)).2)) (62) ((ftO Q9 n (iA σ 62) (iA σ 63)).1)) (63) ((ftO Q9 n (iA σ 62) (iA σ 63)).2)) 62 = (ftO Q9 n (iA σ 62) (iA σ 63)).1 from ((iA_n (by decide)).trans (iA_s)), show iA (sI (sI (sI (sI σ (60) ((ftO P N (iA σ 60) (iA σ 61)).1)) (61) ((ftO P N (iA σ 60) (iA σ 61)).2)) (62) ((ftO Q9 n (iA σ 62) (iA σ 63)).1)) (63) ((ftO Q9 n (iA σ 62) (iA σ 63)).2)) 63 = (ftO Q9 n (iA σ 62) (iA σ 63)).2 from (iA_s)]; exact hk2 i hi) h (tK σ j (v - 1)) (v - 1) (by omega) (by rw [show iA (sI (sI (sI (sI σ (60) ((ftO P N (iA σ 60) (iA σ 61)).1)) (61) ((ftO P N (iA σ 60) (iA σ 61)).2)) (62) ((ftO Q9 n (iA σ 62) (iA σ 63)).1)) (63) ((ftO Q9 n (iA σ 62) (iA σ 63)).2)) 60 = (ftO P N (iA σ 60) (iA σ 61)).1 from ((((iA_n (by decide)).trans (iA_n (by decide))).trans (iA_n (by decide))).trans (iA_s)), show iA (sI (sI (sI (sI σ (60) ((ftO P N (iA σ 60) (iA σ 61)).1)) (61) ((ftO P N (iA σ 60) (iA σ 61)).2)) (62) ((ftO Q9 n (iA σ 62) (iA σ 63)).1)) (63) ((ftO Q9 n (iA σ 62) (iA σ 63)).2)) 61 = (ftO P N (iA σ 60) (iA σ 61)).2 from (((iA_n (by decide)).trans (iA_n (by decide))).trans (iA_s))]; exact hg2 (v - 1) (by omega))) gX2_leastCost_X2_fillCosts (by decide) (ce_58 w (sI (sI (sI (sI (sI σ (60) ((ftO P N (iA σ 60) (iA σ 61)).1)) (61) ((ftO P N (iA σ 60) (iA σ 61)).2)) (62) ((ftO Q9 n (iA σ 62) (iA σ 63)).1)) (63) ((ftO Q9 n (iA σ 62) (iA σ 63)).2)) (59) (h))) rfl rfl rfl rfl rfl (by decide +kernel) ⟨by decide, by decide⟩ rfl (Nat.le_of_ble_eq_true rfl) ⟨by decide, by decide⟩ (fun r_6 σ_6 q_6 => ?_)
        obtain ⟨qs_6, qr_6⟩ := q_6
        rw [show iA (sI (sI (sI (sI σ (60) ((ftO P N (iA σ 60) (iA σ 61)).1)) (61) ((ftO P N (iA σ 60) (iA σ 61)).2)) (62) ((ftO Q9 n (iA σ 62) (iA σ 63)).1)) (63) ((ftO Q9 n (iA σ 62) (iA σ 63)).2)) 60 = (ftO P N (iA σ 60) (iA σ 61)).1 from ((((iA_n (by decide)).trans (iA_n (by decide))).trans (iA_n (by decide))).trans (iA_s)), show iA (sI (sI (sI (sI σ (60) ((ftO P N (iA σ 60) (iA σ 61)).1)) (61) ((ftO P N (iA σ 60) (iA σ 61)).2)) (62) ((ftO Q9 n (iA σ 62) (iA σ 63)).1)) (63) ((ftO Q9 n (iA σ 62) (iA σ 63)).2)) 61 = (ftO P N (iA σ 60) (iA σ 61)).2 from (((iA_n (by decide)).trans (iA_n (by decide))).trans (iA_s)), show iA (sI (sI (sI (sI σ (60) ((ftO P N (iA σ 60) (iA σ 61)).1)) (61) ((ftO P N (iA σ 60) (iA σ 61)).2)) (62) ((ftO Q9 n (iA σ 62) (iA σ 63)).1)) (63) ((ftO Q9 n (iA σ 62) (iA σ 63)).2)) 62 = (ftO Q9 n (iA σ 62) (iA σ 63)).1 from ((iA_n (by decide)).trans (iA_s)), show iA (sI (sI (sI (sI σ (60) ((ftO P N (iA σ 60) (iA σ 61)).1)) (61) ((ftO P N (iA σ 60) (iA σ 61)).2)) (62) ((ftO Q9 n (iA σ 62) (iA σ 63)).1)) (63) ((ftO Q9 n (iA σ 62) (iA σ 63)).2)) 63 = (ftO Q9 n (iA σ 62) (iA σ 63)).2 from (iA_s), show tK (sI (sI (sI (sI σ (60) ((ftO P N (iA σ 60) (iA σ 61)).1)) (61) ((ftO P N (iA σ 60) (iA σ 61)).2)) (62) ((ftO Q9 n (iA σ 62) (iA σ 63)).1)) (63) ((ftO Q9 n (iA σ 62) (iA σ 63)).2)) t = tK σ t from ((((iA_n (by omega)).trans (iA_n (by omega))).trans (iA_n (by omega))).trans (iA_n (by omega)))] at qs_6 qr_6
        rw [qs_6, qr_6]
        refine g_istore_n (pc9 := 67) C rfl [(3, .int ((fiD (ftO P N (iA σ 60) (iA σ 61)).1 (ftO P N (iA σ 60) (iA σ 61)).2 (ftO Q9 n (iA σ 62) (iA σ 63)).1 (ftO Q9 n (iA σ 62) (iA σ 63)).2 (tK σ t) (tK σ j (v - 1)) (v - 1) n h NEV).2)), (4, .int (nI (v - 1))), (0, .ref (w.1 (58))), (1, .ref (w.1 (64 + 5 * j))), (2, .ref (w.1 (64 + 5 * t)))] dX2_leastCost_66 rfl (by decide) rfl ?_
        refine g_iinc (pc9 := 70) C rfl [(4, .int (dn (v - 1))), (3, .int ((fiD (ftO P N (iA σ 60) (iA σ 61)).1 (ftO P N (iA σ 60) (iA σ 61)).2 (ftO Q9 n (iA σ 62) (iA σ 63)).1 (ftO Q9 n (iA σ 62) (iA σ 63)).2 (tK σ t) (tK σ j (v - 1)) (v - 1) n h NEV).2)), (0, .ref (w.1 (58))), (1, .ref (w.1 (64 + 5 * j))), (2, .ref (w.1 (64 + 5 * t)))] 1 (dn (v - 1)) dX2_leastCost_67 rfl rfl (by decide) rfl ?_
        refine g_goto C 47 dX2_leastCost_70 rfl ?_
        exact ih (v - 1) _ _ ⟨by omega, hfs⟩ (by omega)
  · replace c_1 := (not_congr (nI_leI (by omega) (by omega))).mp c_1
    exact absurd h23 (by omega)

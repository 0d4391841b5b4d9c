/-! java.lang.Integer -/
def bc1 (x : Int32) : Int32 := x - (((x).toUInt32 >>> ((nI 1).toUInt32 &&& Int32.toUInt32 31)).toInt32 &&& 1431655765)
def bc2 (x : Int32) : Int32 := (x &&& 858993459) + (((x).toUInt32 >>> ((nI 2).toUInt32 &&& Int32.toUInt32 31)).toInt32 &&& 858993459)
def bc3 (x : Int32) : Int32 := (x + ((x).toUInt32 >>> ((nI 4).toUInt32 &&& Int32.toUInt32 31)).toInt32) &&& 252645135
def bc4 (x : Int32) : Int32 := x + ((x).toUInt32 >>> ((nI 8).toUInt32 &&& Int32.toUInt32 31)).toInt32
def bc5 (x : Int32) : Int32 := x + ((x).toUInt32 >>> ((nI 16).toUInt32 &&& Int32.toUInt32 31)).toInt32
def bC (x : Int32) : Int32 := bc5 (bc4 (bc3 (bc2 (bc1 x)))) &&& nI 63
set_option maxRecDepth 100000 in
set_option maxHeartbeats 4000000 in
theorem m_bitCount (l : Launch) (w : Wd) (σ : St) (x : Int32) : MI l yJ6_bitCount_0f7a4 wsJ6_bitCount_0f7a4 (rmL 1) w [.int (x)] (σ) (fun r σ9 => σ9 = σ ∧ r = bC x) := by
  refine MI_of (cc := cJ6_bitCount_0f7a4) (maxL := 1) (ret := .int) (by decide) rfl (Nat.le_of_ble_eq_true rfl) ?_
  intro p e s m args below meth c A C hr hlk
  have C : Cx p s m args c w A cJ6_bitCount_0f7a4 RJ6 1 wsJ6_bitCount_0f7a4 := C
  refine g_iload_n (pc9 := 1) C rfl 0 dJ6_bitCount_0f7a4_0 rfl rfl ?_
  refine g_iload_n (pc9 := 2) C rfl 0 dJ6_bitCount_0f7a4_1 rfl rfl ?_
  refine g_iconst (pc9 := 3) C rfl (nI (1)) dJ6_bitCount_0f7a4_2 rfl ?_
  refine g_iushr (pc9 := 4) C rfl (((x).toUInt32 >>> ((nI (1)).toUInt32 &&& Int32.toUInt32 31)).toInt32) dJ6_bitCount_0f7a4_3 rfl ?_
  refine g_ldc_w (pc9 := 7) C rfl (1431655765) dJ6_bitCount_0f7a4_4 (by decide +kernel) ?_
  refine g_iand (pc9 := 8) C rfl dJ6_bitCount_0f7a4_7 ?_
  refine g_isub (pc9 := 9) C rfl dJ6_bitCount_0f7a4_8 ?_
  refine g_istore_n (pc9 := 10) C rfl [(0, .int ((x) - ((((x).toUInt32 >>> ((nI (1)).toUInt32 &&& Int32.toUInt32 31)).toInt32) &&& (1431655765))))] dJ6_bitCount_0f7a4_9 rfl (by decide) rfl ?_
  refine g_iload_n (pc9 := 11) C rfl 0 dJ6_bitCount_0f7a4_10 rfl rfl ?_
  refine g_ldc_w (pc9 := 14) C rfl (858993459) dJ6_bitCount_0f7a4_11 (by decide +kernel) ?_
  refine g_iand (pc9 := 15) C rfl dJ6_bitCount_0f7a4_14 ?_
  refine g_iload_n (pc9 := 16) C rfl 0 dJ6_bitCount_0f7a4_15 rfl rfl ?_
  refine g_iconst (pc9 := 17) C rfl (nI (2)) dJ6_bitCount_0f7a4_16 rfl ?_
  refine g_iushr (pc9 := 18) C rfl ((((x) - ((((x).toUInt32 >>> ((nI (1)).toUInt32 &&& Int32.toUInt32 31)).toInt32) &&& (1431655765))).toUInt32 >>> ((nI (2)).toUInt32 &&& Int32.toUInt32 31)).toInt32) dJ6_bitCount_0f7a4_17 rfl ?_
  refine g_ldc_w (pc9 := 21) C rfl (858993459) dJ6_bitCount_0f7a4_18 (by decide +kernel) ?_
  refine g_iand (pc9 := 22) C rfl dJ6_bitCount_0f7a4_21 ?_
  refine g_iadd (pc9 := 23) C rfl dJ6_bitCount_0f7a4_22 ?_
  refine g_istore_n (pc9 := 24) C rfl [(0, .int ((((x) - ((((x).toUInt32 >>> ((nI (1)).toUInt32 &&& Int32.toUInt32 31)).toInt32) &&& (1431655765))) &&& (858993459)) + (((((x) - ((((x).toUInt32 >>> ((nI (1)).toUInt32 &&& Int32.toUInt32 31)).toInt32) &&& (1431655765))).toUInt32 >>> ((nI (2)).toUInt32 &&& Int32.toUInt32 31)).toInt32) &&& (858993459))))] dJ6_bitCount_0f7a4_23 rfl (by decide) rfl ?_
  refine g_iload_n (pc9 := 25) C rfl 0 dJ6_bitCount_0f7a4_24 rfl rfl ?_
  refine g_iload_n (pc9 := 26) C rfl 0 dJ6_bitCount_0f7a4_25 rfl rfl ?_
  refine g_iconst (pc9 := 27) C rfl (nI (4)) dJ6_bitCount_0f7a4_26 rfl ?_
  refine g_iushr (pc9 := 28) C rfl ((((((x) - ((((x).toUInt32 >>> ((nI (1)).toUInt32 &&& Int32.toUInt32 31)).toInt32) &&& (1431655765))) &&& (858993459)) + (((((x) - ((((x).toUInt32 >>> ((nI (1)).toUInt32 &&& Int32.toUInt32 31)).toInt32) &&& (1431655765))).toUInt32 >>> ((nI (2)).toUInt32 &&& Int32.toUInt32 31)).toInt32) &&& (858993459))).toUInt32 >>> ((nI (4)).toUInt32 &&& Int32.toUInt32 31)).toInt32) dJ6_bitCount_0f7a4_27 rfl ?_
  refine g_iadd (pc9 := 29) C rfl dJ6_bitCount_0f7a4_28 ?_
  refine g_ldc_w (pc9 := 32) C rfl (252645135) dJ6_bitCount_0f7a4_29 (by decide +kernel) ?_
  refine g_iand (pc9 := 33) C rfl dJ6_bitCount_0f7a4_32 ?_
  refine g_istore_n (pc9 := 34) C rfl [(0, .int ((((((x) - ((((x).toUInt32 >>> ((nI (1)).toUInt32 &&& Int32.toUInt32 31)).toInt32) &&& (1431655765))) &&& (858993459)) + (((((x) - ((((x).toUInt32 >>> ((nI (1)).toUInt32 &&& Int32.toUInt32 31)).toInt32) &&& (1431655765))).toUInt32 >>> ((nI (2)).toUInt32 &&& Int32.toUInt32 31)).toInt32) &&& (858993459))) + ((((((x) - ((((x).toUInt32 >>> ((nI (1)).toUInt32 &&& Int32.toUInt32 31)).toInt32) &&& (1431655765))) &&& (858993459)) + (((((x) - ((((x).toUInt32 >>> ((nI (1)).toUInt32 &&& Int32.toUInt32 31)).toInt32) &&& (1431655765))).toUInt32 >>> ((nI (2)).toUInt32 &&& Int32.toUInt32 31)).toInt32) &&& (858993459))).toUInt32 >>> ((nI (4)).toUInt32 &&& Int32.toUInt32 31)).toInt32)) &&& (252645135)))] dJ6_bitCount_0f7a4_33 rfl (by decide) rfl ?_
  refine g_iload_n (pc9 := 35) C rfl 0 dJ6_bitCount_0f7a4_34 rfl rfl ?_
  refine g_iload_n (pc9 := 36) C rfl 0 dJ6_bitCount_0f7a4_35 rfl rfl ?_
  refine g_bipush (pc9 := 38) C rfl (nI (8)) dJ6_bitCount_0f7a4_36 rfl ?_
  refine g_iushr (pc9 := 39) C rfl ((((((((x) - ((((x).toUInt32 >>> ((nI (1)).toUInt32 &&& Int32.toUInt32 31)).toInt32) &&& (1431655765))) &&& (858993459)) + (((((x) - ((((x).toUInt32 >>> ((nI (1)).toUInt32 &&& Int32.toUInt32 31)).toInt32) &&& (1431655765))).toUInt32 >>> ((nI (2)).toUInt32 &&& Int32.toUInt32 31)).toInt32) &&& (858993459))) + ((((((x) - ((((x).toUInt32 >>> ((nI (1)).toUInt32 &&& Int32.toUInt32 31)).toInt32) &&& (1431655765))) &&& (858993459)) + (((((x) - ((((x).toUInt32 >>> ((nI (1)).toUInt32 &&& Int32.toUInt32 31)).toInt32) &&& (1431655765))).toUInt32 >>> ((nI (2)).toUInt32 &&& Int32.toUInt32 31)).toInt32) &&& (858993459))).toUInt32 >>> ((nI (4)).toUInt32 &&& Int32.toUInt32 31)).toInt32)) &&& (252645135)).toUInt32 >>> ((nI (8)).toUInt32 &&& Int32.toUInt32 31)).toInt32) dJ6_bitCount_0f7a4_38 rfl ?_
  refine g_iadd (pc9 := 40) C rfl dJ6_bitCount_0f7a4_39 ?_
  refine g_istore_n (pc9 := 41) C rfl [(0, .int (((((((x) - ((((x).toUInt32 >>> ((nI (1)).toUInt32 &&& Int32.toUInt32 31)).toInt32) &&& (1431655765))) &&& (858993459)) + (((((x) - ((((x).toUInt32 >>> ((nI (1)).toUInt32 &&& Int32.toUInt32 31)).toInt32) &&& (1431655765))).toUInt32 >>> ((nI (2)).toUInt32 &&& Int32.toUInt32 31)).toInt32) &&& (858993459))) + ((((((x) - ((((x).toUInt32 >>> ((nI (1)).toUInt32 &&& Int32.toUInt32 31)).toInt32) &&& (1431655765))) &&& (858993459)) + (((((x) - ((((x).toUInt32 >>> ((nI (1)).toUInt32 &&& Int32.toUInt32 31)).toInt32) &&& (1431655765))).toUInt32 >>> ((nI (2)).toUInt32 &&& Int32.toUInt32 31)).toInt32) &&& (858993459))).toUInt32 >>> ((nI (4)).toUInt32 &&& Int32.toUInt32 31)).toInt32)) &&& (252645135)) + ((((((((x) - ((((x).toUInt32 >>> ((nI (1)).toUInt32 &&& Int32.toUInt32 31)).toInt32) &&& (1431655765))) &&& (858993459)) + (((((x) - ((((x).toUInt32 >>> ((nI (1)).toUInt32 &&& Int32.toUInt32 31)).toInt32) &&& (1431655765))).toUInt32 >>> ((nI (2)).toUInt32 &&& Int32.toUInt32 31)).toInt32) &&& (858993459))) + ((((((x) - ((((x).toUInt32 >>> ((nI (1)).toUInt32 &&& Int32.toUInt32 31)).toInt32) &&& (1431655765))) &&& (858993459)) + (((((x) - ((((x).toUInt32 >>> ((nI (1)).toUInt32 &&& Int32.toUInt32 31)).toInt32) &&& (1431655765))).toUInt32 >>> ((nI (2)).toUInt32 &&& Int32.toUInt32 31)).toInt32) &&& (858993459))).toUInt32 >>> ((nI (4)).toUInt32 &&& Int32.toUInt32 31)).toInt32)) &&& (252645135)).toUInt32 >>> ((nI (8)).toUInt32 &&& Int32.toUInt32 31)).toInt32)))] dJ6_bitCount_0f7a4_40 rfl (by decide) rfl ?_
  refine g_iload_n (pc9 := 42) C rfl 0 dJ6_bitCount_0f7a4_41 rfl rfl ?_
  refine g_iload_n (pc9 := 43) C rfl 0 dJ6_bitCount_0f7a4_42 rfl rfl ?_
  refine g_bipush (pc9 := 45) C rfl (nI (16)) dJ6_bitCount_0f7a4_43 rfl ?_
  refine g_iushr (pc9 := 46) C rfl (((((((((x) - ((((x).toUInt32 >>> ((nI (1)).toUInt32 &&& Int32.toUInt32 31)).toInt32) &&& (1431655765))) &&& (858993459)) + (((((x) - ((((x).toUInt32 >>> ((nI (1)).toUInt32 &&& Int32.toUInt32 31)).toInt32) &&& (1431655765))).toUInt32 >>> ((nI (2)).toUInt32 &&& Int32.toUInt32 31)).toInt32) &&& (858993459))) + ((((((x) - ((((x).toUInt32 >>> ((nI (1)).toUInt32 &&& Int32.toUInt32 31)).toInt32) &&& (1431655765))) &&& (858993459)) + (((((x) - ((((x).toUInt32 >>> ((nI (1)).toUInt32 &&& Int32.toUInt32 31)).toInt32) &&& (1431655765))).toUInt32 >>> ((nI (2)).toUInt32 &&& Int32.toUInt32 31)).toInt32) &&& (858993459))).toUInt32 >>> ((nI (4)).toUInt32 &&& Int32.toUInt32 31)).toInt32)) &&& (252645135)) + ((((((((x) - ((((x).toUInt32 >>> ((nI (1)).toUInt32 &&& Int32.toUInt32 31)).toInt32) &&& (1431655765))) &&& (858993459)) + (((((x) - ((((x).toUInt32 >>> ((nI (1)).toUInt32 &&& Int32.toUInt32 31)).toInt32) &&& (1431655765))).toUInt32 >>> ((nI (2)).toUInt32 &&& Int32.toUInt32 31)).toInt32) &&& (858993459))) + ((((((x) - ((((x).toUInt32 >>> ((nI (1)).toUInt32 &&& Int32.toUInt32 31)).toInt32) &&& (1431655765))) &&& (858993459)) + (((((x) - ((((x).toUInt32 >>> ((nI (1)).toUInt32 &&& Int32.toUInt32 31)).toInt32) &&& (1431655765))).toUInt32 >>> ((nI (2)).toUInt32 &&& Int32.toUInt32 31)).toInt32) &&& (858993459))).toUInt32 >>> ((nI (4)).toUInt32 &&& Int32.toUInt32 31)).toInt32)) &&& (252645135)).toUInt32 >>> ((nI (8)).toUInt32 &&& Int32.toUInt32 31)).toInt32)).toUInt32 >>> ((nI (16)).toUInt32 &&& Int32.toUInt32 31)).toInt32) dJ6_bitCount_0f7a4_45 rfl ?_
  refine g_iadd (pc9 := 47) C rfl dJ6_bitCount_0f7a4_46 ?_
  refine g_istore_n (pc9 := 48) C rfl [(0, .int ((((((((x) - ((((x).toUInt32 >>> ((nI (1)).toUInt32 &&& Int32.toUInt32 31)).toInt32) &&& (1431655765))) &&& (858993459)) + (((((x) - ((((x).toUInt32 >>> ((nI (1)).toUInt32 &&& Int32.toUInt32 31)).toInt32) &&& (1431655765))).toUInt32 >>> ((nI (2)).toUInt32 &&& Int32.toUInt32 31)).toInt32) &&& (858993459))) + ((((((x) - ((((x).toUInt32 >>> ((nI (1)).toUInt32 &&& Int32.toUInt32 31)).toInt32) &&& (1431655765))) &&& (858993459)) + (((((x) - ((((x).toUInt32 >>> ((nI (1)).toUInt32 &&& Int32.toUInt32 31)).toInt32) &&& (1431655765))).toUInt32 >>> ((nI (2)).toUInt32 &&& Int32.toUInt32 31)).toInt32) &&& (858993459))).toUInt32 >>> ((nI (4)).toUInt32 &&& Int32.toUInt32 31)).toInt32)) &&& (252645135)) + ((((((((x) - ((((x).toUInt32 >>> ((nI (1)).toUInt32 &&& Int32.toUInt32 31)).toInt32) &&& (1431655765))) &&& (858993459)) + (((((x) - ((((x).toUInt32 >>> ((nI (1)).toUInt32 &&& Int32.toUInt32 31)).toInt32) &&& (1431655765))).toUInt32 >>> ((nI (2)).toUInt32 &&& Int32.toUInt32 31)).toInt32) &&& (858993459))) + ((((((x) - ((((x).toUInt32 >>> ((nI (1)).toUInt32 &&& Int32.toUInt32 31)).toInt32) &&& (1431655765))) &&& (858993459)) + (((((x) - ((((x).toUInt32 >>> ((nI (1)).toUInt32 &&& Int32.toUInt32 31)).toInt32) &&& (1431655765))).toUInt32 >>> ((nI (2)).toUInt32 &&& Int32.toUInt32 31)).toInt32) &&& (858993459))).toUInt32 >>> ((nI (4)).toUInt32 &&& Int32.toUInt32 31)).toInt32)) &&& (252645135)).toUInt32 >>> ((nI (8)).toUInt32 &&& Int32.toUInt32 31)).toInt32)) + (((((((((x) - ((((x).toUInt32 >>> ((nI (1)).toUInt32 &&& Int32.toUInt32 31)).toInt32) &&& (1431655765))) &&& (858993459)) + (((((x) - ((((x).toUInt32 >>> ((nI (1)).toUInt32 &&& Int32.toUInt32 31)).toInt32) &&& (1431655765))).toUInt32 >>> ((nI (2)).toUInt32 &&& Int32.toUInt32 31)).toInt32) &&& (858993459))) + ((((((x) - ((((x).toUInt32 >>> ((nI (1)).toUInt32 &&& Int32.toUInt32 31)).toInt32) &&& (1431655765))) &&& (858993459)) + (((((x) - ((((x).toUInt32 >>> ((nI (1)).toUInt32 &&& Int32.toUInt32 31)).toInt32) &&& (1431655765))).toUInt32 >>> ((nI (2)).toUInt32 &&& Int32.toUInt32 31)).toInt32) &&& (858993459))).toUInt32 >>> ((nI (4)).toUInt32 &&& Int32.toUInt32 31)).toInt32)) &&& (252645135)) + ((((((((x) - ((((x).toUInt32 >>> ((nI (1)).toUInt32 &&& Int32.toUInt32 31)).toInt32) &&& (1431655765))) &&& (858993459)) + (((((x) - ((((x).toUInt32 >>> ((nI (1)).toUInt32 &&& Int32.toUInt32 31)).toInt32) &&& (1431655765))).toUInt32 >>> ((nI (2)).toUInt32 &&& Int32.toUInt32 31)).toInt32) &&& (858993459))) + ((((((x) - ((((x).toUInt32 >>> ((nI (1)).toUInt32 &&& Int32.toUInt32 31)).toInt32) &&& (1431655765))) &&& (858993459)) + (((((x) - ((((x).toUInt32 >>> ((nI (1)).toUInt32 &&& Int32.toUInt32 31)).toInt32) &&& (1431655765))).toUInt32 >>> ((nI (2)).toUInt32 &&& Int32.toUInt32 31)).toInt32) &&& (858993459))).toUInt32 >>> ((nI (4)).toUInt32 &&& Int32.toUInt32 31)).toInt32)) &&& (252645135)).toUInt32 >>> ((nI (8)).toUInt32 &&& Int32.toUInt32 31)).toInt32)).toUInt32 >>> ((nI (16)).toUInt32 &&& Int32.toUInt32 31)).toInt32)))] dJ6_bitCount_0f7a4_47 rfl (by decide) rfl ?_
  refine g_iload_n (pc9 := 49) C rfl 0 dJ6_bitCount_0f7a4_48 rfl rfl ?_
  refine g_bipush (pc9 := 51) C rfl (nI (63)) dJ6_bitCount_0f7a4_49 rfl ?_
  refine g_iand (pc9 := 52) C rfl dJ6_bitCount_0f7a4_51 ?_
  exact g_ireturn C hr hlk dJ6_bitCount_0f7a4_52 ⟨rfl, by subst_vars; rfl⟩
set_option maxRecDepth 100000 in
set_option maxHeartbeats 4000000 in
theorem m_lowestOneBit (l : Launch) (w : Wd) (σ : St) (x : Int32) : MI l yJ6_lowestOneBit_0f7a4 wsJ6_lowestOneBit_0f7a4 (rmL 1) w [.int (x)] (σ) (fun r σ9 => σ9 = σ ∧ r = x &&& -x) := by
  refine MI_of (cc := cJ6_lowestOneBit_0f7a4) (maxL := 1) (ret := .int) (by decide) rfl (Nat.le_of_ble_eq_true rfl) ?_
  intro p e s m args below meth c A C hr hlk
  have C : Cx p s m args c w A cJ6_lowestOneBit_0f7a4 RJ6 1 wsJ6_lowestOneBit_0f7a4 := C
  refine g_iload_n (pc9 := 1) C rfl 0 dJ6_lowestOneBit_0f7a4_0 rfl rfl ?_
  refine g_iload_n (pc9 := 2) C rfl 0 dJ6_lowestOneBit_0f7a4_1 rfl rfl ?_
  refine g_ineg (pc9 := 3) C rfl dJ6_lowestOneBit_0f7a4_2 ?_
  refine g_iand (pc9 := 4) C rfl dJ6_lowestOneBit_0f7a4_3 ?_
  exact g_ireturn C hr hlk dJ6_lowestOneBit_0f7a4_4 ⟨rfl, rfl⟩
/-! Tree: the contracts of its methods, of the tree j of nine -/
abbrev tN (σ : St) (j : Nat) : Int32 := nF σ (64 + 5 * j) 4
abbrev tL (σ : St) (j : Nat) : Int32 := nF σ (64 + 5 * j) 5
abbrev tP (σ : St) (j : Nat) : Nat → Int32 := iA σ (65 + 5 * j)
abbrev tK (σ : St) (j : Nat) : Nat → Int32 := iA σ (66 + 5 * j)
abbrev tC (σ : St) (j : Nat) : Nat → Int32 := iA σ (67 + 5 * j)
abbrev tH (σ : St) (j : Nat) : Nat → Int32 := iA σ (68 + 5 * j)
set_option maxRecDepth 100000 in
set_option maxHeartbeats 4000000 in
theorem m_X7_isNone (l : Launch) (w : Wd) (σ : St) (j : Nat) (hj : j < 9) : MI l yX7_isNone wsX7_isNone (rmL 1) w [.ref (w.1 (64 + 5 * j))] (σ) (fun r σ9 => σ9 = σ ∧ r = if tN σ j = 0 then 1 else 0) := by
  refine MI_of (cc := cX7_isNone) (maxL := 1) (ret := .boolean) (by decide) rfl (Nat.le_of_ble_eq_true rfl) ?_
  intro p e s m args below meth c A C hr hlk
  have C : Cx p s m args c w A cX7_isNone RX7 1 wsX7_isNone := C
  have hin_7 : ∀ u ∈ wsX70, u ∈ wsX7_isNone := by decide +kernel
  have hl_24 : Cond.fieldLink RX7 24 "LineageBench$Tree" "nodes" "I" ∈ wsX7_isNone := by decide +kernel
  refine g_aload_n (pc9 := 1) C rfl 0 dX7_isNone_0 rfl rfl ?_
  refine g_get (v := .int (nF σ (64 + 5 * j) 4)) (pc9 := 4) C rfl (64 + 5 * j) 4 dX7_isNone_1 (by omega) (ce_tree w (σ) (j)) hin_7 hl_24 rfl (by decide) rfl rfl ?_
  refine g_if_ne (pc9 := 7) C rfl 11 dX7_isNone_4 rfl (fun c_1 => ?_) (fun c_1 => ?_)
  · refine g_iconst (pc9 := 12) C rfl (nI (0)) dX7_isNone_11 rfl ?_
    exact g_zreturn C hr hlk dX7_isNone_12 (by decide) ⟨rfl, by first | exact (if_pos (by assumption)).symm | exact (if_neg (by assumption)).symm⟩
  · refine g_iconst (pc9 := 8) C rfl (nI (1)) dX7_isNone_7 rfl ?_
    refine g_goto C 12 dX7_isNone_8 rfl ?_
    exact g_zreturn C hr hlk dX7_isNone_12 (by decide) ⟨rfl, by first | exact (if_pos (by assumption)).symm | exact (if_neg (by assumption)).symm⟩
set_option maxRecDepth 100000 in
set_option maxHeartbeats 4000000 in
theorem m_X7_makeNone (l : Launch) (w : Wd) (σ : St) (j : Nat) (hj : j < 9) : MV l yX7_makeNone wsX7_makeNone (rmL 1) w [.ref (w.1 (64 + 5 * j))] (σ) (fun σ9 => σ9 = sN (sN σ (64 + 5 * j) 4 (nI 0)) (64 + 5 * j) 5 (nI 0)) := by
  refine MV_of (cc := cX7_makeNone) (maxL := 1) (by decide) rfl (Nat.le_of_ble_eq_true rfl) ?_
  intro p e s m args below meth c A C hr hlk
  have C : Cx p s m args c w A cX7_makeNone RX7 1 wsX7_makeNone := C
  have hin_7 : ∀ u ∈ wsX70, u ∈ wsX7_makeNone := by decide +kernel
  have hl_24 : Cond.fieldLink RX7 24 "LineageBench$Tree" "nodes" "I" ∈ wsX7_makeNone := by decide +kernel
  have hl_28 : Cond.fieldLink RX7 28 "LineageBench$Tree" "leaves" "I" ∈ wsX7_makeNone := by decide +kernel
  refine g_aload_n (pc9 := 1) C rfl 0 dX7_makeNone_0 rfl rfl ?_
  refine g_iconst (pc9 := 2) C rfl (nI (0)) dX7_makeNone_1 rfl ?_
  refine g_put (pc9 := 5) C rfl (64 + 5 * j) 4 dX7_makeNone_2 (by omega) (ce_tree w (σ) (j)) (cn_tree_4 w _ _ _) hin_7 hl_24 tyX7 tyX7_ok nmX7 rfl (by decide) rfl rfl rfl (Nat.le_of_ble_eq_true rfl) ?_
  refine g_aload_n (pc9 := 6) C rfl 0 dX7_makeNone_5 rfl rfl ?_
  refine g_iconst (pc9 := 7) C rfl (nI (0)) dX7_makeNone_6 rfl ?_
  refine g_put (pc9 := 10) C rfl (64 + 5 * j) 5 dX7_makeNone_7 (by omega) (ce_tree w (sN σ (64 + 5 * j) 4 (nI (0))) (j)) (cn_tree_5 w _ _ _) hin_7 hl_28 tyX7 tyX7_ok nmX7 rfl (by decide) rfl rfl rfl (Nat.le_of_ble_eq_true rfl) ?_
  exact g_return C hr hlk dX7_makeNone_10 rfl
set_option maxRecDepth 100000 in
set_option maxHeartbeats 4000000 in
theorem m_X7_allKinds (l : Launch) (w : Wd) (σ : St) (j : Nat) (hj : j < 9) : MI l yX7_allKinds wsX7_allKinds (rmL 1) w [.ref (w.1 (64 + 5 * j))] (σ) (fun r σ9 => σ9 = σ ∧ r = if tN σ j = 0 then 0 else tC σ j 0) := by
  refine MI_of (cc := cX7_allKinds) (maxL := 1) (ret := .int) (by decide) rfl (Nat.le_of_ble_eq_true rfl) ?_
  intro p e s m args below meth c A C hr hlk
  have C : Cx p s m args c w A cX7_allKinds RX7 1 wsX7_allKinds := C
  have hin_7 : ∀ u ∈ wsX70, u ∈ wsX7_allKinds := by decide +kernel
  have hl_18 : Cond.fieldLink RX7 18 "LineageBench$Tree" "cluster" "[I" ∈ wsX7_allKinds := by decide +kernel
  have hl_24 : Cond.fieldLink RX7 24 "LineageBench$Tree" "nodes" "I" ∈ wsX7_allKinds := by decide +kernel
  refine g_aload_n (pc9 := 1) C rfl 0 dX7_allKinds_0 rfl rfl ?_
  refine g_get (v := .int (nF σ (64 + 5 * j) 4)) (pc9 := 4) C rfl (64 + 5 * j) 4 dX7_allKinds_1 (by omega) (ce_tree w (σ) (j)) hin_7 hl_24 rfl (by decide) rfl rfl ?_
  refine g_if_ne (pc9 := 7) C rfl 11 dX7_allKinds_4 rfl (fun c_1 => ?_) (fun c_1 => ?_)
  · refine g_aload_n (pc9 := 12) C rfl 0 dX7_allKinds_11 rfl rfl ?_
    refine g_get (v := .ref (w.1 (67 + 5 * j))) (pc9 := 15) C rfl (64 + 5 * j) 2 dX7_allKinds_12 (by omega) (ce_tree w (σ) (j)) hin_7 hl_18 rfl (by decide) rfl rfl ?_
    refine g_iconst (pc9 := 16) C rfl (nI (0)) dX7_allKinds_15 rfl ?_
    refine g_iald (x := (iA σ (67 + 5 * j)) (0)) (pc9 := 17) C rfl (67 + 5 * j) (0) dX7_allKinds_16 (by omega) (ce_cluster w (σ) (j)) rfl (by omega) (by decide) rfl ?_
    exact g_ireturn C hr hlk dX7_allKinds_17 ⟨rfl, by first | exact (if_pos (by assumption)).symm | exact (if_neg (by assumption)).symm⟩
  · refine g_iconst (pc9 := 8) C rfl (nI (0)) dX7_allKinds_7 rfl ?_
    refine g_goto C 17 dX7_allKinds_8 rfl ?_
    exact g_ireturn C hr hlk dX7_allKinds_17 ⟨rfl, by first | exact (if_pos (by assumption)).symm | exact (if_neg (by assumption)).symm⟩
set_option maxRecDepth 100000 in
set_option maxHeartbeats 4000000 in
theorem m_X7_parentOf (l : Launch) (w : Wd) (σ : St) (j : Nat) (hj : j < 9) (n : Nat) (hn : tN σ j = nI n) (h47 : n ≤ 47) (i : Nat) (hi : i < n) : MI l yX7_parentOf wsX7_parentOf (rmL 1) w [.ref (w.1 (64 + 5 * j)), .int (nI (i))] (σ) (fun r σ9 => σ9 = σ ∧ r = tP σ j i) := by
  refine MI_of (cc := cX7_parentOf) (maxL := 2) (ret := .int) (by decide) rfl (Nat.le_of_ble_eq_true rfl) ?_
  intro p e s m args below meth c A C hr hlk
  have C : Cx p s m args c w A cX7_parentOf RX7 2 wsX7_parentOf := C
  have hin_7 : ∀ u ∈ wsX70, u ∈ wsX7_parentOf := by decide +kernel
  have hl_9 : Cond.fieldLink RX7 9 "LineageBench$Tree" "parent" "[I" ∈ wsX7_parentOf := by decide +kernel
  have hl_24 : Cond.fieldLink RX7 24 "LineageBench$Tree" "nodes" "I" ∈ wsX7_parentOf := by decide +kernel
  refine g_iload_n (pc9 := 1) C rfl 1 dX7_parentOf_0 rfl rfl ?_
  refine g_if_lt (pc9 := 4) C rfl 21 dX7_parentOf_1 rfl (fun c_1 => ?_) (fun c_1 => ?_)
  · replace c_1 := (z_lt (by omega)).mp c_1
    exact absurd c_1 (by simp)
  · replace c_1 := (not_congr (z_lt (by omega))).mp c_1
    refine g_iload_n (pc9 := 5) C rfl 1 dX7_parentOf_4 rfl rfl ?_
    refine g_aload_n (pc9 := 6) C rfl 0 dX7_parentOf_5 rfl rfl ?_
    refine g_get (v := .int (nI (n))) (pc9 := 9) C rfl (64 + 5 * j) 4 dX7_parentOf_6 (by omega) (ce_tree w (σ) (j)) hin_7 hl_24 rfl (by decide) rfl (congrArg (fun z => some (Value.int z)) hn) ?_
    refine g_icmp_ge (pc9 := 12) C rfl 21 dX7_parentOf_9 rfl (fun c_2 => ?_) (fun c_2 => ?_)
    · replace c_2 := (nI_leI (by omega) (by omega)).mp c_2
      exact absurd hi (by omega)
    · replace c_2 := (not_congr (nI_leI (by omega) (by omega))).mp c_2
      refine g_aload_n (pc9 := 13) C rfl 0 dX7_parentOf_12 rfl rfl ?_
      refine g_get (v := .ref (w.1 (65 + 5 * j))) (pc9 := 16) C rfl (64 + 5 * j) 0 dX7_parentOf_13 (by omega) (ce_tree w (σ) (j)) hin_7 hl_9 rfl (by decide) rfl rfl ?_
      refine g_iload_n (pc9 := 17) C rfl 1 dX7_parentOf_16 rfl rfl ?_
      refine g_iald (x := (iA σ (65 + 5 * j)) (i)) (pc9 := 18) C rfl (65 + 5 * j) (i) dX7_parentOf_17 (by omega) (ce_parent w (σ) (j)) rfl (by omega) (by decide) rfl ?_
      refine g_goto C 22 dX7_parentOf_18 rfl ?_
      exact g_ireturn C hr hlk dX7_parentOf_22 ⟨rfl, rfl⟩
set_option maxRecDepth 100000 in
set_option maxHeartbeats 4000000 in
theorem m_X7_isPlain (l : Launch) (w : Wd) (σ : St) (j : Nat) (hj : j < 9) : MI l yX7_isPlain wsX7_isPlain (rmL 2) w [.ref (w.1 (64 + 5 * j))] (σ) (fun r σ9 => σ9 = σ ∧ r = pI (tL σ j = bC (if tN σ j = 0 then 0 else tC σ j 0))) := by
  refine MI_of (cc := cX7_isPlain) (maxL := 1) (ret := .boolean) (by decide) rfl (Nat.le_of_ble_eq_true rfl) ?_
  intro p e s m args below meth c A C hr hlk
  have C : Cx p s m args c w A cX7_isPlain RX7 1 wsX7_isPlain := C
  have hin_7 : ∀ u ∈ wsX70, u ∈ wsX7_isPlain := by decide +kernel
  have hl_28 : Cond.fieldLink RX7 28 "LineageBench$Tree" "leaves" "I" ∈ wsX7_isPlain := by decide +kernel
  refine g_aload_n (pc9 := 1) C rfl 0 dX7_isPlain_0 rfl rfl ?_
  refine g_get (v := .int (nF σ (64 + 5 * j) 5)) (pc9 := 4) C rfl (64 + 5 * j) 5 dX7_isPlain_1 (by omega) (ce_tree w (σ) (j)) hin_7 hl_28 rfl (by decide) rfl rfl ?_
  refine g_aload_n (pc9 := 5) C rfl 0 dX7_isPlain_4 rfl rfl ?_
  refine g_callVi (nn := 0) (rest := [.int (nF σ (64 + 5 * j) 5)]) (pc9 := 8) C rfl (64 + 5 * j) [] rfl dX7_isPlain_5 (m_X7_allKinds l w σ j hj) gX7_isPlain_X7_allKinds (by omega) (ce_tree w (σ) (j)) rfl rfl rfl rfl rfl (by decide +kernel) ⟨by decide, by decide⟩ rfl (Nat.le_of_ble_eq_true rfl) ⟨by decide, by decide⟩ (fun r_1 σ_1 q_1 => ?_)
  obtain ⟨qs_1, qr_1⟩ := q_1
  rw [qs_1, qr_1]
  clear qs_1 qr_1
  refine g_callSi (nn := 1) (rest := [.int (nF σ (64 + 5 * j) 5)]) (pc9 := 11) C rfl [.int (if tN σ j = 0 then 0 else tC σ j 0)] rfl dX7_isPlain_8 (m_bitCount l w σ (if tN σ j = 0 then 0 else tC σ j 0)) gX7_isPlain_J6_bitCount_0f7a4 rfl rfl rfl (by decide +kernel) ⟨by decide, by decide⟩ rfl (Nat.le_of_ble_eq_true rfl) ⟨by decide, by decide⟩ (fun r_2 σ_2 q_2 => ?_)
  obtain ⟨qs_2, qr_2⟩ := q_2
  rw [qs_2, qr_2]
  clear qs_2 qr_2
  refine g_icmp_ne (pc9 := 14) C rfl 18 dX7_isPlain_11 rfl (fun c_3 => ?_) (fun c_3 => ?_)
  · refine g_iconst (pc9 := 19) C rfl (nI (0)) dX7_isPlain_18 rfl ?_
    exact g_zreturn C hr hlk dX7_isPlain_19 (by decide) ⟨rfl, by first | exact (pI_t (by assumption)).symm | exact (pI_f (by assumption)).symm⟩
  · refine g_iconst (pc9 := 15) C rfl (nI (1)) dX7_isPlain_14 rfl ?_
    refine g_goto C 19 dX7_isPlain_15 rfl ?_
    exact g_zreturn C hr hlk dX7_isPlain_19 (by decide) ⟨rfl, by first | exact (pI_t (by assumption)).symm | exact (pI_f (by assumption)).symm⟩
set_option maxRecDepth 100000 in
set_option maxHeartbeats 4000000 in
theorem m_X7_isBinary (l : Launch) (w : Wd) (σ : St) (j : Nat) (hj : j < 9) (n : Nat) (hn : tN σ j = nI n) (h47 : n ≤ 47) : MI l yX7_isBinary wsX7_isBinary (rmL 1) w [.ref (w.1 (64 + 5 * j))] (σ) (fun r σ9 => σ9 = σ ∧ r = pI (∀ v, v < n → tH σ j v ≤ nI 2)) := by
  refine MI_of (cc := cX7_isBinary) (maxL := 2) (ret := .boolean) (by decide) rfl (Nat.le_of_ble_eq_true rfl) ?_
  intro p e s m args below meth c A C hr hlk
  have C : Cx p s m args c w A cX7_isBinary RX7 2 wsX7_isBinary := C
  have hin_7 : ∀ u ∈ wsX70, u ∈ wsX7_isBinary := by decide +kernel
  have hl_21 : Cond.fieldLink RX7 21 "LineageBench$Tree" "children" "[I" ∈ wsX7_isBinary := by decide +kernel
  have hl_24 : Cond.fieldLink RX7 24 "LineageBench$Tree" "nodes" "I" ∈ wsX7_isBinary := by decide +kernel
  refine g_iconst (pc9 := 1) C rfl (nI (0)) dX7_isBinary_0 rfl ?_
  refine g_istore_n (pc9 := 2) C rfl [(1, .int (nI (0))), (0, .ref (w.1 (64 + 5 * j)))] dX7_isBinary_1 rfl (by decide) rfl ?_
  refine g_lp1 (α := Nat) (fun v => v ≤ n ∧ ∀ u, u < v → tH σ j u ≤ nI 2) (fun v => n - v) (fun v => G p l e _ s m args below meth c _ w A _ (σ) 0 0 2 [(1, .int (nI (v))), (0, .ref (w.1 (64 + 5 * j)))] []) (fun v hI ih => ?_) (0) ⟨Nat.zero_le _, fun u h => absurd h (by omega)⟩
  obtain ⟨hv, hu⟩ := hI
  refine g_iload_n (pc9 := 3) C rfl 0 dX7_isBinary_2 rfl rfl ?_
  refine g_aload_n (pc9 := 4) C rfl 1 dX7_isBinary_3 rfl rfl ?_
  refine g_get (v := .int (nI (n))) (pc9 := 7) C rfl (64 + 5 * j) 4 dX7_isBinary_4 (by omega) (ce_tree w (σ) (j)) hin_7 hl_24 rfl (by decide) rfl (congrArg (fun z => some (Value.int z)) hn) ?_
  refine g_icmp_ge (pc9 := 10) C rfl 28 dX7_isBinary_7 rfl (fun c_1 => ?_) (fun c_1 => ?_)
  · replace c_1 := (nI_leI (by omega) (by omega)).mp c_1
    refine g_iconst (pc9 := 29) C rfl (nI (1)) dX7_isBinary_28 rfl ?_
    exact g_zreturn C hr hlk dX7_isBinary_29 (by decide) ⟨rfl, (pI_t (fun u h => hu u (by omega))).symm⟩
  · replace c_1 := (not_congr (nI_leI (by omega) (by omega))).mp c_1
    refine g_aload_n (pc9 := 11) C rfl 1 dX7_isBinary_10 rfl rfl ?_
    refine g_get (v := .ref (w.1 (68 + 5 * j))) (pc9 := 14) C rfl (64 + 5 * j) 3 dX7_isBinary_11 (by omega) (ce_tree w (σ) (j)) hin_7 hl_21 rfl (by decide) rfl rfl ?_
    refine g_iload_n (pc9 := 15) C rfl 0 dX7_isBinary_14 rfl rfl ?_
    refine g_iald (x := (iA σ (68 + 5 * j)) (v)) (pc9 := 16) C rfl (68 + 5 * j) (v) dX7_isBinary_15 (by omega) (ce_children w (σ) (j)) rfl (by omega) (by decide) rfl ?_
    refine g_iconst (pc9 := 17) C rfl (nI (2)) dX7_isBinary_16 rfl ?_
    refine g_icmp_le (pc9 := 20) C rfl 22 dX7_isBinary_17 rfl (fun c_2 => ?_) (fun c_2 => ?_)
    · have hle := c_2
      refine g_iinc (pc9 := 25) C rfl [(1, .int (nI (v + 1))), (0, .ref (w.1 (64 + 5 * j)))] 0 (nI (v + 1)) dX7_isBinary_22 rfl (nI_1 (v)) (by decide) rfl ?_
      refine g_goto C 2 dX7_isBinary_25 rfl ?_
      exact ih (v + 1) ⟨by omega, lt_s hu hle⟩ (by omega)
    · refine g_iconst (pc9 := 21) C rfl (nI (0)) dX7_isBinary_20 rfl ?_
      exact g_zreturn C hr hlk dX7_isBinary_21 (by decide) ⟨rfl, (pI_f (fun h => absurd (h v (by omega)) (by assumption))).symm⟩
set_option maxRecDepth 100000 in
set_option maxHeartbeats 4000000 in
theorem m_X7_hasCluster (l : Launch) (w : Wd) (σ : St) (j : Nat) (hj : j < 9) (n : Nat) (hn : tN σ j = nI n) (h47 : n ≤ 47) (x : Int32) : MI l yX7_hasCluster wsX7_hasCluster (rmL 1) w [.ref (w.1 (64 + 5 * j)), .int (x)] (σ) (fun r σ9 => σ9 = σ ∧ r = pI (∃ v, v < n ∧ tC σ j v = x)) := by
  refine MI_of (cc := cX7_hasCluster) (maxL := 3) (ret := .boolean) (by decide) rfl (Nat.le_of_ble_eq_true rfl) ?_
  intro p e s m args below meth c A C hr hlk
  have C : Cx p s m args c w A cX7_hasCluster RX7 3 wsX7_hasCluster := C
  have hin_7 : ∀ u ∈ wsX70, u ∈ wsX7_hasCluster := by decide +kernel
  have hl_18 : Cond.fieldLink RX7 18 "LineageBench$Tree" "cluster" "[I" ∈ wsX7_hasCluster := by decide +kernel
  have hl_24 : Cond.fieldLink RX7 24 "LineageBench$Tree" "nodes" "I" ∈ wsX7_hasCluster := by decide +kernel
  refine g_iconst (pc9 := 1) C rfl (nI (0)) dX7_hasCluster_0 rfl ?_
  refine g_istore_n (pc9 := 2) C rfl [(2, .int (nI (0))), (0, .ref (w.1 (64 + 5 * j))), (1, .int (x))] dX7_hasCluster_1 rfl (by decide) rfl ?_
  refine g_lp1 (α := Nat) (fun v => v ≤ n ∧ ∀ u, u < v → ¬ tC σ j u = x) (fun v => n - v) (fun v => G p l e _ s m args below meth c _ w A _ (σ) 0 0 2 [(2, .int (nI (v))), (0, .ref (w.1 (64 + 5 * j))), (1, .int (x))] []) (fun v hI ih => ?_) (0) ⟨Nat.zero_le _, fun u h => absurd h (by omega)⟩
  obtain ⟨hv, hu⟩ := hI
  refine g_iload_n (pc9 := 3) C rfl 0 dX7_hasCluster_2 rfl rfl ?_
  refine g_aload_n (pc9 := 4) C rfl 1 dX7_hasCluster_3 rfl rfl ?_
  refine g_get (v := .int (nI (n))) (pc9 := 7) C rfl (64 + 5 * j) 4 dX7_hasCluster_4 (by omega) (ce_tree w (σ) (j)) hin_7 hl_24 rfl (by decide) rfl (congrArg (fun z => some (Value.int z)) hn) ?_
  refine g_icmp_ge (pc9 := 10) C rfl 28 dX7_hasCluster_7 rfl (fun c_1 => ?_) (fun c_1 => ?_)
  · replace c_1 := (nI_leI (by omega) (by omega)).mp c_1
    refine g_iconst (pc9 := 29) C rfl (nI (0)) dX7_hasCluster_28 rfl ?_
    exact g_zreturn C hr hlk dX7_hasCluster_29 (by decide) ⟨rfl, (pI_f (fun ⟨u, h1, h2⟩ => hu u (by omega) h2)).symm⟩
  · replace c_1 := (not_congr (nI_leI (by omega) (by omega))).mp c_1
    refine g_aload_n (pc9 := 11) C rfl 1 dX7_hasCluster_10 rfl rfl ?_
    refine g_get (v := .ref (w.1 (67 + 5 * j))) (pc9 := 14) C rfl (64 + 5 * j) 2 dX7_hasCluster_11 (by omega) (ce_tree w (σ) (j)) hin_7 hl_18 rfl (by decide) rfl rfl ?_
    refine g_iload_n (pc9 := 15) C rfl 0 dX7_hasCluster_14 rfl rfl ?_
    refine g_iald (x := (iA σ (67 + 5 * j)) (v)) (pc9 := 16) C rfl (67 + 5 * j) (v) dX7_hasCluster_15 (by omega) (ce_cluster w (σ) (j)) rfl (by omega) (by decide) rfl ?_
    refine g_iload_n (pc9 := 17) C rfl 2 dX7_hasCluster_16 rfl rfl ?_
    refine g_icmp_ne (pc9 := 20) C rfl 22 dX7_hasCluster_17 rfl (fun c_2 => ?_) (fun c_2 => ?_)
    · have hne := c_2
      refine g_iinc (pc9 := 25) C rfl [(2, .int (nI (v + 1))), (0, .ref (w.1 (64 + 5 * j))), (1, .int (x))] 0 (nI (v + 1)) dX7_hasCluster_22 rfl (nI_1 (v)) (by decide) rfl ?_
      refine g_goto C 2 dX7_hasCluster_25 rfl ?_
      exact ih (v + 1) ⟨by omega, lt_s hu hne⟩ (by omega)
    · refine g_iconst (pc9 := 21) C rfl (nI (1)) dX7_hasCluster_20 rfl ?_
      exact g_zreturn C hr hlk dX7_hasCluster_21 (by decide) ⟨rfl, (pI_t ⟨v, by omega, by assumption⟩).symm⟩

/-! Tape: number of its bytes at 32.1, the bytes at 33 -/
set_option maxRecDepth 100000 in
set_option maxHeartbeats 4000000 in
theorem m_X6_hasRoomFor (l : Launch) (w : Wd) (σ : St) (L : Nat) (hL : nF σ 32 1 = nI L) (h4 : L ≤ 400) (a : Nat) (ha : a ≤ 1000) : MI l yX6_hasRoomFor wsX6_hasRoomFor (rmL 1) w [.ref (w.1 (32)), .int (nI (a))] (σ) (fun r σ9 => σ9 = σ ∧ r = pI (L + a ≤ 400)) := by
  refine MI_of (cc := cX6_hasRoomFor) (maxL := 2) (ret := .boolean) (by decide) rfl (Nat.le_of_ble_eq_true rfl) ?_
  intro p e s m args below meth c A C hr hlk
  have C : Cx p s m args c w A cX6_hasRoomFor RX6 2 wsX6_hasRoomFor := C
  have hin_6 : ∀ u ∈ wsX60, u ∈ wsX6_hasRoomFor := by decide +kernel
  have hl_15 : Cond.fieldLink RX6 15 "LineageBench$Tape" "length" "I" ∈ wsX6_hasRoomFor := by decide +kernel
  refine g_aload_n (pc9 := 1) C rfl 0 dX6_hasRoomFor_0 rfl rfl ?_
  refine g_get (v := .int (nI (L))) (pc9 := 4) C rfl (32) 1 dX6_hasRoomFor_1 (by decide) (ce_32 w (σ)) hin_6 hl_15 rfl (by decide) rfl (congrArg (fun z => some (Value.int z)) hL) ?_
  refine g_iload_n (pc9 := 5) C rfl 1 dX6_hasRoomFor_4 rfl rfl ?_
  refine g_iaddN (pc9 := 6) C rfl dX6_hasRoomFor_5 ?_
  refine g_sipush (pc9 := 9) C rfl (nI (400)) dX6_hasRoomFor_6 rfl ?_
  refine g_icmp_gt (pc9 := 12) C rfl 16 dX6_hasRoomFor_9 rfl (fun c_1 => ?_) (fun c_1 => ?_)
  · replace c_1 := (nI_ltI (by omega) (by omega)).mp c_1
    refine g_iconst (pc9 := 17) C rfl (nI (0)) dX6_hasRoomFor_16 rfl ?_
    exact g_zreturn C hr hlk dX6_hasRoomFor_17 (by decide) ⟨rfl, by first | exact (pI_t (by omega)).symm | exact (pI_f (by omega)).symm⟩
  · replace c_1 := (not_congr (nI_ltI (by omega) (by omega))).mp c_1
    refine g_iconst (pc9 := 13) C rfl (nI (1)) dX6_hasRoomFor_12 rfl ?_
    refine g_goto C 17 dX6_hasRoomFor_13 rfl ?_
    exact g_zreturn C hr hlk dX6_hasRoomFor_17 (by decide) ⟨rfl, by first | exact (pI_t (by omega)).symm | exact (pI_f (by omega)).symm⟩
/-- a byte more -/
def tB (σ : St) (L : Nat) (x : Int32) : St := sN (sI σ 33 (upd (iA σ 33) L (x &&& nI 255))) 32 1 (nI (L + 1))
set_option maxRecDepth 100000 in
set_option maxHeartbeats 4000000 in
theorem m_X6_addByte (l : Launch) (w : Wd) (σ : St) (L : Nat) (hL : nF σ 32 1 = nI L) (h4 : L < 400) (x : Int32) : MV l yX6_addByte wsX6_addByte (rmL 1) w [.ref (w.1 (32)), .int (x)] (σ) (fun σ9 => σ9 = tB σ L x) := by
  refine MV_of (cc := cX6_addByte) (maxL := 2) (by decide) rfl (Nat.le_of_ble_eq_true rfl) ?_
  intro p e s m args below meth c A C hr hlk
  have C : Cx p s m args c w A cX6_addByte RX6 2 wsX6_addByte := C
  have hin_6 : ∀ u ∈ wsX60, u ∈ wsX6_addByte := by decide +kernel
  have hl_9 : Cond.fieldLink RX6 9 "LineageBench$Tape" "bytes" "[I" ∈ wsX6_addByte := by decide +kernel
  have hl_15 : Cond.fieldLink RX6 15 "LineageBench$Tape" "length" "I" ∈ wsX6_addByte := by decide +kernel
  refine g_aload_n (pc9 := 1) C rfl 0 dX6_addByte_0 rfl rfl ?_
  refine g_get (v := .int (nI (L))) (pc9 := 4) C rfl (32) 1 dX6_addByte_1 (by decide) (ce_32 w (σ)) hin_6 hl_15 rfl (by decide) rfl (congrArg (fun z => some (Value.int z)) hL) ?_
  refine g_sipush (pc9 := 7) C rfl (nI (400)) dX6_addByte_4 rfl ?_
  refine g_icmp_ge (pc9 := 10) C rfl 34 dX6_addByte_7 rfl (fun c_1 => ?_) (fun c_1 => ?_)
  · replace c_1 := (nI_leI (by omega) (by omega)).mp c_1
    exact absurd h4 (by omega)
  · replace c_1 := (not_congr (nI_leI (by omega) (by omega))).mp c_1
    refine g_aload_n (pc9 := 11) C rfl 0 dX6_addByte_10 rfl rfl ?_
    refine g_get (v := .ref (w.1 (33))) (pc9 := 14) C rfl (32) 0 dX6_addByte_11 (by decide) (ce_32 w (σ)) hin_6 hl_9 rfl (by decide) rfl rfl ?_
    refine g_aload_n (pc9 := 15) C rfl 0 dX6_addByte_14 rfl rfl ?_
    refine g_get (v := .int (nI (L))) (pc9 := 18) C rfl (32) 1 dX6_addByte_15 (by decide) (ce_32 w (σ)) hin_6 hl_15 rfl (by decide) rfl (congrArg (fun z => some (Value.int z)) hL) ?_
    refine g_iload_n (pc9 := 19) C rfl 1 dX6_addByte_18 rfl rfl ?_
    refine g_sipush (pc9 := 22) C rfl (nI (255)) dX6_addByte_19 rfl ?_
    refine g_iand (pc9 := 23) C rfl dX6_addByte_22 ?_
    refine g_iast (pc9 := 24) C rfl (33) (L) (iA σ (33)) dX6_addByte_23 (by decide) (fun _ => rfl) (ce_33 w (σ)) rfl (by omega) (by decide) rfl ?_
    refine g_aload_n (pc9 := 25) C rfl 0 dX6_addByte_24 rfl rfl ?_
    refine g_dup (pc9 := 26) C rfl dX6_addByte_25 rfl ?_
    refine g_get (v := .int (nI (L))) (pc9 := 29) C rfl (32) 1 dX6_addByte_26 (by decide) (ce_32 w (sI σ (33) (upd (iA σ (33)) (L) ((x) &&& (nI (255)))))) hin_6 hl_15 rfl (by decide) rfl (congrArg (fun z => some (Value.int z)) ((nF_I).trans hL)) ?_
    refine g_iconst (pc9 := 30) C rfl (nI (1)) dX6_addByte_29 rfl ?_
    refine g_iaddN (pc9 := 31) C rfl dX6_addByte_30 ?_
    refine g_put (pc9 := 34) C rfl (32) 1 dX6_addByte_31 (by decide) (ce_32 w (sI σ (33) (upd (iA σ (33)) (L) ((x) &&& (nI (255)))))) (rfl) hin_6 hl_15 tyX6 tyX6_ok nmX6 rfl (by decide) rfl rfl rfl (Nat.le_of_ble_eq_true rfl) ?_
    exact g_return C hr hlk dX6_addByte_34 rfl
/-- a number more -/
def tW (σ : St) (L : Nat) (x : Int32) : St := tB (tB (tB (tB σ L (((x).toUInt32 >>> ((nI (24)).toUInt32 &&& Int32.toUInt32 31)).toInt32)) (L + 1) (((x).toUInt32 >>> ((nI (16)).toUInt32 &&& Int32.toUInt32 31)).toInt32)) (L + 2) (((x).toUInt32 >>> ((nI (8)).toUInt32 &&& Int32.toUInt32 31)).toInt32)) (L + 3) x
theorem tB_L {σ : St} {L : Nat} {x : Int32} : nF (tB σ L x) 32 1 = nI (L + 1) := nF_s
theorem tW_L {σ : St} {L : Nat} {x : Int32} : nF (tW σ L x) 32 1 = nI (L + 4) := nF_s
set_option maxRecDepth 100000 in
set_option maxHeartbeats 4000000 in
theorem m_X6_addNumber (l : Launch) (w : Wd) (σ : St) (L : Nat) (hL : nF σ 32 1 = nI L) (h4 : L + 4 ≤ 400) (x : Int32) : MV l yX6_addNumber wsX6_addNumber (rmL 2) w [.ref (w.1 (32)), .int (x)] (σ) (fun σ9 => σ9 = tW σ L x) := by
  refine MV_of (cc := cX6_addNumber) (maxL := 2) (by decide) rfl (Nat.le_of_ble_eq_true rfl) ?_
  intro p e s m args below meth c A C hr hlk
  have C : Cx p s m args c w A cX6_addNumber RX6 2 wsX6_addNumber := C
  refine g_aload_n (pc9 := 1) C rfl 0 dX6_addNumber_0 rfl rfl ?_
  refine g_iload_n (pc9 := 2) C rfl 1 dX6_addNumber_1 rfl rfl ?_
  refine g_bipush (pc9 := 4) C rfl (nI (24)) dX6_addNumber_2 rfl ?_
  refine g_iushr (pc9 := 5) C rfl (((x).toUInt32 >>> ((nI (24)).toUInt32 &&& Int32.toUInt32 31)).toInt32) dX6_addNumber_4 rfl ?_
  refine g_callVv (nn := 1) (rest := []) (pc9 := 8) C rfl (32) [.int (((x).toUInt32 >>> ((nI (24)).toUInt32 &&& Int32.toUInt32 31)).toInt32)] rfl dX6_addNumber_5 (m_X6_addByte l w σ L hL (by omega) (((x).toUInt32 >>> ((nI (24)).toUInt32 &&& Int32.toUInt32 31)).toInt32)) gX6_addNumber_X6_addByte (by decide) (ce_32 w (σ)) rfl rfl rfl rfl rfl (by decide +kernel) ⟨by decide, by decide⟩ rfl (Nat.le_of_ble_eq_true rfl) ⟨by decide, by decide⟩ (fun σ_1 q_1 => ?_)
  replace q_1 : σ_1 = (tB σ L (((x).toUInt32 >>> ((nI (24)).toUInt32 &&& Int32.toUInt32 31)).toInt32)) := q_1
  rw [q_1]
  clear q_1
  refine g_aload_n (pc9 := 9) C rfl 0 dX6_addNumber_8 rfl rfl ?_
  refine g_iload_n (pc9 := 10) C rfl 1 dX6_addNumber_9 rfl rfl ?_
  refine g_bipush (pc9 := 12) C rfl (nI (16)) dX6_addNumber_10 rfl ?_
  refine g_iushr (pc9 := 13) C rfl (((x).toUInt32 >>> ((nI (16)).toUInt32 &&& Int32.toUInt32 31)).toInt32) dX6_addNumber_12 rfl ?_
  refine g_callVv (nn := 1) (rest := []) (pc9 := 16) C rfl (32) [.int (((x).toUInt32 >>> ((nI (16)).toUInt32 &&& Int32.toUInt32 31)).toInt32)] rfl dX6_addNumber_13 (m_X6_addByte l w (tB σ L (((x).toUInt32 >>> ((nI (24)).toUInt32 &&& Int32.toUInt32 31)).toInt32)) (L + 1) tB_L (by omega) (((x).toUInt32 >>> ((nI (16)).toUInt32 &&& Int32.toUInt32 31)).toInt32)) gX6_addNumber_X6_addByte (by decide) (ce_32 w ((tB σ L (((x).toUInt32 >>> ((nI (24)).toUInt32 &&& Int32.toUInt32 31)).toInt32)))) rfl rfl rfl rfl rfl (by decide +kernel) ⟨by decide, by decide⟩ rfl (Nat.le_of_ble_eq_true rfl) ⟨by decide, by decide⟩ (fun σ_2 q_2 => ?_)
  replace q_2 : σ_2 = (tB (tB σ L (((x).toUInt32 >>> ((nI (24)).toUInt32 &&& Int32.toUInt32 31)).toInt32)) (L + 1) (((x).toUInt32 >>> ((nI (16)).toUInt32 &&& Int32.toUInt32 31)).toInt32)) := q_2
  rw [q_2]
  clear q_2
  refine g_aload_n (pc9 := 17) C rfl 0 dX6_addNumber_16 rfl rfl ?_
  refine g_iload_n (pc9 := 18) C rfl 1 dX6_addNumber_17 rfl rfl ?_
  refine g_bipush (pc9 := 20) C rfl (nI (8)) dX6_addNumber_18 rfl ?_
  refine g_iushr (pc9 := 21) C rfl (((x).toUInt32 >>> ((nI (8)).toUInt32 &&& Int32.toUInt32 31)).toInt32) dX6_addNumber_20 rfl ?_
  refine g_callVv (nn := 1) (rest := []) (pc9 := 24) C rfl (32) [.int (((x).toUInt32 >>> ((nI (8)).toUInt32 &&& Int32.toUInt32 31)).toInt32)] rfl dX6_addNumber_21 (m_X6_addByte l w (tB (tB σ L (((x).toUInt32 >>> ((nI (24)).toUInt32 &&& Int32.toUInt32 31)).toInt32)) (L + 1) (((x).toUInt32 >>> ((nI (16)).toUInt32 &&& Int32.toUInt32 31)).toInt32)) (L + 2) tB_L (by omega) (((x).toUInt32 >>> ((nI (8)).toUInt32 &&& Int32.toUInt32 31)).toInt32)) gX6_addNumber_X6_addByte (by decide) (ce_32 w ((tB (tB σ L (((x).toUInt32 >>> ((nI (24)).toUInt32 &&& Int32.toUInt32 31)).toInt32)) (L + 1) (((x).toUInt32 >>> ((nI (16)).toUInt32 &&& Int32.toUInt32 31)).toInt32)))) rfl rfl rfl rfl rfl (by decide +kernel) ⟨by decide, by decide⟩ rfl (Nat.le_of_ble_eq_true rfl) ⟨by decide, by decide⟩ (fun σ_3 q_3 => ?_)
  replace q_3 : σ_3 = (tB (tB (tB σ L (((x).toUInt32 >>> ((nI (24)).toUInt32 &&& Int32.toUInt32 31)).toInt32)) (L + 1) (((x).toUInt32 >>> ((nI (16)).toUInt32 &&& Int32.toUInt32 31)).toInt32)) (L + 2) (((x).toUInt32 >>> ((nI (8)).toUInt32 &&& Int32.toUInt32 31)).toInt32)) := q_3
  rw [q_3]
  clear q_3
  refine g_aload_n (pc9 := 25) C rfl 0 dX6_addNumber_24 rfl rfl ?_
  refine g_iload_n (pc9 := 26) C rfl 1 dX6_addNumber_25 rfl rfl ?_
  refine g_callVv (nn := 1) (rest := []) (pc9 := 29) C rfl (32) [.int (x)] rfl dX6_addNumber_26 (m_X6_addByte l w (tB (tB (tB σ L (((x).toUInt32 >>> ((nI (24)).toUInt32 &&& Int32.toUInt32 31)).toInt32)) (L + 1) (((x).toUInt32 >>> ((nI (16)).toUInt32 &&& Int32.toUInt32 31)).toInt32)) (L + 2) (((x).toUInt32 >>> ((nI (8)).toUInt32 &&& Int32.toUInt32 31)).toInt32)) (L + 3) tB_L (by omega) (x)) gX6_addNumber_X6_addByte (by decide) (ce_32 w ((tB (tB (tB σ L (((x).toUInt32 >>> ((nI (24)).toUInt32 &&& Int32.toUInt32 31)).toInt32)) (L + 1) (((x).toUInt32 >>> ((nI (16)).toUInt32 &&& Int32.toUInt32 31)).toInt32)) (L + 2) (((x).toUInt32 >>> ((nI (8)).toUInt32 &&& Int32.toUInt32 31)).toInt32)))) rfl rfl rfl rfl rfl (by decide +kernel) ⟨by decide, by decide⟩ rfl (Nat.le_of_ble_eq_true rfl) ⟨by decide, by decide⟩ (fun σ_4 q_4 => ?_)
  replace q_4 : σ_4 = (tB (tB (tB (tB σ L (((x).toUInt32 >>> ((nI (24)).toUInt32 &&& Int32.toUInt32 31)).toInt32)) (L + 1) (((x).toUInt32 >>> ((nI (16)).toUInt32 &&& Int32.toUInt32 31)).toInt32)) (L + 2) (((x).toUInt32 >>> ((nI (8)).toUInt32 &&& Int32.toUInt32 31)).toInt32)) (L + 3) (x)) := q_4
  rw [q_4]
  clear q_4
  exact g_return C hr hlk dX6_addNumber_29 rfl

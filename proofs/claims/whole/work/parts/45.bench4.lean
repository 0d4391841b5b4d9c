/-! LineageBench: triple, sign, state, kinds, distance; laying -/
abbrev kOk (x : Int32) : Prop := okI 12 x
def trX (σ : St) (x y u : Int32) (z : Nat) (E : String) : Prop := (E = xIOB ∧ ¬ (kOk x ∧ kOk y ∧ kOk u)) ∨ (E = xIAE ∧ kOk x ∧ kOk y ∧ kOk u ∧ (x = y ∨ x = u ∨ y = u)) ∨ (E = xUOE ∧ kOk x ∧ kOk y ∧ kOk u ∧ ¬ (x = y ∨ x = u ∨ y = u) ∧ 80 ≤ z)
def trS9 (σ : St) (a b d z : Nat) : St := sN (sI (sI σ 44 (upd (iA σ 44) z (bitI a ||| bitI b))) 45 (upd (iA σ 45) z (bitI d))) 43 2 (nI (z + 1))
set_option maxRecDepth 100000 in
set_option maxHeartbeats 4000000 in
theorem m_X10_triple (l : Launch) (hst : l.stackTraces = false) (w : Wd) (sA : Nat → Nat) (σ : St) (z : Nat) (hz : nF σ 43 2 = nI z) (h80 : z ≤ 80) (x y u : Int32) : MXI l yX10_triple wsX10_triple 7 5 w sA [.ref (w.1 (31)), .int (x), .int (y), .int (u)] (σ) (fun r σ9 => ∃ a b d, a < 12 ∧ b < 12 ∧ d < 12 ∧ x = nI a ∧ y = nI b ∧ u = nI d ∧ ¬ (x = y ∨ x = u ∨ y = u) ∧ z < 80 ∧ σ9 = trS9 σ a b d z ∧ r = nI (z + 1)) (fun E σ9 => σ9 = σ ∧ trX σ x y u z E) := by
  refine MXI_of hst (cc := cX10_triple) (maxL := 4) (ret := .int) (by decide) rfl (Nat.le_of_ble_eq_true rfl) ?_
  intro p e s m args below meth c A X hr hlk
  have X : CX p l s m args c w sA A cX10_triple RX10 4 wsX10_triple := X
  have C := X.1
  have hin_8 : ∀ u ∈ wsX80, u ∈ wsX10_triple := by decide +kernel
  have hin_10 : ∀ u ∈ wsX100, u ∈ wsX10_triple := by decide +kernel
  have hl_46 : Cond.fieldLink RX10 46 "LineageBench" "triples" "LLineageBench$Triples;" ∈ wsX10_triple := by decide +kernel
  have hl_226 : Cond.fieldLink RX10 226 "LineageBench$Triples" "size" "I" ∈ wsX10_triple := by decide +kernel
  refine g_iload_n (pc9 := 1) C rfl 1 dX10_triple_0 rfl rfl ?_
  refine x_callSv (rest := []) X hlk (pc9 := 4) rfl [.int (x)] (nn := 1) rfl dX10_triple_1 (m_X10_needKind l hst w sA σ x) gX10_triple_X10_needKind rfl (by decide +kernel) ⟨by decide, by decide⟩ rfl (Nat.le_of_ble_eq_true rfl) ⟨by decide, by decide⟩ ⟨by decide, by decide⟩ (fun E σ9 h => ⟨h.1, Or.inl ⟨h.2.1, fun q => h.2.2 q.1⟩⟩) (fun σ_1 q_1 => ?_)
  obtain ⟨qs_1, a, hb_a, hx_1⟩ := q_1
  rw [qs_1]
  clear qs_1
  subst hx_1
  refine g_iload_n (pc9 := 5) C rfl 2 dX10_triple_4 rfl rfl ?_
  refine x_callSv (rest := []) X hlk (pc9 := 8) rfl [.int (y)] (nn := 1) rfl dX10_triple_5 (m_X10_needKind l hst w sA σ y) gX10_triple_X10_needKind rfl (by decide +kernel) ⟨by decide, by decide⟩ rfl (Nat.le_of_ble_eq_true rfl) ⟨by decide, by decide⟩ ⟨by decide, by decide⟩ (fun E σ9 h => ⟨h.1, Or.inl ⟨h.2.1, fun q => h.2.2 q.2.1⟩⟩) (fun σ_2 q_2 => ?_)
  obtain ⟨qs_2, b, hb_b, hx_2⟩ := q_2
  rw [qs_2]
  clear qs_2
  subst hx_2
  refine g_iload_n (pc9 := 9) C rfl 3 dX10_triple_8 rfl rfl ?_
  refine x_callSv (rest := []) X hlk (pc9 := 12) rfl [.int (u)] (nn := 1) rfl dX10_triple_9 (m_X10_needKind l hst w sA σ u) gX10_triple_X10_needKind rfl (by decide +kernel) ⟨by decide, by decide⟩ rfl (Nat.le_of_ble_eq_true rfl) ⟨by decide, by decide⟩ ⟨by decide, by decide⟩ (fun E σ9 h => ⟨h.1, Or.inl ⟨h.2.1, fun q => h.2.2 q.2.2⟩⟩) (fun σ_3 q_3 => ?_)
  obtain ⟨qs_3, d, hb_d, hx_3⟩ := q_3
  rw [qs_3]
  clear qs_3
  subst hx_3
  refine g_iload_n (pc9 := 13) C rfl 1 dX10_triple_12 rfl rfl ?_
  refine g_iload_n (pc9 := 14) C rfl 2 dX10_triple_13 rfl rfl ?_
  refine g_icmp_eq (pc9 := 17) C rfl 27 dX10_triple_14 rfl (fun c_4 => ?_) (fun c_4 => ?_)
  · have hq : nI a = nI b ∨ nI a = nI d ∨ nI b = nI d := Or.inl c_4
    exact g_throw X hlk (cls := "java/lang/IllegalArgumentException") (text := "two kinds are one") dX10_triple_27 dX10_triple_30 dX10_triple_31 dX10_triple_33 dX10_triple_36 (by decide) (by decide +kernel) (by decide +kernel) (by decide +kernel) (by decide +kernel) (by decide +kernel) (by decide +kernel) (by decide) (Nat.le_of_ble_eq_true rfl) (by decide) (by decide) (by decide) (by decide) ⟨rfl, Or.inr (Or.inl ⟨rfl, ⟨a, hb_a, rfl⟩, ⟨b, hb_b, rfl⟩, ⟨d, hb_d, rfl⟩, hq⟩)⟩
  · refine g_iload_n (pc9 := 18) C rfl 1 dX10_triple_17 rfl rfl ?_
    refine g_iload_n (pc9 := 19) C rfl 3 dX10_triple_18 rfl rfl ?_
    refine g_icmp_eq (pc9 := 22) C rfl 27 dX10_triple_19 rfl (fun c_5 => ?_) (fun c_5 => ?_)
    · have hq : nI a = nI b ∨ nI a = nI d ∨ nI b = nI d := Or.inr (Or.inl c_5)
      exact g_throw X hlk (cls := "java/lang/IllegalArgumentException") (text := "two kinds are one") dX10_triple_27 dX10_triple_30 dX10_triple_31 dX10_triple_33 dX10_triple_36 (by decide) (by decide +kernel) (by decide +kernel) (by decide +kernel) (by decide +kernel) (by decide +kernel) (by decide +kernel) (by decide) (Nat.le_of_ble_eq_true rfl) (by decide) (by decide) (by decide) (by decide) ⟨rfl, Or.inr (Or.inl ⟨rfl, ⟨a, hb_a, rfl⟩, ⟨b, hb_b, rfl⟩, ⟨d, hb_d, rfl⟩, hq⟩)⟩
    · refine g_iload_n (pc9 := 23) C rfl 2 dX10_triple_22 rfl rfl ?_
      refine g_iload_n (pc9 := 24) C rfl 3 dX10_triple_23 rfl rfl ?_
      refine g_icmp_ne (pc9 := 27) C rfl 37 dX10_triple_24 rfl (fun c_6 => ?_) (fun c_6 => ?_)
      · have hq : ¬ (nI a = nI b ∨ nI a = nI d ∨ nI b = nI d) := fun h => by rcases h with h | h | h <;> contradiction
        refine g_aload_n (pc9 := 38) C rfl 0 dX10_triple_37 rfl rfl ?_
        refine g_get (v := .ref (w.1 (43))) (pc9 := 41) C rfl (31) 5 dX10_triple_38 (by decide) (ce_31 w (σ)) hin_10 hl_46 rfl (by decide) rfl rfl ?_
        refine g_get (v := .int (nI (z))) (pc9 := 44) C rfl (43) 2 dX10_triple_41 (by decide) (ce_43 w (σ)) hin_8 hl_226 rfl (by decide) rfl (congrArg (fun z => some (Value.int z)) hz) ?_
        refine g_bipush (pc9 := 46) C rfl (nI (80)) dX10_triple_44 rfl ?_
        refine g_icmp_lt (pc9 := 49) C rfl 59 dX10_triple_46 rfl (fun c_7 => ?_) (fun c_7 => ?_)
        · replace c_7 := (nI_ltI (by omega) (by omega)).mp c_7
          refine g_aload_n (pc9 := 60) C rfl 0 dX10_triple_59 rfl rfl ?_
          refine g_get (v := .ref (w.1 (43))) (pc9 := 63) C rfl (31) 5 dX10_triple_60 (by decide) (ce_31 w (σ)) hin_10 hl_46 rfl (by decide) rfl rfl ?_
          refine g_iconst (pc9 := 64) C rfl (nI (1)) dX10_triple_63 rfl ?_
          refine g_iload_n (pc9 := 65) C rfl 1 dX10_triple_64 rfl rfl ?_
          refine g_ishl (pc9 := 66) C rfl dX10_triple_65 ?_
          refine g_iconst (pc9 := 67) C rfl (nI (1)) dX10_triple_66 rfl ?_
          refine g_iload_n (pc9 := 68) C rfl 2 dX10_triple_67 rfl rfl ?_
          refine g_ishl (pc9 := 69) C rfl dX10_triple_68 ?_
          refine g_ior (pc9 := 70) C rfl dX10_triple_69 ?_
          refine g_iconst (pc9 := 71) C rfl (nI (1)) dX10_triple_70 rfl ?_
          refine g_iload_n (pc9 := 72) C rfl 3 dX10_triple_71 rfl rfl ?_
          refine g_ishl (pc9 := 73) C rfl dX10_triple_72 ?_
          refine g_callVv (nn := 2) (rest := []) (pc9 := 76) C rfl (43) [.int (((nI (1)) <<< ((nI (a)) &&& 31)) ||| ((nI (1)) <<< ((nI (b)) &&& 31))), .int ((nI (1)) <<< ((nI (d)) &&& 31))] rfl dX10_triple_73 (m_X8_addTriple l w σ z hz (by omega) (((nI (1)) <<< ((nI (a)) &&& 31)) ||| ((nI (1)) <<< ((nI (b)) &&& 31))) ((nI (1)) <<< ((nI (d)) &&& 31))) gX10_triple_X8_addTriple (by decide) (ce_43 w (σ)) rfl rfl rfl rfl rfl (by decide +kernel) ⟨by decide, by decide⟩ rfl (Nat.le_of_ble_eq_true rfl) ⟨by decide, by decide⟩ (fun σ_8 q_8 => ?_)
          replace q_8 : σ_8 = (trS9 σ a b d z) := q_8
          rw [q_8]
          clear q_8
          refine g_aload_n (pc9 := 77) C rfl 0 dX10_triple_76 rfl rfl ?_
          refine g_get (v := .ref (w.1 (43))) (pc9 := 80) C rfl (31) 5 dX10_triple_77 (by decide) (ce_31 w ((trS9 σ a b d z))) hin_10 hl_46 rfl (by decide) rfl rfl ?_
          refine g_get (v := .int (nI (z + 1))) (pc9 := 83) C rfl (43) 2 dX10_triple_80 (by decide) (ce_43 w ((trS9 σ a b d z))) hin_8 hl_226 rfl (by decide) rfl (congrArg (fun z => some (Value.int z)) nF_s) ?_
          exact g_xi (by decide) (by decide) (g_ireturn C hr hlk dX10_triple_83 ⟨a, b, d, hb_a, hb_b, hb_d, rfl, rfl, rfl, hq, by omega, rfl, rfl⟩)
        · replace c_7 := (not_congr (nI_ltI (by omega) (by omega))).mp c_7
          exact g_throw X hlk (cls := "java/lang/UnsupportedOperationException") (text := "no more triples") dX10_triple_49 dX10_triple_52 dX10_triple_53 dX10_triple_55 dX10_triple_58 (by decide) (by decide +kernel) (by decide +kernel) (by decide +kernel) (by decide +kernel) (by decide +kernel) (by decide +kernel) (by decide) (Nat.le_of_ble_eq_true rfl) (by decide) (by decide) (by decide) (by decide) ⟨rfl, Or.inr (Or.inr ⟨rfl, ⟨a, hb_a, rfl⟩, ⟨b, hb_b, rfl⟩, ⟨d, hb_d, rfl⟩, hq, by omega⟩)⟩
      · have hq : nI a = nI b ∨ nI a = nI d ∨ nI b = nI d := Or.inr (Or.inr c_6)
        exact g_throw X hlk (cls := "java/lang/IllegalArgumentException") (text := "two kinds are one") dX10_triple_27 dX10_triple_30 dX10_triple_31 dX10_triple_33 dX10_triple_36 (by decide) (by decide +kernel) (by decide +kernel) (by decide +kernel) (by decide +kernel) (by decide +kernel) (by decide +kernel) (by decide) (Nat.le_of_ble_eq_true rfl) (by decide) (by decide) (by decide) (by decide) ⟨rfl, Or.inr (Or.inl ⟨rfl, ⟨a, hb_a, rfl⟩, ⟨b, hb_b, rfl⟩, ⟨d, hb_d, rfl⟩, hq⟩)⟩
def siX (x : Int32) (z : Nat) (E : String) : Prop := (E = xIAE ∧ ¬ okR 0 4095 x) ∨ (E = xUOE ∧ okR 0 4095 x ∧ 16 ≤ z)
set_option maxRecDepth 100000 in
set_option maxHeartbeats 4000000 in
theorem m_X10_sign (l : Launch) (hst : l.stackTraces = false) (w : Wd) (sA : Nat → Nat) (σ : St) (z : Nat) (hz : nF σ 46 1 = nI z) (h16 : z ≤ 16) (x : Int32) : MXI l yX10_sign wsX10_sign 6 2 w sA [.ref (w.1 (31)), .int (x)] (σ) (fun r σ9 => okR 0 4095 x ∧ z < 16 ∧ σ9 = sN (sI σ 47 (upd (iA σ 47) z x)) 46 1 (nI (z + 1)) ∧ r = nI (z + 1)) (fun E σ9 => σ9 = σ ∧ siX x z E) := by
  refine MXI_of hst (cc := cX10_sign) (maxL := 2) (ret := .int) (by decide) rfl (Nat.le_of_ble_eq_true rfl) ?_
  intro p e s m args below meth c A X hr hlk
  have X : CX p l s m args c w sA A cX10_sign RX10 2 wsX10_sign := X
  have C := X.1
  have hin_4 : ∀ u ∈ wsX40, u ∈ wsX10_sign := by decide +kernel
  have hin_10 : ∀ u ∈ wsX100, u ∈ wsX10_sign := by decide +kernel
  have hl_53 : Cond.fieldLink RX10 53 "LineageBench" "signs" "LLineageBench$Signs;" ∈ wsX10_sign := by decide +kernel
  have hl_250 : Cond.fieldLink RX10 250 "LineageBench$Signs" "size" "I" ∈ wsX10_sign := by decide +kernel
  refine g_iload_n (pc9 := 1) C rfl 1 dX10_sign_0 rfl rfl ?_
  refine g_if_lt (pc9 := 4) C rfl 11 dX10_sign_1 rfl (fun c_1 => ?_) (fun c_1 => ?_)
  · have hq : ¬ okR 0 4095 x := fun h => h.1 c_1
    exact g_throw X hlk (cls := "java/lang/IllegalArgumentException") (text := "no set of kinds") dX10_sign_11 dX10_sign_14 dX10_sign_15 dX10_sign_17 dX10_sign_20 (by decide) (by decide +kernel) (by decide +kernel) (by decide +kernel) (by decide +kernel) (by decide +kernel) (by decide +kernel) (by decide) (Nat.le_of_ble_eq_true rfl) (by decide) (by decide) (by decide) (by decide) ⟨rfl, Or.inl ⟨rfl, hq⟩⟩
  · have h0 : ¬ x < nI 0 := c_1
    refine g_iload_n (pc9 := 5) C rfl 1 dX10_sign_4 rfl rfl ?_
    refine g_sipush (pc9 := 8) C rfl (nI (4095)) dX10_sign_5 rfl ?_
    refine g_icmp_le (pc9 := 11) C rfl 21 dX10_sign_8 rfl (fun c_2 => ?_) (fun c_2 => ?_)
    · have hq : okR 0 4095 x := ⟨h0, Int32.not_lt.mpr c_2⟩
      refine g_aload_n (pc9 := 22) C rfl 0 dX10_sign_21 rfl rfl ?_
      refine g_get (v := .ref (w.1 (46))) (pc9 := 25) C rfl (31) 6 dX10_sign_22 (by decide) (ce_31 w (σ)) hin_10 hl_53 rfl (by decide) rfl rfl ?_
      refine g_get (v := .int (nI (z))) (pc9 := 28) C rfl (46) 1 dX10_sign_25 (by decide) (ce_46 w (σ)) hin_4 hl_250 rfl (by decide) rfl (congrArg (fun z => some (Value.int z)) hz) ?_
      refine g_bipush (pc9 := 30) C rfl (nI (16)) dX10_sign_28 rfl ?_
      refine g_icmp_lt (pc9 := 33) C rfl 43 dX10_sign_30 rfl (fun c_3 => ?_) (fun c_3 => ?_)
      · replace c_3 := (nI_ltI (by omega) (by omega)).mp c_3
        refine g_aload_n (pc9 := 44) C rfl 0 dX10_sign_43 rfl rfl ?_
        refine g_get (v := .ref (w.1 (46))) (pc9 := 47) C rfl (31) 6 dX10_sign_44 (by decide) (ce_31 w (σ)) hin_10 hl_53 rfl (by decide) rfl rfl ?_
        refine g_iload_n (pc9 := 48) C rfl 1 dX10_sign_47 rfl rfl ?_
        refine g_callVv (nn := 1) (rest := []) (pc9 := 51) C rfl (46) [.int (x)] rfl dX10_sign_48 (m_X4_addSign l w σ z hz (by omega) x) gX10_sign_X4_addSign (by decide) (ce_46 w (σ)) rfl rfl rfl rfl rfl (by decide +kernel) ⟨by decide, by decide⟩ rfl (Nat.le_of_ble_eq_true rfl) ⟨by decide, by decide⟩ (fun σ_4 q_4 => ?_)
        replace q_4 : σ_4 = sN (sI σ (47) (upd (iA σ 47) z x)) (46) 1 (nI (z + 1)) := q_4
        rw [q_4]
        clear q_4
        refine g_aload_n (pc9 := 52) C rfl 0 dX10_sign_51 rfl rfl ?_
        refine g_get (v := .ref (w.1 (46))) (pc9 := 55) C rfl (31) 6 dX10_sign_52 (by decide) (ce_31 w (sN (sI σ (47) (upd (iA σ 47) z x)) (46) 1 (nI (z + 1)))) hin_10 hl_53 rfl (by decide) rfl rfl ?_
        refine g_get (v := .int (nI (z + 1))) (pc9 := 58) C rfl (46) 1 dX10_sign_55 (by decide) (ce_46 w (sN (sI σ (47) (upd (iA σ 47) z x)) (46) 1 (nI (z + 1)))) hin_4 hl_250 rfl (by decide) rfl (congrArg (fun z => some (Value.int z)) (nF_s)) ?_
        exact g_xi (by decide) (by decide) (g_ireturn C hr hlk dX10_sign_58 ⟨hq, by omega, rfl, rfl⟩)
      · replace c_3 := (not_congr (nI_ltI (by omega) (by omega))).mp c_3
        exact g_throw X hlk (cls := "java/lang/UnsupportedOperationException") (text := "no more signs") dX10_sign_33 dX10_sign_36 dX10_sign_37 dX10_sign_39 dX10_sign_42 (by decide) (by decide +kernel) (by decide +kernel) (by decide +kernel) (by decide +kernel) (by decide +kernel) (by decide +kernel) (by decide) (Nat.le_of_ble_eq_true rfl) (by decide) (by decide) (by decide) (by decide) ⟨rfl, Or.inr ⟨rfl, hq, by omega⟩⟩
    · have hq : ¬ okR 0 4095 x := fun h => h.2 (Int32.not_le.mp c_2)
      exact g_throw X hlk (cls := "java/lang/IllegalArgumentException") (text := "no set of kinds") dX10_sign_11 dX10_sign_14 dX10_sign_15 dX10_sign_17 dX10_sign_20 (by decide) (by decide +kernel) (by decide +kernel) (by decide +kernel) (by decide +kernel) (by decide +kernel) (by decide +kernel) (by decide) (Nat.le_of_ble_eq_true rfl) (by decide) (by decide) (by decide) (by decide) ⟨rfl, Or.inl ⟨rfl, hq⟩⟩
def stX (x y u : Int32) (E : String) : Prop := (E = xIOB ∧ ¬ okI 12 y) ∨ (E = xIAE ∧ okI 12 y ∧ ¬ (okI 8 x ∧ okI 4 u))
set_option maxRecDepth 100000 in
set_option maxHeartbeats 4000000 in
theorem m_X10_state (l : Launch) (hst : l.stackTraces = false) (w : Wd) (sA : Nat → Nat) (σ : St) (x y u : Int32) : MXV l yX10_state wsX10_state 7 3 w sA [.ref (w.1 (31)), .int (x), .int (y), .int (u)] (σ) (fun σ9 => ∃ a b, a < 8 ∧ b < 12 ∧ x = nI a ∧ y = nI b ∧ okI 4 u ∧ σ9 = sI σ 48 (upd (iA σ 48) (a * 12 + b) u)) (fun E σ9 => σ9 = σ ∧ stX x y u E) := by
  refine MXV_of hst (cc := cX10_state) (maxL := 4) (by decide) rfl (Nat.le_of_ble_eq_true rfl) ?_
  intro p e s m args below meth c A X hr hlk
  have X : CX p l s m args c w sA A cX10_state RX10 4 wsX10_state := X
  have C := X.1
  have hin_10 : ∀ u ∈ wsX100, u ∈ wsX10_state := by decide +kernel
  have hl_57 : Cond.fieldLink RX10 57 "LineageBench" "states" "[I" ∈ wsX10_state := by decide +kernel
  refine g_iload_n (pc9 := 1) C rfl 2 dX10_state_0 rfl rfl ?_
  refine x_callSv (rest := []) X hlk (pc9 := 4) rfl [.int (y)] (nn := 1) rfl dX10_state_1 (m_X10_needKind l hst w sA σ y) gX10_state_X10_needKind rfl (by decide +kernel) ⟨by decide, by decide⟩ rfl (Nat.le_of_ble_eq_true rfl) ⟨by decide, by decide⟩ ⟨by decide, by decide⟩ (fun E σ9 h => ⟨h.1, Or.inl ⟨h.2.1, h.2.2⟩⟩) (fun σ_1 q_1 => ?_)
  obtain ⟨qs_1, b, hb_b, hx_1⟩ := q_1
  rw [qs_1]
  clear qs_1
  subst hx_1
  refine g_iload_n (pc9 := 5) C rfl 1 dX10_state_4 rfl rfl ?_
  refine x_callSv (rest := []) X hlk (pc9 := 8) rfl [.int (x)] (nn := 1) rfl dX10_state_5 (m_X10_needRow l hst w sA σ x) gX10_state_X10_needRow rfl (by decide +kernel) ⟨by decide, by decide⟩ rfl (Nat.le_of_ble_eq_true rfl) ⟨by decide, by decide⟩ ⟨by decide, by decide⟩ (fun E σ9 h => ⟨h.1, Or.inr ⟨h.2.1, ⟨b, hb_b, rfl⟩, fun q => h.2.2 q.1⟩⟩) (fun σ_2 q_2 => ?_)
  obtain ⟨qs_2, a, hb_a, hx_2⟩ := q_2
  rw [qs_2]
  clear qs_2
  subst hx_2
  refine g_iload_n (pc9 := 9) C rfl 3 dX10_state_8 rfl rfl ?_
  refine g_if_lt (pc9 := 12) C rfl 17 dX10_state_9 rfl (fun c_3 => ?_) (fun c_3 => ?_)
  · have hq : ¬ okI 4 u := okI_neg (by decide) c_3
    exact g_throwW X hlk (cls := "java/lang/IllegalArgumentException") (text := "no such state") dX10_state_17 dX10_state_20 dX10_state_21 dX10_state_24 dX10_state_27 (by decide) (by decide +kernel) (by decide +kernel) (by decide +kernel) (by decide +kernel) (by decide +kernel) (by decide +kernel) (by decide) (Nat.le_of_ble_eq_true rfl) (by decide) (by decide) (by decide) (by decide) ⟨rfl, Or.inr ⟨rfl, ⟨b, hb_b, rfl⟩, fun q => hq q.2⟩⟩
  · have h0 : ¬ u < 0 := c_3
    refine g_iload_n (pc9 := 13) C rfl 3 dX10_state_12 rfl rfl ?_
    refine g_iconst (pc9 := 14) C rfl (nI (4)) dX10_state_13 rfl ?_
    refine g_icmp_lt (pc9 := 17) C rfl 28 dX10_state_14 rfl (fun c_4 => ?_) (fun c_4 => ?_)
    · have hq : okI 4 u := okI_of (by decide) h0 c_4
      refine g_aload_n (pc9 := 29) C rfl 0 dX10_state_28 rfl rfl ?_
      refine g_get (v := .ref (w.1 (48))) (pc9 := 32) C rfl (31) 7 dX10_state_29 (by decide) (ce_31 w (σ)) hin_10 hl_57 rfl (by decide) rfl rfl ?_
      refine g_iload_n (pc9 := 33) C rfl 1 dX10_state_32 rfl rfl ?_
      refine g_bipush (pc9 := 35) C rfl (nI (12)) dX10_state_33 rfl ?_
      refine g_imulN (pc9 := 36) C rfl dX10_state_35 ?_
      refine g_iload_n (pc9 := 37) C rfl 2 dX10_state_36 rfl rfl ?_
      refine g_iaddN (pc9 := 38) C rfl dX10_state_37 ?_
      refine g_iload_n (pc9 := 39) C rfl 3 dX10_state_38 rfl rfl ?_
      refine g_iast (pc9 := 40) C rfl (48) ((a * 12) + b) (iA σ (48)) dX10_state_39 (by decide) (fun _ => rfl) (ce_48 w (σ)) rfl (by omega) (by decide) rfl ?_
      exact g_xi (by decide) (by decide) (g_return C hr hlk dX10_state_40 ⟨a, b, hb_a, hb_b, rfl, rfl, hq, rfl⟩)
    · have hq : ¬ okI 4 u := okI_big (by decide) c_4
      exact g_throwW X hlk (cls := "java/lang/IllegalArgumentException") (text := "no such state") dX10_state_17 dX10_state_20 dX10_state_21 dX10_state_24 dX10_state_27 (by decide) (by decide +kernel) (by decide +kernel) (by decide +kernel) (by decide +kernel) (by decide +kernel) (by decide +kernel) (by decide) (Nat.le_of_ble_eq_true rfl) (by decide) (by decide) (by decide) (by decide) ⟨rfl, Or.inr ⟨rfl, ⟨b, hb_b, rfl⟩, fun q => hq q.2⟩⟩
set_option maxRecDepth 100000 in
set_option maxHeartbeats 4000000 in
theorem m_X10_kinds (l : Launch) (hst : l.stackTraces = false) (w : Wd) (sA : Nat → Nat) (σ : St) (x : Int32) : MXV l yX10_kinds wsX10_kinds 6 1 w sA [.ref (w.1 (31)), .int (x)] (σ) (fun σ9 => okR 2 12 x ∧ σ9 = sN σ 53 0 x) (fun E σ9 => σ9 = σ ∧ E = xIAE ∧ ¬ okR 2 12 x) := by
  refine MXV_of hst (cc := cX10_kinds) (maxL := 2) (by decide) rfl (Nat.le_of_ble_eq_true rfl) ?_
  intro p e s m args below meth c A X hr hlk
  have X : CX p l s m args c w sA A cX10_kinds RX10 2 wsX10_kinds := X
  have C := X.1
  have hin_0 : ∀ u ∈ wsX00, u ∈ wsX10_kinds := by decide +kernel
  have hin_10 : ∀ u ∈ wsX100, u ∈ wsX10_kinds := by decide +kernel
  have hl_71 : Cond.fieldLink RX10 71 "LineageBench" "distances" "LLineageBench$Distances;" ∈ wsX10_kinds := by decide +kernel
  have hl_277 : Cond.fieldLink RX10 277 "LineageBench$Distances" "counting" "I" ∈ wsX10_kinds := by decide +kernel
  refine g_iload_n (pc9 := 1) C rfl 1 dX10_kinds_0 rfl rfl ?_
  refine g_iconst (pc9 := 2) C rfl (nI (2)) dX10_kinds_1 rfl ?_
  refine g_icmp_lt (pc9 := 5) C rfl 11 dX10_kinds_2 rfl (fun c_1 => ?_) (fun c_1 => ?_)
  · have hq : ¬ okR 2 12 x := fun h => h.1 c_1
    exact g_throwW X hlk (cls := "java/lang/IllegalArgumentException") (text := "not so many kinds can count") dX10_kinds_11 dX10_kinds_14 dX10_kinds_15 dX10_kinds_18 dX10_kinds_21 (by decide) (by decide +kernel) (by decide +kernel) (by decide +kernel) (by decide +kernel) (by decide +kernel) (by decide +kernel) (by decide) (Nat.le_of_ble_eq_true rfl) (by decide) (by decide) (by decide) (by decide) ⟨rfl, rfl, hq⟩
  · have h0 : ¬ x < nI 2 := c_1
    refine g_iload_n (pc9 := 6) C rfl 1 dX10_kinds_5 rfl rfl ?_
    refine g_bipush (pc9 := 8) C rfl (nI (12)) dX10_kinds_6 rfl ?_
    refine g_icmp_le (pc9 := 11) C rfl 22 dX10_kinds_8 rfl (fun c_2 => ?_) (fun c_2 => ?_)
    · have hq : okR 2 12 x := ⟨h0, Int32.not_lt.mpr c_2⟩
      refine g_aload_n (pc9 := 23) C rfl 0 dX10_kinds_22 rfl rfl ?_
      refine g_get (v := .ref (w.1 (53))) (pc9 := 26) C rfl (31) 9 dX10_kinds_23 (by decide) (ce_31 w (σ)) hin_10 hl_71 rfl (by decide) rfl rfl ?_
      refine g_iload_n (pc9 := 27) C rfl 1 dX10_kinds_26 rfl rfl ?_
      refine g_put (pc9 := 30) C rfl (53) 0 dX10_kinds_27 (by decide) (ce_53 w (σ)) (rfl) hin_0 hl_277 tyX0 tyX0_ok nmX0 rfl (by decide) rfl rfl rfl (Nat.le_of_ble_eq_true rfl) ?_
      exact g_xi (by decide) (by decide) (g_return C hr hlk dX10_kinds_30 ⟨hq, rfl⟩)
    · have hq : ¬ okR 2 12 x := fun h => h.2 (Int32.not_le.mp c_2)
      exact g_throwW X hlk (cls := "java/lang/IllegalArgumentException") (text := "not so many kinds can count") dX10_kinds_11 dX10_kinds_14 dX10_kinds_15 dX10_kinds_18 dX10_kinds_21 (by decide) (by decide +kernel) (by decide +kernel) (by decide +kernel) (by decide +kernel) (by decide +kernel) (by decide +kernel) (by decide) (Nat.le_of_ble_eq_true rfl) (by decide) (by decide) (by decide) (by decide) ⟨rfl, rfl, hq⟩
def diX (x y u : Int32) (E : String) : Prop := (E = xIOB ∧ ¬ (okI 12 x ∧ okI 12 y)) ∨ (E = xIAE ∧ okI 12 x ∧ okI 12 y ∧ (x = y ∨ ¬ okR 0 100000 u))
set_option maxRecDepth 100000 in
set_option maxHeartbeats 4000000 in
theorem m_X10_distance (l : Launch) (hst : l.stackTraces = false) (w : Wd) (sA : Nat → Nat) (σ : St) (x y u : Int32) : MXV l yX10_distance wsX10_distance 7 4 w sA [.ref (w.1 (31)), .int (x), .int (y), .int (u)] (σ) (fun σ9 => ∃ a b, a < 12 ∧ b < 12 ∧ x = nI a ∧ y = nI b ∧ ¬ x = y ∧ okR 0 100000 u ∧ σ9 = sI σ 54 (upd (upd (iA σ 54) (a * 12 + b) u) (b * 12 + a) u)) (fun E σ9 => σ9 = σ ∧ diX x y u E) := by
  refine MXV_of hst (cc := cX10_distance) (maxL := 4) (by decide) rfl (Nat.le_of_ble_eq_true rfl) ?_
  intro p e s m args below meth c A X hr hlk
  have X : CX p l s m args c w sA A cX10_distance RX10 4 wsX10_distance := X
  have C := X.1
  have hin_10 : ∀ u ∈ wsX100, u ∈ wsX10_distance := by decide +kernel
  have hl_71 : Cond.fieldLink RX10 71 "LineageBench" "distances" "LLineageBench$Distances;" ∈ wsX10_distance := by decide +kernel
  refine g_iload_n (pc9 := 1) C rfl 1 dX10_distance_0 rfl rfl ?_
  refine x_callSv (rest := []) X hlk (pc9 := 4) rfl [.int (x)] (nn := 1) rfl dX10_distance_1 (m_X10_needKind l hst w sA σ x) gX10_distance_X10_needKind rfl (by decide +kernel) ⟨by decide, by decide⟩ rfl (Nat.le_of_ble_eq_true rfl) ⟨by decide, by decide⟩ ⟨by decide, by decide⟩ (fun E σ9 h => ⟨h.1, Or.inl ⟨h.2.1, fun q => h.2.2 q.1⟩⟩) (fun σ_1 q_1 => ?_)
  obtain ⟨qs_1, a, hb_a, hx_1⟩ := q_1
  rw [qs_1]
  clear qs_1
  subst hx_1
  refine g_iload_n (pc9 := 5) C rfl 2 dX10_distance_4 rfl rfl ?_
  refine x_callSv (rest := []) X hlk (pc9 := 8) rfl [.int (y)] (nn := 1) rfl dX10_distance_5 (m_X10_needKind l hst w sA σ y) gX10_distance_X10_needKind rfl (by decide +kernel) ⟨by decide, by decide⟩ rfl (Nat.le_of_ble_eq_true rfl) ⟨by decide, by decide⟩ ⟨by decide, by decide⟩ (fun E σ9 h => ⟨h.1, Or.inl ⟨h.2.1, fun q => h.2.2 q.2⟩⟩) (fun σ_2 q_2 => ?_)
  obtain ⟨qs_2, b, hb_b, hx_2⟩ := q_2
  rw [qs_2]
  clear qs_2
  subst hx_2
  refine g_iload_n (pc9 := 9) C rfl 1 dX10_distance_8 rfl rfl ?_
  refine g_iload_n (pc9 := 10) C rfl 2 dX10_distance_9 rfl rfl ?_
  refine g_icmp_ne (pc9 := 13) C rfl 24 dX10_distance_10 rfl (fun c_3 => ?_) (fun c_3 => ?_)
  · have hne : ¬ nI a = nI b := c_3
    refine g_iload_n (pc9 := 25) C rfl 3 dX10_distance_24 rfl rfl ?_
    refine g_if_lt (pc9 := 28) C rfl 35 dX10_distance_25 rfl (fun c_4 => ?_) (fun c_4 => ?_)
    · have hq : ¬ okR 0 100000 u := fun h => h.1 c_4
      exact g_throwW X hlk (cls := "java/lang/IllegalArgumentException") (text := "no such distance") dX10_distance_35 dX10_distance_38 dX10_distance_39 dX10_distance_42 dX10_distance_45 (by decide) (by decide +kernel) (by decide +kernel) (by decide +kernel) (by decide +kernel) (by decide +kernel) (by decide +kernel) (by decide) (Nat.le_of_ble_eq_true rfl) (by decide) (by decide) (by decide) (by decide) ⟨rfl, Or.inr ⟨rfl, ⟨a, hb_a, rfl⟩, ⟨b, hb_b, rfl⟩, Or.inr hq⟩⟩
    · have h0 : ¬ u < nI 0 := c_4
      refine g_iload_n (pc9 := 29) C rfl 3 dX10_distance_28 rfl rfl ?_
      refine g_ldc_w (pc9 := 32) C rfl (nI (100000)) dX10_distance_29 (by decide +kernel) ?_
      refine g_icmp_le (pc9 := 35) C rfl 46 dX10_distance_32 rfl (fun c_5 => ?_) (fun c_5 => ?_)
      · have hq : okR 0 100000 u := ⟨h0, Int32.not_lt.mpr c_5⟩
        refine g_aload_n (pc9 := 47) C rfl 0 dX10_distance_46 rfl rfl ?_
        refine g_get (v := .ref (w.1 (53))) (pc9 := 50) C rfl (31) 9 dX10_distance_47 (by decide) (ce_31 w (σ)) hin_10 hl_71 rfl (by decide) rfl rfl ?_
        refine g_iload_n (pc9 := 51) C rfl 1 dX10_distance_50 rfl rfl ?_
        refine g_iload_n (pc9 := 52) C rfl 2 dX10_distance_51 rfl rfl ?_
        refine g_iload_n (pc9 := 53) C rfl 3 dX10_distance_52 rfl rfl ?_
        refine g_callVv (nn := 3) (rest := []) (pc9 := 56) C rfl (53) [.int (nI (a)), .int (nI (b)), .int (u)] rfl dX10_distance_53 (m_X0_setBetween l w σ a b hb_a hb_b u) gX10_distance_X0_setBetween (by decide) (ce_53 w (σ)) rfl rfl rfl rfl rfl (by decide +kernel) ⟨by decide, by decide⟩ rfl (Nat.le_of_ble_eq_true rfl) ⟨by decide, by decide⟩ (fun σ_6 q_6 => ?_)
        replace q_6 : σ_6 = sI σ (54) (upd (upd (iA σ 54) (a * 12 + b) u) (b * 12 + a) u) := q_6
        rw [q_6]
        clear q_6
        exact g_xi (by decide) (by decide) (g_return C hr hlk dX10_distance_56 ⟨a, b, hb_a, hb_b, rfl, rfl, hne, hq, rfl⟩)
      · have hq : ¬ okR 0 100000 u := fun h => h.2 (Int32.not_le.mp c_5)
        exact g_throwW X hlk (cls := "java/lang/IllegalArgumentException") (text := "no such distance") dX10_distance_35 dX10_distance_38 dX10_distance_39 dX10_distance_42 dX10_distance_45 (by decide) (by decide +kernel) (by decide +kernel) (by decide +kernel) (by decide +kernel) (by decide +kernel) (by decide +kernel) (by decide) (Nat.le_of_ble_eq_true rfl) (by decide) (by decide) (by decide) (by decide) ⟨rfl, Or.inr ⟨rfl, ⟨a, hb_a, rfl⟩, ⟨b, hb_b, rfl⟩, Or.inr hq⟩⟩
  · have hq : nI a = nI b := c_3
    exact g_throwW X hlk (cls := "java/lang/IllegalArgumentException") (text := "the kinds are one") dX10_distance_13 dX10_distance_16 dX10_distance_17 dX10_distance_20 dX10_distance_23 (by decide) (by decide +kernel) (by decide +kernel) (by decide +kernel) (by decide +kernel) (by decide +kernel) (by decide +kernel) (by decide) (Nat.le_of_ble_eq_true rfl) (by decide) (by decide) (by decide) (by decide) ⟨rfl, Or.inr ⟨rfl, ⟨a, hb_a, rfl⟩, ⟨b, hb_b, rfl⟩, Or.inl hq⟩⟩

/-! Family: its sets at 42, how many at 41.1; a family is (z, f) -/
abbrev famSt (σ : St) (z : Nat) (f : Nat → Int32) : St := sN (sI σ 42 f) 41 1 (nI z)
theorem famSt_self {σ : St} {z : Nat} (h : nF σ 41 1 = nI z) : famSt σ z (iA σ 42) = σ := by
  unfold famSt
  rw [sI_self]
  exact sN_self h
theorem famSt_famSt {σ : St} {z y : Nat} {f g : Nat → Int32} : famSt (famSt σ z f) y g = famSt σ y g := by
  unfold famSt
  rw [sI_sN, sI_sI, sN_sN]
/-- x goes in ahead of the smaller ones at the end -/
def insF (x : Int32) : Nat → (Nat → Int32) → (Nat → Int32)
  | 0, f => upd f 0 x
  | i + 1, f => if bC (f i) < bC x then insF x i (upd f (i + 1) (f i)) else upd f (i + 1) x
noncomputable def cI {α : Type} (P : Prop) (a b : α) : α := @ite _ P (Classical.propDecidable P) a b
theorem cI_t {α : Type} {P : Prop} {a b : α} (h : P) : cI P a b = a := if_pos h
theorem cI_f {α : Type} {P : Prop} {a b : α} (h : ¬ P) : cI P a b = b := if_neg h
def famOld (z : Nat) (f : Nat → Int32) (x : Int32) : Prop := x = 0 ∨ 47 ≤ z ∨ ∃ v, v < z ∧ f v = x
noncomputable def famZ (z : Nat) (f : Nat → Int32) (x : Int32) : Nat := cI (famOld z f x) z (z + 1)
noncomputable def famF (z : Nat) (f : Nat → Int32) (x : Int32) : Nat → Int32 := cI (famOld z f x) f (insF x z f)
theorem famZ_le {z : Nat} {f : Nat → Int32} {x : Int32} (h : z ≤ 47) : famZ z f x ≤ 47 := by
  unfold famZ
  by_cases q : famOld z f x
  · rw [cI_t q]; exact h
  · rw [cI_f q]
    by_cases h2 : 47 ≤ z
    · exact absurd (Or.inr (Or.inl h2)) q
    · omega
set_option maxRecDepth 100000 in
set_option maxHeartbeats 4000000 in
theorem m_X1_makeEmpty (l : Launch) (w : Wd) (σ : St) (z : Nat) (f : Nat → Int32) : MV l yX1_makeEmpty wsX1_makeEmpty (rmL 1) w [.ref (w.1 (41))] (sN (sI σ (42) (f)) (41) 1 (nI (z))) (fun σ9 => σ9 = famSt σ 0 f) := by
  refine MV_of (cc := cX1_makeEmpty) (maxL := 1) (by decide) rfl (Nat.le_of_ble_eq_true rfl) ?_
  intro p e s m args below meth c A C hr hlk
  have C : Cx p s m args c w A cX1_makeEmpty RX1 1 wsX1_makeEmpty := C
  have hin_1 : ∀ u ∈ wsX10, u ∈ wsX1_makeEmpty := by decide +kernel
  have hl_15 : Cond.fieldLink RX1 15 "LineageBench$Family" "size" "I" ∈ wsX1_makeEmpty := by decide +kernel
  refine g_aload_n (pc9 := 1) C rfl 0 dX1_makeEmpty_0 rfl rfl ?_
  refine g_iconst (pc9 := 2) C rfl (nI (0)) dX1_makeEmpty_1 rfl ?_
  refine g_put (pc9 := 5) C rfl (41) 1 dX1_makeEmpty_2 (by decide) (ce_41 w (sN (sI σ (42) (f)) (41) 1 (nI (z)))) (rfl) hin_1 hl_15 tyX1 tyX1_ok nmX1 rfl (by decide) rfl rfl rfl (Nat.le_of_ble_eq_true rfl) ?_
  rw [sN_sN]
  exact g_return C hr hlk dX1_makeEmpty_5 rfl
set_option maxRecDepth 100000 in
set_option maxHeartbeats 4000000 in
theorem m_X1_isMember (l : Launch) (w : Wd) (σ : St) (z : Nat) (f : Nat → Int32) (hz : z ≤ 47) (x : Int32) : MI l yX1_isMember wsX1_isMember (rmL 1) w [.ref (w.1 (41)), .int (x)] (sN (sI σ (42) (f)) (41) 1 (nI (z))) (fun r σ9 => σ9 = famSt σ z f ∧ r = pI (∃ v, v < z ∧ f v = x)) := by
  refine MI_of (cc := cX1_isMember) (maxL := 3) (ret := .boolean) (by decide) rfl (Nat.le_of_ble_eq_true rfl) ?_
  intro p e s m args below meth c A C hr hlk
  have C : Cx p s m args c w A cX1_isMember RX1 3 wsX1_isMember := C
  have hin_1 : ∀ u ∈ wsX10, u ∈ wsX1_isMember := by decide +kernel
  have hl_9 : Cond.fieldLink RX1 9 "LineageBench$Family" "sets" "[I" ∈ wsX1_isMember := by decide +kernel
  have hl_15 : Cond.fieldLink RX1 15 "LineageBench$Family" "size" "I" ∈ wsX1_isMember := by decide +kernel
  refine g_iconst (pc9 := 1) C rfl (nI (0)) dX1_isMember_0 rfl ?_
  refine g_istore_n (pc9 := 2) C rfl [(2, .int (nI (0))), (0, .ref (w.1 (41))), (1, .int (x))] dX1_isMember_1 rfl (by decide) rfl ?_
  refine g_lp1 (α := Nat) (fun v => v ≤ z ∧ ∀ u, u < v → ¬ f u = x) (fun v => z - v) (fun v => G p l e _ s m args below meth c _ w A _ (sN (sI σ (42) (f)) (41) 1 (nI (z))) 0 0 2 [(2, .int (nI (v))), (0, .ref (w.1 (41))), (1, .int (x))] []) (fun v hI ih => ?_) (0) ⟨Nat.zero_le _, fun u h => absurd h (by omega)⟩
  obtain ⟨hv, hu⟩ := hI
  refine g_iload_n (pc9 := 3) C rfl 0 dX1_isMember_2 rfl rfl ?_
  refine g_aload_n (pc9 := 4) C rfl 1 dX1_isMember_3 rfl rfl ?_
  refine g_get (v := .int (nI (z))) (pc9 := 7) C rfl (41) 1 dX1_isMember_4 (by decide) (ce_41 w (sN (sI σ (42) (f)) (41) 1 (nI (z)))) hin_1 hl_15 rfl (by decide) rfl (congrArg (fun z => some (Value.int z)) (nF_s)) ?_
  refine g_icmp_ge (pc9 := 10) C rfl 28 dX1_isMember_7 rfl (fun c_1 => ?_) (fun c_1 => ?_)
  · replace c_1 := (nI_leI (by omega) (by omega)).mp c_1
    refine g_iconst (pc9 := 29) C rfl (nI (0)) dX1_isMember_28 rfl ?_
    exact g_zreturn C hr hlk dX1_isMember_29 (by decide) ⟨rfl, (pI_f (fun ⟨u, h1, h2⟩ => hu u (by omega) h2)).symm⟩
  · replace c_1 := (not_congr (nI_leI (by omega) (by omega))).mp c_1
    refine g_aload_n (pc9 := 11) C rfl 1 dX1_isMember_10 rfl rfl ?_
    refine g_get (v := .ref (w.1 (42))) (pc9 := 14) C rfl (41) 0 dX1_isMember_11 (by decide) (ce_41 w (sN (sI σ (42) (f)) (41) 1 (nI (z)))) hin_1 hl_9 rfl (by decide) rfl rfl ?_
    refine g_iload_n (pc9 := 15) C rfl 0 dX1_isMember_14 rfl rfl ?_
    refine g_iald (x := f (v)) (pc9 := 16) C rfl (42) (v) dX1_isMember_15 (by decide) (ce_42 w (sN (sI σ (42) (f)) (41) 1 (nI (z)))) rfl (by omega) (by decide) (congrFun ((iA_N).trans (iA_s)) _) ?_
    refine g_iload_n (pc9 := 17) C rfl 2 dX1_isMember_16 rfl rfl ?_
    refine g_icmp_ne (pc9 := 20) C rfl 22 dX1_isMember_17 rfl (fun c_2 => ?_) (fun c_2 => ?_)
    · have hne := c_2
      refine g_iinc (pc9 := 25) C rfl [(2, .int (nI (v + 1))), (0, .ref (w.1 (41))), (1, .int (x))] 0 (nI (v + 1)) dX1_isMember_22 rfl (nI_1 (v)) (by decide) rfl ?_
      refine g_goto C 2 dX1_isMember_25 rfl ?_
      exact ih (v + 1) ⟨by omega, lt_s hu hne⟩ (by omega)
    · refine g_iconst (pc9 := 21) C rfl (nI (1)) dX1_isMember_20 rfl ?_
      exact g_zreturn C hr hlk dX1_isMember_21 (by decide) ⟨rfl, (pI_t ⟨v, by omega, by assumption⟩).symm⟩
theorem insF_go {x : Int32} {i : Nat} {g : Nat → Int32} (h : 0 < i) (h2 : bC (g (i - 1)) < bC x) : insF x i g = insF x (i - 1) (upd g i (g (i - 1))) := by
  obtain ⟨u, rfl⟩ : ∃ u, i = u + 1 := ⟨i - 1, by omega⟩
  show (if bC (g u) < bC x then insF x u (upd g (u + 1) (g u)) else upd g (u + 1) x) = _
  exact if_pos h2
theorem insF_stop {x : Int32} {i : Nat} {g : Nat → Int32} (h : 0 < i) (h2 : ¬ bC (g (i - 1)) < bC x) : insF x i g = upd g i x := by
  obtain ⟨u, rfl⟩ : ∃ u, i = u + 1 := ⟨i - 1, by omega⟩
  show (if bC (g u) < bC x then insF x u (upd g (u + 1) (g u)) else upd g (u + 1) x) = _
  exact if_neg h2
set_option maxRecDepth 100000 in
set_option maxHeartbeats 4000000 in
theorem m_X1_addCluster (l : Launch) (w : Wd) (σ : St) (z : Nat) (f : Nat → Int32) (hz : z ≤ 47) (x : Int32) : MV l yX1_addCluster wsX1_addCluster (rmL 2) w [.ref (w.1 (41)), .int (x)] (sN (sI σ (42) (f)) (41) 1 (nI (z))) (fun σ9 => σ9 = famSt σ (famZ z f x) (famF z f x)) := by
  refine MV_of (cc := cX1_addCluster) (maxL := 4) (by decide) rfl (Nat.le_of_ble_eq_true rfl) ?_
  intro p e s m args below meth c A C hr hlk
  have C : Cx p s m args c w A cX1_addCluster RX1 4 wsX1_addCluster := C
  have hin_1 : ∀ u ∈ wsX10, u ∈ wsX1_addCluster := by decide +kernel
  have hl_9 : Cond.fieldLink RX1 9 "LineageBench$Family" "sets" "[I" ∈ wsX1_addCluster := by decide +kernel
  have hl_15 : Cond.fieldLink RX1 15 "LineageBench$Family" "size" "I" ∈ wsX1_addCluster := by decide +kernel
  refine g_iload_n (pc9 := 1) C rfl 1 dX1_addCluster_0 rfl rfl ?_
  refine g_if_eq (pc9 := 4) C rfl 21 dX1_addCluster_1 rfl (fun c_1 => ?_) (fun c_1 => ?_)
  · have hq : famOld z f x := Or.inl c_1
    exact g_return C hr hlk dX1_addCluster_21 (by show _ = famSt σ (famZ z f x) (famF z f x); rw [famZ, famF, cI_t (hq), cI_t (hq)])
  · refine g_aload_n (pc9 := 5) C rfl 0 dX1_addCluster_4 rfl rfl ?_
    refine g_get (v := .int (nI (z))) (pc9 := 8) C rfl (41) 1 dX1_addCluster_5 (by decide) (ce_41 w (sN (sI σ (42) (f)) (41) 1 (nI (z)))) hin_1 hl_15 rfl (by decide) rfl (congrArg (fun z => some (Value.int z)) (nF_s)) ?_
    refine g_bipush (pc9 := 10) C rfl (nI (47)) dX1_addCluster_8 rfl ?_
    refine g_icmp_ge (pc9 := 13) C rfl 21 dX1_addCluster_10 rfl (fun c_2 => ?_) (fun c_2 => ?_)
    · replace c_2 := (nI_leI (by omega) (by omega)).mp c_2
      have hq : famOld z f x := Or.inr (Or.inl c_2)
      exact g_return C hr hlk dX1_addCluster_21 (by show _ = famSt σ (famZ z f x) (famF z f x); rw [famZ, famF, cI_t (hq), cI_t (hq)])
    · replace c_2 := (not_congr (nI_leI (by omega) (by omega))).mp c_2
      refine g_aload_n (pc9 := 14) C rfl 0 dX1_addCluster_13 rfl rfl ?_
      refine g_iload_n (pc9 := 15) C rfl 1 dX1_addCluster_14 rfl rfl ?_
      refine g_callVi (nn := 1) (rest := []) (pc9 := 18) C rfl (41) [.int (x)] rfl dX1_addCluster_15 (m_X1_isMember l w σ z f hz x) gX1_addCluster_X1_isMember (by decide) (ce_41 w (sN (sI σ (42) (f)) (41) 1 (nI (z)))) rfl rfl rfl rfl rfl (by decide +kernel) ⟨by decide, by decide⟩ rfl (Nat.le_of_ble_eq_true rfl) ⟨by decide, by decide⟩ (fun r_3 σ_3 q_3 => ?_)
      obtain ⟨qs_3, qr_3⟩ := q_3
      rw [qs_3, qr_3]
      clear qs_3 qr_3
      refine g_if_eq (pc9 := 21) C rfl 22 dX1_addCluster_18 rfl (fun c_4 => ?_) (fun c_4 => ?_)
      · have hm : ¬ ∃ v, v < z ∧ f v = x := fun h => by rw [pI_t h] at c_4; exact absurd c_4 (by decide)
        refine g_aload_n (pc9 := 23) C rfl 0 dX1_addCluster_22 rfl rfl ?_
        refine g_get (v := .int (nI (z))) (pc9 := 26) C rfl (41) 1 dX1_addCluster_23 (by decide) (ce_41 w (sN (sI σ (42) (f)) (41) 1 (nI (z)))) hin_1 hl_15 rfl (by decide) rfl (congrArg (fun z => some (Value.int z)) (nF_s)) ?_
        refine g_istore_n (pc9 := 27) C rfl [(2, .int (nI (z))), (0, .ref (w.1 (41))), (1, .int (x))] dX1_addCluster_26 rfl (by decide) rfl ?_
        refine g_aload_n (pc9 := 28) C rfl 1 dX1_addCluster_27 rfl rfl ?_
        refine g_get (v := .int (nI (z))) (pc9 := 31) C rfl (41) 1 dX1_addCluster_28 (by decide) (ce_41 w (sN (sI σ (42) (f)) (41) 1 (nI (z)))) hin_1 hl_15 rfl (by decide) rfl (congrArg (fun z => some (Value.int z)) (nF_s)) ?_
        refine g_istore_n (pc9 := 32) C rfl [(3, .int (nI (z))), (2, .int (nI (z))), (0, .ref (w.1 (41))), (1, .int (x))] dX1_addCluster_31 rfl (by decide) rfl ?_
        refine g_sub [0, 1, 2, 3] [(3, .int (nI (z))), (2, .int (nI (z))), (0, .ref (w.1 (41))), (1, .int (x))] rfl ?_
        have hno : ¬ famOld z f x := by
          rintro (h | h | h)
          · contradiction
          · omega
          · exact hm h
        refine g_lp2 (α := Nat) (β := Nat → Int32) (fun i g => i ≤ z ∧ insF x i g = insF x z f) (fun i g => i) (fun i g => G p l e _ s m args below meth c _ w A _ (sN (sI σ (42) (g)) (41) 1 (nI (z))) 0 0 32 [(3, .int (nI (i))), (2, .int (nI (i))), (0, .ref (w.1 (41))), (1, .int (x))] []) (fun i g hI ih => ?_) (z) (f) ⟨Nat.le_refl _, rfl⟩
        obtain ⟨hi, hg⟩ := hI
        refine g_iload_n (pc9 := 33) C rfl 0 dX1_addCluster_32 rfl rfl ?_
        refine g_if_le (pc9 := 36) C rfl 78 dX1_addCluster_33 rfl (fun c_5 => ?_) (fun c_5 => ?_)
        · replace c_5 := (z_le (by omega)).mp c_5
          have hend : insF x i g = upd g i x := by rw [show i = 0 by omega]; rfl
          refine g_aload_n (pc9 := 79) C rfl 2 dX1_addCluster_78 rfl rfl ?_
          refine g_get (v := .ref (w.1 (42))) (pc9 := 82) C rfl (41) 0 dX1_addCluster_79 (by decide) (ce_41 w (sN (sI σ (42) (g)) (41) 1 (nI (z)))) hin_1 hl_9 rfl (by decide) rfl rfl ?_
          refine g_iload_n (pc9 := 83) C rfl 1 dX1_addCluster_82 rfl rfl ?_
          refine g_iload_n (pc9 := 84) C rfl 3 dX1_addCluster_83 rfl rfl ?_
          refine g_iast (pc9 := 85) C rfl (42) (i) (g) dX1_addCluster_84 (by decide) (fun _ => rfl) (ce_42 w (sN (sI σ (42) (g)) (41) 1 (nI (z)))) rfl (by omega) (by decide) ((iA_N).trans (iA_s)) ?_
          rw [sI_sN (a := 41) (k := 1) (b := 42), sI_sI (a := 42)]
          refine g_aload_n (pc9 := 86) C rfl 2 dX1_addCluster_85 rfl rfl ?_
          refine g_dup (pc9 := 87) C rfl dX1_addCluster_86 rfl ?_
          refine g_get (v := .int (nI (z))) (pc9 := 90) C rfl (41) 1 dX1_addCluster_87 (by decide) (ce_41 w (sN (sI σ (42) (upd (g) (i) (x))) (41) 1 (nI (z)))) hin_1 hl_15 rfl (by decide) rfl (congrArg (fun z => some (Value.int z)) (nF_s)) ?_
          refine g_iconst (pc9 := 91) C rfl (nI (1)) dX1_addCluster_90 rfl ?_
          refine g_iaddN (pc9 := 92) C rfl dX1_addCluster_91 ?_
          refine g_put (pc9 := 95) C rfl (41) 1 dX1_addCluster_92 (by decide) (ce_41 w (sN (sI σ (42) (upd (g) (i) (x))) (41) 1 (nI (z)))) (rfl) hin_1 hl_15 tyX1 tyX1_ok nmX1 rfl (by decide) rfl rfl rfl (Nat.le_of_ble_eq_true rfl) ?_
          rw [sN_sN]
          exact g_return C hr hlk dX1_addCluster_95 (by show _ = famSt σ (famZ z f x) (famF z f x); rw [famZ, famF, cI_f hno, cI_f hno, ← hg, hend])
        · replace c_5 := (not_congr (z_le (by omega))).mp c_5
          refine g_aload_n (pc9 := 37) C rfl 2 dX1_addCluster_36 rfl rfl ?_
          refine g_get (v := .ref (w.1 (42))) (pc9 := 40) C rfl (41) 0 dX1_addCluster_37 (by decide) (ce_41 w (sN (sI σ (42) (g)) (41) 1 (nI (z)))) hin_1 hl_9 rfl (by decide) rfl rfl ?_
          refine g_iload_n (pc9 := 41) C rfl 0 dX1_addCluster_40 rfl rfl ?_
          refine g_iconst (pc9 := 42) C rfl (nI (1)) dX1_addCluster_41 rfl ?_
          refine g_isubN (pc9 := 43) C rfl dX1_addCluster_42 (by omega) ?_
          refine g_iald (x := g (i - (1))) (pc9 := 44) C rfl (42) (i - (1)) dX1_addCluster_43 (by decide) (ce_42 w (sN (sI σ (42) (g)) (41) 1 (nI (z)))) rfl (by omega) (by decide) (congrFun ((iA_N).trans (iA_s)) _) ?_
          refine g_callSi (nn := 1) (rest := []) (pc9 := 47) C rfl [.int (g (i - (1)))] rfl dX1_addCluster_44 (m_bitCount l w _ (g (i - (1)))) gX1_addCluster_J6_bitCount_0f7a4 rfl rfl rfl (by decide +kernel) ⟨by decide, by decide⟩ rfl (Nat.le_of_ble_eq_true rfl) ⟨by decide, by decide⟩ (fun r_6 σ_6 q_6 => ?_)
          obtain ⟨qs_6, qr_6⟩ := q_6
          rw [qs_6, qr_6]
          clear qs_6 qr_6
          refine g_iload_n (pc9 := 48) C rfl 3 dX1_addCluster_47 rfl rfl ?_
          refine g_callSi (nn := 1) (rest := [.int (bC (g (i - (1))))]) (pc9 := 51) C rfl [.int (x)] rfl dX1_addCluster_48 (m_bitCount l w _ (x)) gX1_addCluster_J6_bitCount_0f7a4 rfl rfl rfl (by decide +kernel) ⟨by decide, by decide⟩ rfl (Nat.le_of_ble_eq_true rfl) ⟨by decide, by decide⟩ (fun r_7 σ_7 q_7 => ?_)
          obtain ⟨qs_7, qr_7⟩ := q_7
          rw [qs_7, qr_7]
          clear qs_7 qr_7
          refine g_icmp_ge (pc9 := 54) C rfl 78 dX1_addCluster_51 rfl (fun c_8 => ?_) (fun c_8 => ?_)
          · have hend : insF x i g = upd g i x := insF_stop (by omega) (Int32.not_lt.mpr c_8)
            refine g_aload_n (pc9 := 79) C rfl 2 dX1_addCluster_78 rfl rfl ?_
            refine g_get (v := .ref (w.1 (42))) (pc9 := 82) C rfl (41) 0 dX1_addCluster_79 (by decide) (ce_41 w (sN (sI σ (42) (g)) (41) 1 (nI (z)))) hin_1 hl_9 rfl (by decide) rfl rfl ?_
            refine g_iload_n (pc9 := 83) C rfl 1 dX1_addCluster_82 rfl rfl ?_
            refine g_iload_n (pc9 := 84) C rfl 3 dX1_addCluster_83 rfl rfl ?_
            refine g_iast (pc9 := 85) C rfl (42) (i) (g) dX1_addCluster_84 (by decide) (fun _ => rfl) (ce_42 w (sN (sI σ (42) (g)) (41) 1 (nI (z)))) rfl (by omega) (by decide) ((iA_N).trans (iA_s)) ?_
            rw [sI_sN (a := 41) (k := 1) (b := 42), sI_sI (a := 42)]
            refine g_aload_n (pc9 := 86) C rfl 2 dX1_addCluster_85 rfl rfl ?_
            refine g_dup (pc9 := 87) C rfl dX1_addCluster_86 rfl ?_
            refine g_get (v := .int (nI (z))) (pc9 := 90) C rfl (41) 1 dX1_addCluster_87 (by decide) (ce_41 w (sN (sI σ (42) (upd (g) (i) (x))) (41) 1 (nI (z)))) hin_1 hl_15 rfl (by decide) rfl (congrArg (fun z => some (Value.int z)) (nF_s)) ?_
            refine g_iconst (pc9 := 91) C rfl (nI (1)) dX1_addCluster_90 rfl ?_
            refine g_iaddN (pc9 := 92) C rfl dX1_addCluster_91 ?_
            refine g_put (pc9 := 95) C rfl (41) 1 dX1_addCluster_92 (by decide) (ce_41 w (sN (sI σ (42) (upd (g) (i) (x))) (41) 1 (nI (z)))) (rfl) hin_1 hl_15 tyX1 tyX1_ok nmX1 rfl (by decide) rfl rfl rfl (Nat.le_of_ble_eq_true rfl) ?_
            rw [sN_sN]
            exact g_return C hr hlk dX1_addCluster_95 (by show _ = famSt σ (famZ z f x) (famF z f x); rw [famZ, famF, cI_f hno, cI_f hno, ← hg, hend])
          · have hlt : bC (g (i - 1)) < bC x := Int32.not_le.mp c_8
            have hstep : insF x i g = insF x (i - 1) (upd g i (g (i - 1))) := insF_go (by omega) hlt
            refine g_aload_n (pc9 := 55) C rfl 2 dX1_addCluster_54 rfl rfl ?_
            refine g_get (v := .ref (w.1 (42))) (pc9 := 58) C rfl (41) 0 dX1_addCluster_55 (by decide) (ce_41 w (sN (sI σ (42) (g)) (41) 1 (nI (z)))) hin_1 hl_9 rfl (by decide) rfl rfl ?_
            refine g_iload_n (pc9 := 59) C rfl 0 dX1_addCluster_58 rfl rfl ?_
            refine g_aload_n (pc9 := 60) C rfl 2 dX1_addCluster_59 rfl rfl ?_
            refine g_get (v := .ref (w.1 (42))) (pc9 := 63) C rfl (41) 0 dX1_addCluster_60 (by decide) (ce_41 w (sN (sI σ (42) (g)) (41) 1 (nI (z)))) hin_1 hl_9 rfl (by decide) rfl rfl ?_
            refine g_iload_n (pc9 := 64) C rfl 0 dX1_addCluster_63 rfl rfl ?_
            refine g_iconst (pc9 := 65) C rfl (nI (1)) dX1_addCluster_64 rfl ?_
            refine g_isubN (pc9 := 66) C rfl dX1_addCluster_65 (by omega) ?_
            refine g_iald (x := g (i - (1))) (pc9 := 67) C rfl (42) (i - (1)) dX1_addCluster_66 (by decide) (ce_42 w (sN (sI σ (42) (g)) (41) 1 (nI (z)))) rfl (by omega) (by decide) (congrFun ((iA_N).trans (iA_s)) _) ?_
            refine g_iast (pc9 := 68) C rfl (42) (i) (g) dX1_addCluster_67 (by decide) (fun _ => rfl) (ce_42 w (sN (sI σ (42) (g)) (41) 1 (nI (z)))) rfl (by omega) (by decide) ((iA_N).trans (iA_s)) ?_
            rw [sI_sN (a := 41) (k := 1) (b := 42), sI_sI (a := 42)]
            refine g_iload_n (pc9 := 69) C rfl 0 dX1_addCluster_68 rfl rfl ?_
            refine g_iconst (pc9 := 70) C rfl (nI (1)) dX1_addCluster_69 rfl ?_
            refine g_isubN (pc9 := 71) C rfl dX1_addCluster_70 (by omega) ?_
            refine g_istore_n (pc9 := 72) C rfl [(2, .int (nI (i - (1)))), (3, .int (nI (i))), (0, .ref (w.1 (41))), (1, .int (x))] dX1_addCluster_71 rfl (by decide) rfl ?_
            refine g_iinc (pc9 := 75) C rfl [(3, .int (nI (i - 1))), (2, .int (nI (i - (1)))), (0, .ref (w.1 (41))), (1, .int (x))] 1 (nI (i - 1)) dX1_addCluster_72 rfl (sb_m1 (by omega)) (by decide) rfl ?_
            refine g_goto C 32 dX1_addCluster_75 rfl ?_
            exact ih (i - 1) (upd (g) (i) (g (i - (1)))) ⟨by omega, by rw [← hg, hstep]⟩ (by omega)
      · have hq : famOld z f x := Or.inr (Or.inr (Classical.byContradiction (fun h => c_4 (pI_f h))))
        exact g_return C hr hlk dX1_addCluster_21 (by show _ = famSt σ (famZ z f x) (famF z f x); rw [famZ, famF, cI_t (hq), cI_t (hq)])
/-- sets added one behind another -/
noncomputable def famUp (x : Nat → Int32) (z : Nat) (f : Nat → Int32) : Nat → Nat × (Nat → Int32)
  | 0 => (z, f)
  | k + 1 => (famZ (famUp x z f k).1 (famUp x z f k).2 (x k), famF (famUp x z f k).1 (famUp x z f k).2 (x k))
theorem famUp_le {x : Nat → Int32} {z : Nat} {f : Nat → Int32} (h : z ≤ 47) : ∀ k, (famUp x z f k).1 ≤ 47
  | 0 => h
  | k + 1 => famZ_le (famUp_le h k)
set_option maxRecDepth 100000 in
set_option maxHeartbeats 4000000 in
theorem m_X1_addEachKind (l : Launch) (w : Wd) (σ : St) (z : Nat) (f : Nat → Int32) (hz : z ≤ 47) (x : Int32) : MV l yX1_addEachKind wsX1_addEachKind (rmL 3) w [.ref (w.1 (41)), .int (x)] (sN (sI σ (42) (f)) (41) 1 (nI (z))) (fun σ9 => σ9 = famSt σ (famUp (fun k => x &&& (nI 1 <<< (nI k &&& 31))) z f 12).1 (famUp (fun k => x &&& (nI 1 <<< (nI k &&& 31))) z f 12).2) := by
  refine MV_of (cc := cX1_addEachKind) (maxL := 3) (by decide) rfl (Nat.le_of_ble_eq_true rfl) ?_
  intro p e s m args below meth c A C hr hlk
  have C : Cx p s m args c w A cX1_addEachKind RX1 3 wsX1_addEachKind := C
  refine g_iconst (pc9 := 1) C rfl (nI (0)) dX1_addEachKind_0 rfl ?_
  refine g_istore_n (pc9 := 2) C rfl [(2, .int (nI (0))), (0, .ref (w.1 (41))), (1, .int (x))] dX1_addEachKind_1 rfl (by decide) rfl ?_
  refine g_lp1 (α := Nat) (fun v => v ≤ 12) (fun v => 12 - v) (fun v => G p l e _ s m args below meth c _ w A _ (sN (sI σ (42) ((famUp (fun k => x &&& (nI 1 <<< (nI k &&& 31))) z f v).2)) (41) 1 (nI ((famUp (fun k => x &&& (nI 1 <<< (nI k &&& 31))) z f v).1))) 0 0 2 [(2, .int (nI (v))), (0, .ref (w.1 (41))), (1, .int (x))] []) (fun v hI ih => ?_) (0) (Nat.zero_le _)
  obtain hv := hI
  refine g_iload_n (pc9 := 3) C rfl 0 dX1_addEachKind_2 rfl rfl ?_
  refine g_bipush (pc9 := 5) C rfl (nI (12)) dX1_addEachKind_3 rfl ?_
  refine g_icmp_ge (pc9 := 8) C rfl 23 dX1_addEachKind_5 rfl (fun c_1 => ?_) (fun c_1 => ?_)
  · replace c_1 := (nI_leI (by omega) (by omega)).mp c_1
    exact g_return C hr hlk dX1_addEachKind_23 (by rw [show v = 12 by omega])
  · replace c_1 := (not_congr (nI_leI (by omega) (by omega))).mp c_1
    refine g_aload_n (pc9 := 9) C rfl 1 dX1_addEachKind_8 rfl rfl ?_
    refine g_iload_n (pc9 := 10) C rfl 2 dX1_addEachKind_9 rfl rfl ?_
    refine g_iconst (pc9 := 11) C rfl (nI (1)) dX1_addEachKind_10 rfl ?_
    refine g_iload_n (pc9 := 12) C rfl 0 dX1_addEachKind_11 rfl rfl ?_
    refine g_ishl (pc9 := 13) C rfl dX1_addEachKind_12 ?_
    refine g_iand (pc9 := 14) C rfl dX1_addEachKind_13 ?_
    refine g_callVv (nn := 1) (rest := []) (pc9 := 17) C rfl (41) [.int ((x) &&& ((nI (1)) <<< ((nI (v)) &&& 31)))] rfl dX1_addEachKind_14 (m_X1_addCluster l w σ _ _ (famUp_le hz v) ((x) &&& ((nI (1)) <<< ((nI (v)) &&& 31)))) gX1_addEachKind_X1_addCluster (by decide) (ce_41 w (sN (sI σ (42) ((famUp (fun k => x &&& (nI 1 <<< (nI k &&& 31))) z f v).2)) (41) 1 (nI ((famUp (fun k => x &&& (nI 1 <<< (nI k &&& 31))) z f v).1)))) rfl rfl rfl rfl rfl (by decide +kernel) ⟨by decide, by decide⟩ rfl (Nat.le_of_ble_eq_true rfl) ⟨by decide, by decide⟩ (fun σ_2 q_2 => ?_)
    replace q_2 : σ_2 = sN (sI σ (42) ((famUp (fun k => x &&& (nI 1 <<< (nI k &&& 31))) z f (v + 1)).2)) (41) 1 (nI ((famUp (fun k => x &&& (nI 1 <<< (nI k &&& 31))) z f (v + 1)).1)) := q_2
    rw [q_2]
    clear q_2
    refine g_iinc (pc9 := 20) C rfl [(2, .int (nI (v + 1))), (0, .ref (w.1 (41))), (1, .int (x))] 0 (nI (v + 1)) dX1_addEachKind_17 rfl (nI_1 (v)) (by decide) rfl ?_
    refine g_goto C 2 dX1_addEachKind_20 rfl ?_
    exact ih (v + 1) (by omega) (by omega)
/-- the last place below i whose set holds the set at i -/
def around (f : Nat → Int32) (y : Int32) : Nat → Int32
  | 0 => -1
  | k + 1 => if f k &&& y = y then nI k else around f y k
def kindUp (x : Int32) : Nat → Nat → Int32
  | 0, _ => -1
  | d + 1, k => if x = nI 1 <<< (nI k &&& 31) then nI k else kindUp x d (k + 1)
theorem around_y {f : Nat → Int32} {y : Int32} {v : Nat} (h : 0 < v) (h2 : f (v - 1) &&& y = y) : around f y v = nI (v - 1) := by
  obtain ⟨u, rfl⟩ : ∃ u, v = u + 1 := ⟨v - 1, by omega⟩
  exact if_pos h2
theorem around_n {f : Nat → Int32} {y : Int32} {v : Nat} (h : 0 < v) (h2 : ¬ f (v - 1) &&& y = y) : around f y v = around f y (v - 1) := by
  obtain ⟨u, rfl⟩ : ∃ u, v = u + 1 := ⟨v - 1, by omega⟩
  exact if_neg h2
set_option maxRecDepth 100000 in
set_option maxHeartbeats 4000000 in
theorem m_X1_smallestAround (l : Launch) (w : Wd) (σ : St) (z : Nat) (f : Nat → Int32) (hz : z ≤ 47) (i : Nat) (hi : i < z) : MI l yX1_smallestAround wsX1_smallestAround (rmL 1) w [.ref (w.1 (41)), .int (nI (i))] (sN (sI σ (42) (f)) (41) 1 (nI (z))) (fun r σ9 => σ9 = famSt σ z f ∧ r = around f (f i) i) := by
  refine MI_of (cc := cX1_smallestAround) (maxL := 3) (ret := .int) (by decide) rfl (Nat.le_of_ble_eq_true rfl) ?_
  intro p e s m args below meth c A C hr hlk
  have C : Cx p s m args c w A cX1_smallestAround RX1 3 wsX1_smallestAround := C
  have hin_1 : ∀ u ∈ wsX10, u ∈ wsX1_smallestAround := by decide +kernel
  have hl_9 : Cond.fieldLink RX1 9 "LineageBench$Family" "sets" "[I" ∈ wsX1_smallestAround := by decide +kernel
  refine g_iload_n (pc9 := 1) C rfl 1 dX1_smallestAround_0 rfl rfl ?_
  refine g_iconst (pc9 := 2) C rfl (nI (1)) dX1_smallestAround_1 rfl ?_
  refine g_isub (pc9 := 3) C rfl dX1_smallestAround_2 ?_
  rw [nI_dn]
  refine g_istore_n (pc9 := 4) C rfl [(2, .int (dn i)), (0, .ref (w.1 (41))), (1, .int (nI (i)))] dX1_smallestAround_3 rfl (by decide) rfl ?_
  refine g_lp1 (α := Nat) (fun v => v ≤ i ∧ around f (f i) v = around f (f i) i) (fun v => v) (fun v => G p l e _ s m args below meth c _ w A _ (sN (sI σ (42) (f)) (41) 1 (nI (z))) 0 0 4 [(2, .int (dn v)), (0, .ref (w.1 (41))), (1, .int (nI (i)))] []) (fun v hI ih => ?_) (i) ⟨Nat.le_refl _, rfl⟩
  obtain ⟨hv, ha⟩ := hI
  rcases Nat.eq_zero_or_pos v with h0 | h0
  · subst h0
    rw [dn_0]
    refine g_iload_n (pc9 := 5) C rfl 0 dX1_smallestAround_4 rfl rfl ?_
    refine g_if_lt (pc9 := 8) C rfl 38 dX1_smallestAround_5 rfl (fun c_1 => ?_) (fun c_1 => ?_)
    · refine g_iconst (pc9 := 39) C rfl ((-1)) dX1_smallestAround_38 rfl ?_
      exact g_ireturn C hr hlk dX1_smallestAround_39 ⟨rfl, by rw [← ha]; rfl⟩
    · exact absurd (by decide) c_1
  · rw [dn_s h0]
    refine g_iload_n (pc9 := 5) C rfl 0 dX1_smallestAround_4 rfl rfl ?_
    refine g_if_lt (pc9 := 8) C rfl 38 dX1_smallestAround_5 rfl (fun c_2 => ?_) (fun c_2 => ?_)
    · replace c_2 := (z_lt (by omega)).mp c_2
      exact absurd c_2 (by simp)
    · replace c_2 := (not_congr (z_lt (by omega))).mp c_2
      refine g_aload_n (pc9 := 9) C rfl 1 dX1_smallestAround_8 rfl rfl ?_
      refine g_get (v := .ref (w.1 (42))) (pc9 := 12) C rfl (41) 0 dX1_smallestAround_9 (by decide) (ce_41 w (sN (sI σ (42) (f)) (41) 1 (nI (z)))) hin_1 hl_9 rfl (by decide) rfl rfl ?_
      refine g_iload_n (pc9 := 13) C rfl 0 dX1_smallestAround_12 rfl rfl ?_
      refine g_iald (x := f (v - 1)) (pc9 := 14) C rfl (42) (v - 1) dX1_smallestAround_13 (by decide) (ce_42 w (sN (sI σ (42) (f)) (41) 1 (nI (z)))) rfl (by omega) (by decide) (congrFun ((iA_N).trans (iA_s)) _) ?_
      refine g_aload_n (pc9 := 15) C rfl 1 dX1_smallestAround_14 rfl rfl ?_
      refine g_get (v := .ref (w.1 (42))) (pc9 := 18) C rfl (41) 0 dX1_smallestAround_15 (by decide) (ce_41 w (sN (sI σ (42) (f)) (41) 1 (nI (z)))) hin_1 hl_9 rfl (by decide) rfl rfl ?_
      refine g_iload_n (pc9 := 19) C rfl 2 dX1_smallestAround_18 rfl rfl ?_
      refine g_iald (x := f (i)) (pc9 := 20) C rfl (42) (i) dX1_smallestAround_19 (by decide) (ce_42 w (sN (sI σ (42) (f)) (41) 1 (nI (z)))) rfl (by omega) (by decide) (congrFun ((iA_N).trans (iA_s)) _) ?_
      refine g_iand (pc9 := 21) C rfl dX1_smallestAround_20 ?_
      refine g_aload_n (pc9 := 22) C rfl 1 dX1_smallestAround_21 rfl rfl ?_
      refine g_get (v := .ref (w.1 (42))) (pc9 := 25) C rfl (41) 0 dX1_smallestAround_22 (by decide) (ce_41 w (sN (sI σ (42) (f)) (41) 1 (nI (z)))) hin_1 hl_9 rfl (by decide) rfl rfl ?_
      refine g_iload_n (pc9 := 26) C rfl 2 dX1_smallestAround_25 rfl rfl ?_
      refine g_iald (x := f (i)) (pc9 := 27) C rfl (42) (i) dX1_smallestAround_26 (by decide) (ce_42 w (sN (sI σ (42) (f)) (41) 1 (nI (z)))) rfl (by omega) (by decide) (congrFun ((iA_N).trans (iA_s)) _) ?_
      refine g_icmp_ne (pc9 := 30) C rfl 32 dX1_smallestAround_27 rfl (fun c_3 => ?_) (fun c_3 => ?_)
      · have hst := around_n h0 c_3
        refine g_iinc (pc9 := 35) C rfl [(2, .int (dn (v - 1))), (0, .ref (w.1 (41))), (1, .int (nI (i)))] 0 (dn (v - 1)) dX1_smallestAround_32 rfl rfl (by decide) rfl ?_
        refine g_goto C 4 dX1_smallestAround_35 rfl ?_
        exact ih (v - 1) ⟨by omega, hst.symm.trans ha⟩ (by omega)
      · have hst := around_y h0 c_3
        refine g_iload_n (pc9 := 31) C rfl 0 dX1_smallestAround_30 rfl rfl ?_
        exact g_ireturn C hr hlk dX1_smallestAround_31 ⟨rfl, by rw [← ha, hst]⟩
theorem kindUp_go {x : Int32} {v : Nat} (h : v < 12) (h2 : ¬ x = nI 1 <<< (nI v &&& 31)) : kindUp x (12 - v) v = kindUp x (12 - (v + 1)) (v + 1) := by
  rw [show 12 - v = (12 - (v + 1)) + 1 by omega]
  exact if_neg h2
theorem kindUp_at {x : Int32} {v : Nat} (h : v < 12) (h2 : x = nI 1 <<< (nI v &&& 31)) : kindUp x (12 - v) v = nI v := by
  rw [show 12 - v = (12 - (v + 1)) + 1 by omega]
  exact if_pos h2
set_option maxRecDepth 100000 in
set_option maxHeartbeats 4000000 in
theorem m_X1_kindIfAlone (l : Launch) (w : Wd) (σ : St) (x : Int32) : MI l yX1_kindIfAlone wsX1_kindIfAlone (rmL 1) w [.int (x)] (σ) (fun r σ9 => σ9 = σ ∧ r = kindUp x 12 0) := by
  refine MI_of (cc := cX1_kindIfAlone) (maxL := 2) (ret := .int) (by decide) rfl (Nat.le_of_ble_eq_true rfl) ?_
  intro p e s m args below meth c A C hr hlk
  have C : Cx p s m args c w A cX1_kindIfAlone RX1 2 wsX1_kindIfAlone := C
  refine g_iconst (pc9 := 1) C rfl (nI (0)) dX1_kindIfAlone_0 rfl ?_
  refine g_istore_n (pc9 := 2) C rfl [(1, .int (nI (0))), (0, .int (x))] dX1_kindIfAlone_1 rfl (by decide) rfl ?_
  refine g_lp1 (α := Nat) (fun v => v ≤ 12 ∧ kindUp x (12 - v) v = kindUp x 12 0) (fun v => 12 - v) (fun v => G p l e _ s m args below meth c _ w A _ (σ) 0 0 2 [(1, .int (nI (v))), (0, .int (x))] []) (fun v hI ih => ?_) (0) ⟨Nat.zero_le _, rfl⟩
  obtain ⟨hv, hk⟩ := hI
  refine g_iload_n (pc9 := 3) C rfl 0 dX1_kindIfAlone_2 rfl rfl ?_
  refine g_bipush (pc9 := 5) C rfl (nI (12)) dX1_kindIfAlone_3 rfl ?_
  refine g_icmp_ge (pc9 := 8) C rfl 23 dX1_kindIfAlone_5 rfl (fun c_1 => ?_) (fun c_1 => ?_)
  · replace c_1 := (nI_leI (by omega) (by omega)).mp c_1
    refine g_iconst (pc9 := 24) C rfl ((-1)) dX1_kindIfAlone_23 rfl ?_
    exact g_ireturn C hr hlk dX1_kindIfAlone_24 ⟨rfl, by rw [← hk, show 12 - v = 0 by omega]; rfl⟩
  · replace c_1 := (not_congr (nI_leI (by omega) (by omega))).mp c_1
    refine g_iload_n (pc9 := 9) C rfl 1 dX1_kindIfAlone_8 rfl rfl ?_
    refine g_iconst (pc9 := 10) C rfl (nI (1)) dX1_kindIfAlone_9 rfl ?_
    refine g_iload_n (pc9 := 11) C rfl 0 dX1_kindIfAlone_10 rfl rfl ?_
    refine g_ishl (pc9 := 12) C rfl dX1_kindIfAlone_11 ?_
    refine g_icmp_ne (pc9 := 15) C rfl 17 dX1_kindIfAlone_12 rfl (fun c_2 => ?_) (fun c_2 => ?_)
    · have hne := c_2
      refine g_iinc (pc9 := 20) C rfl [(1, .int (nI (v + 1))), (0, .int (x))] 0 (nI (v + 1)) dX1_kindIfAlone_17 rfl (nI_1 (v)) (by decide) rfl ?_
      refine g_goto C 2 dX1_kindIfAlone_20 rfl ?_
      exact ih (v + 1) ⟨by omega, by rw [← hk, kindUp_go (by omega) hne]⟩ (by omega)
    · refine g_iload_n (pc9 := 16) C rfl 0 dX1_kindIfAlone_15 rfl rfl ?_
      exact g_ireturn C hr hlk dX1_kindIfAlone_16 ⟨rfl, by rw [← hk]; exact (kindUp_at (by omega) (by assumption)).symm⟩

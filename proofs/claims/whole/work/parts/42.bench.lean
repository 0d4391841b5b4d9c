/-! LineageBench: what is asked ahead: a shelf, a kind, a row, sets; a tree on a shelf -/
abbrev okI (n : Nat) (x : Int32) : Prop := ∃ i, i < n ∧ x = nI i
theorem okI_of {n : Nat} (hn : n < 2 ^ 31) {x : Int32} (h1 : ¬ x < 0) (h2 : x < nI n) : okI n x := by
  rcases pk_ix x hn with h | h | h
  · exact absurd h h1
  · exact absurd h2 (Int32.not_lt.mpr h)
  · exact h
theorem okI_neg {n : Nat} (hn : n < 2 ^ 31) {x : Int32} (h1 : x < 0) : ¬ okI n x := by
  rintro ⟨i, hi, rfl⟩
  exact nI_pos (by omega) h1
theorem okI_big {n : Nat} (hn : n < 2 ^ 31) {x : Int32} (h1 : ¬ x < nI n) : ¬ okI n x := by
  rintro ⟨i, hi, rfl⟩
  exact h1 (nI_lt hi hn)
set_option maxRecDepth 100000 in
set_option maxHeartbeats 4000000 in
theorem m_X10_needShelf (l : Launch) (hst : l.stackTraces = false) (w : Wd) (sA : Nat → Nat) (σ : St) (x : Int32) : MXV l yX10_needShelf wsX10_needShelf 6 1 w sA [.int (x)] (σ) (fun σ9 => σ9 = σ ∧ okI 8 x) (fun E σ9 => σ9 = σ ∧ E = xIOB ∧ ¬ okI 8 x) := by
  refine MXV_of hst (cc := cX10_needShelf) (maxL := 1) (by decide) rfl (Nat.le_of_ble_eq_true rfl) ?_
  intro p e s m args below meth c A X hr hlk
  have X : CX p l s m args c w sA A cX10_needShelf RX10 1 wsX10_needShelf := X
  have C := X.1
  refine g_iload_n (pc9 := 1) C rfl 0 dX10_needShelf_0 rfl rfl ?_
  refine g_if_lt (pc9 := 4) C rfl 10 dX10_needShelf_1 rfl (fun c_1 => ?_) (fun c_1 => ?_)
  · exact g_throwW X hlk (cls := "java/lang/IndexOutOfBoundsException") (text := "no such shelf") dX10_needShelf_10 dX10_needShelf_13 dX10_needShelf_14 dX10_needShelf_17 dX10_needShelf_20 (by decide) (by decide +kernel) (by decide +kernel) (by decide +kernel) (by decide +kernel) (by decide +kernel) (by decide +kernel) (by decide) (Nat.le_of_ble_eq_true rfl) (by decide) (by decide) (by decide) (by decide) ⟨rfl, rfl, by first | exact okI_neg (by decide) (by assumption) | exact okI_big (by decide) (by assumption)⟩
  · refine g_iload_n (pc9 := 5) C rfl 0 dX10_needShelf_4 rfl rfl ?_
    refine g_bipush (pc9 := 7) C rfl (nI (8)) dX10_needShelf_5 rfl ?_
    refine g_icmp_lt (pc9 := 10) C rfl 21 dX10_needShelf_7 rfl (fun c_2 => ?_) (fun c_2 => ?_)
    · exact g_xi (by decide) (by decide) (g_return C hr hlk dX10_needShelf_21 ⟨rfl, okI_of (by decide) (by assumption) (by assumption)⟩)
    · exact g_throwW X hlk (cls := "java/lang/IndexOutOfBoundsException") (text := "no such shelf") dX10_needShelf_10 dX10_needShelf_13 dX10_needShelf_14 dX10_needShelf_17 dX10_needShelf_20 (by decide) (by decide +kernel) (by decide +kernel) (by decide +kernel) (by decide +kernel) (by decide +kernel) (by decide +kernel) (by decide) (Nat.le_of_ble_eq_true rfl) (by decide) (by decide) (by decide) (by decide) ⟨rfl, rfl, by first | exact okI_neg (by decide) (by assumption) | exact okI_big (by decide) (by assumption)⟩
set_option maxRecDepth 100000 in
set_option maxHeartbeats 4000000 in
theorem m_X10_needKind (l : Launch) (hst : l.stackTraces = false) (w : Wd) (sA : Nat → Nat) (σ : St) (x : Int32) : MXV l yX10_needKind wsX10_needKind 6 1 w sA [.int (x)] (σ) (fun σ9 => σ9 = σ ∧ okI 12 x) (fun E σ9 => σ9 = σ ∧ E = xIOB ∧ ¬ okI 12 x) := by
  refine MXV_of hst (cc := cX10_needKind) (maxL := 1) (by decide) rfl (Nat.le_of_ble_eq_true rfl) ?_
  intro p e s m args below meth c A X hr hlk
  have X : CX p l s m args c w sA A cX10_needKind RX10 1 wsX10_needKind := X
  have C := X.1
  refine g_iload_n (pc9 := 1) C rfl 0 dX10_needKind_0 rfl rfl ?_
  refine g_if_lt (pc9 := 4) C rfl 10 dX10_needKind_1 rfl (fun c_1 => ?_) (fun c_1 => ?_)
  · exact g_throwW X hlk (cls := "java/lang/IndexOutOfBoundsException") (text := "no such kind") dX10_needKind_10 dX10_needKind_13 dX10_needKind_14 dX10_needKind_17 dX10_needKind_20 (by decide) (by decide +kernel) (by decide +kernel) (by decide +kernel) (by decide +kernel) (by decide +kernel) (by decide +kernel) (by decide) (Nat.le_of_ble_eq_true rfl) (by decide) (by decide) (by decide) (by decide) ⟨rfl, rfl, by first | exact okI_neg (by decide) (by assumption) | exact okI_big (by decide) (by assumption)⟩
  · refine g_iload_n (pc9 := 5) C rfl 0 dX10_needKind_4 rfl rfl ?_
    refine g_bipush (pc9 := 7) C rfl (nI (12)) dX10_needKind_5 rfl ?_
    refine g_icmp_lt (pc9 := 10) C rfl 21 dX10_needKind_7 rfl (fun c_2 => ?_) (fun c_2 => ?_)
    · exact g_xi (by decide) (by decide) (g_return C hr hlk dX10_needKind_21 ⟨rfl, okI_of (by decide) (by assumption) (by assumption)⟩)
    · exact g_throwW X hlk (cls := "java/lang/IndexOutOfBoundsException") (text := "no such kind") dX10_needKind_10 dX10_needKind_13 dX10_needKind_14 dX10_needKind_17 dX10_needKind_20 (by decide) (by decide +kernel) (by decide +kernel) (by decide +kernel) (by decide +kernel) (by decide +kernel) (by decide +kernel) (by decide) (Nat.le_of_ble_eq_true rfl) (by decide) (by decide) (by decide) (by decide) ⟨rfl, rfl, by first | exact okI_neg (by decide) (by assumption) | exact okI_big (by decide) (by assumption)⟩
set_option maxRecDepth 100000 in
set_option maxHeartbeats 4000000 in
theorem m_X10_needRow (l : Launch) (hst : l.stackTraces = false) (w : Wd) (sA : Nat → Nat) (σ : St) (x : Int32) : MXV l yX10_needRow wsX10_needRow 6 1 w sA [.int (x)] (σ) (fun σ9 => σ9 = σ ∧ okI 8 x) (fun E σ9 => σ9 = σ ∧ E = xIAE ∧ ¬ okI 8 x) := by
  refine MXV_of hst (cc := cX10_needRow) (maxL := 1) (by decide) rfl (Nat.le_of_ble_eq_true rfl) ?_
  intro p e s m args below meth c A X hr hlk
  have X : CX p l s m args c w sA A cX10_needRow RX10 1 wsX10_needRow := X
  have C := X.1
  refine g_iload_n (pc9 := 1) C rfl 0 dX10_needRow_0 rfl rfl ?_
  refine g_if_lt (pc9 := 4) C rfl 10 dX10_needRow_1 rfl (fun c_1 => ?_) (fun c_1 => ?_)
  · exact g_throwW X hlk (cls := "java/lang/IllegalArgumentException") (text := "no such row") dX10_needRow_10 dX10_needRow_13 dX10_needRow_14 dX10_needRow_17 dX10_needRow_20 (by decide) (by decide +kernel) (by decide +kernel) (by decide +kernel) (by decide +kernel) (by decide +kernel) (by decide +kernel) (by decide) (Nat.le_of_ble_eq_true rfl) (by decide) (by decide) (by decide) (by decide) ⟨rfl, rfl, by first | exact okI_neg (by decide) (by assumption) | exact okI_big (by decide) (by assumption)⟩
  · refine g_iload_n (pc9 := 5) C rfl 0 dX10_needRow_4 rfl rfl ?_
    refine g_bipush (pc9 := 7) C rfl (nI (8)) dX10_needRow_5 rfl ?_
    refine g_icmp_lt (pc9 := 10) C rfl 21 dX10_needRow_7 rfl (fun c_2 => ?_) (fun c_2 => ?_)
    · exact g_xi (by decide) (by decide) (g_return C hr hlk dX10_needRow_21 ⟨rfl, okI_of (by decide) (by assumption) (by assumption)⟩)
    · exact g_throwW X hlk (cls := "java/lang/IllegalArgumentException") (text := "no such row") dX10_needRow_10 dX10_needRow_13 dX10_needRow_14 dX10_needRow_17 dX10_needRow_20 (by decide) (by decide +kernel) (by decide +kernel) (by decide +kernel) (by decide +kernel) (by decide +kernel) (by decide +kernel) (by decide) (Nat.le_of_ble_eq_true rfl) (by decide) (by decide) (by decide) (by decide) ⟨rfl, rfl, by first | exact okI_neg (by decide) (by assumption) | exact okI_big (by decide) (by assumption)⟩
abbrev okR (a b : Nat) (x : Int32) : Prop := ¬ x < nI a ∧ ¬ nI b < x
set_option maxRecDepth 100000 in
set_option maxHeartbeats 4000000 in
theorem m_X10_needKindSet (l : Launch) (hst : l.stackTraces = false) (w : Wd) (sA : Nat → Nat) (σ : St) (x : Int32) : MXV l yX10_needKindSet wsX10_needKindSet 6 1 w sA [.int (x)] (σ) (fun σ9 => σ9 = σ ∧ okR 1 4095 x) (fun E σ9 => σ9 = σ ∧ E = xIAE ∧ ¬ okR 1 4095 x) := by
  refine MXV_of hst (cc := cX10_needKindSet) (maxL := 1) (by decide) rfl (Nat.le_of_ble_eq_true rfl) ?_
  intro p e s m args below meth c A X hr hlk
  have X : CX p l s m args c w sA A cX10_needKindSet RX10 1 wsX10_needKindSet := X
  have C := X.1
  refine g_iload_n (pc9 := 1) C rfl 0 dX10_needKindSet_0 rfl rfl ?_
  refine g_iconst (pc9 := 2) C rfl (nI (1)) dX10_needKindSet_1 rfl ?_
  refine g_icmp_lt (pc9 := 5) C rfl 12 dX10_needKindSet_2 rfl (fun c_1 => ?_) (fun c_1 => ?_)
  · exact g_throwW X hlk (cls := "java/lang/IllegalArgumentException") (text := "no set of kinds, or an empty one") dX10_needKindSet_12 dX10_needKindSet_15 dX10_needKindSet_16 dX10_needKindSet_19 dX10_needKindSet_22 (by decide) (by decide +kernel) (by decide +kernel) (by decide +kernel) (by decide +kernel) (by decide +kernel) (by decide +kernel) (by decide) (Nat.le_of_ble_eq_true rfl) (by decide) (by decide) (by decide) (by decide) ⟨rfl, rfl, fun h => by first | exact h.1 (by assumption) | exact h.2 (Int32.not_le.mp (by assumption))⟩
  · refine g_iload_n (pc9 := 6) C rfl 0 dX10_needKindSet_5 rfl rfl ?_
    refine g_sipush (pc9 := 9) C rfl (nI (4095)) dX10_needKindSet_6 rfl ?_
    refine g_icmp_le (pc9 := 12) C rfl 23 dX10_needKindSet_9 rfl (fun c_2 => ?_) (fun c_2 => ?_)
    · exact g_xi (by decide) (by decide) (g_return C hr hlk dX10_needKindSet_23 ⟨rfl, by assumption, Int32.not_lt.mpr (by assumption)⟩)
    · exact g_throwW X hlk (cls := "java/lang/IllegalArgumentException") (text := "no set of kinds, or an empty one") dX10_needKindSet_12 dX10_needKindSet_15 dX10_needKindSet_16 dX10_needKindSet_19 dX10_needKindSet_22 (by decide) (by decide +kernel) (by decide +kernel) (by decide +kernel) (by decide +kernel) (by decide +kernel) (by decide +kernel) (by decide) (Nat.le_of_ble_eq_true rfl) (by decide) (by decide) (by decide) (by decide) ⟨rfl, rfl, fun h => by first | exact h.1 (by assumption) | exact h.2 (Int32.not_le.mp (by assumption))⟩
set_option maxRecDepth 100000 in
set_option maxHeartbeats 4000000 in
theorem m_X10_needShelfSet (l : Launch) (hst : l.stackTraces = false) (w : Wd) (sA : Nat → Nat) (σ : St) (x : Int32) : MXV l yX10_needShelfSet wsX10_needShelfSet 6 1 w sA [.int (x)] (σ) (fun σ9 => σ9 = σ ∧ okR 1 255 x) (fun E σ9 => σ9 = σ ∧ E = xIAE ∧ ¬ okR 1 255 x) := by
  refine MXV_of hst (cc := cX10_needShelfSet) (maxL := 1) (by decide) rfl (Nat.le_of_ble_eq_true rfl) ?_
  intro p e s m args below meth c A X hr hlk
  have X : CX p l s m args c w sA A cX10_needShelfSet RX10 1 wsX10_needShelfSet := X
  have C := X.1
  refine g_iload_n (pc9 := 1) C rfl 0 dX10_needShelfSet_0 rfl rfl ?_
  refine g_iconst (pc9 := 2) C rfl (nI (1)) dX10_needShelfSet_1 rfl ?_
  refine g_icmp_lt (pc9 := 5) C rfl 12 dX10_needShelfSet_2 rfl (fun c_1 => ?_) (fun c_1 => ?_)
  · exact g_throwW X hlk (cls := "java/lang/IllegalArgumentException") (text := "no shelf, or one that there is not") dX10_needShelfSet_12 dX10_needShelfSet_15 dX10_needShelfSet_16 dX10_needShelfSet_19 dX10_needShelfSet_22 (by decide) (by decide +kernel) (by decide +kernel) (by decide +kernel) (by decide +kernel) (by decide +kernel) (by decide +kernel) (by decide) (Nat.le_of_ble_eq_true rfl) (by decide) (by decide) (by decide) (by decide) ⟨rfl, rfl, fun h => by first | exact h.1 (by assumption) | exact h.2 (Int32.not_le.mp (by assumption))⟩
  · refine g_iload_n (pc9 := 6) C rfl 0 dX10_needShelfSet_5 rfl rfl ?_
    refine g_sipush (pc9 := 9) C rfl (nI (255)) dX10_needShelfSet_6 rfl ?_
    refine g_icmp_le (pc9 := 12) C rfl 23 dX10_needShelfSet_9 rfl (fun c_2 => ?_) (fun c_2 => ?_)
    · exact g_xi (by decide) (by decide) (g_return C hr hlk dX10_needShelfSet_23 ⟨rfl, by assumption, Int32.not_lt.mpr (by assumption)⟩)
    · exact g_throwW X hlk (cls := "java/lang/IllegalArgumentException") (text := "no shelf, or one that there is not") dX10_needShelfSet_12 dX10_needShelfSet_15 dX10_needShelfSet_16 dX10_needShelfSet_19 dX10_needShelfSet_22 (by decide) (by decide +kernel) (by decide +kernel) (by decide +kernel) (by decide +kernel) (by decide +kernel) (by decide +kernel) (by decide) (Nat.le_of_ble_eq_true rfl) (by decide) (by decide) (by decide) (by decide) ⟨rfl, rfl, fun h => by first | exact h.1 (by assumption) | exact h.2 (Int32.not_le.mp (by assumption))⟩
set_option maxRecDepth 100000 in
set_option maxHeartbeats 4000000 in
theorem m_X10_treeOn (l : Launch) (hst : l.stackTraces = false) (w : Wd) (sA : Nat → Nat) (σ : St) (i : Nat) (hi : i < 8) (ht : tS σ i < 9) : MXR l yX10_treeOn wsX10_treeOn 6 1 w sA [.ref (w.1 (31)), .int (nI (i))] (σ) (fun q => q.2 = σ ∧ q.1 = 64 + 5 * tS σ i ∧ ¬ tN σ (tS σ i) = 0) (fun E σ9 => σ9 = σ ∧ E = xISE ∧ tN σ (tS σ i) = 0) := by
  refine MXR_of hst (cc := cX10_treeOn) (maxL := 3) (ret := (.object "LineageBench$Tree")) (by decide) rfl (Nat.le_of_ble_eq_true rfl) ?_
  intro p e s m args below meth c A X hr hlk
  have X : CX p l s m args c w sA A cX10_treeOn RX10 3 wsX10_treeOn := X
  have C := X.1
  have hin_10 : ∀ u ∈ wsX100, u ∈ wsX10_treeOn := by decide +kernel
  have hl_32 : Cond.fieldLink RX10 32 "LineageBench" "trees" "[LLineageBench$Tree;" ∈ wsX10_treeOn := by decide +kernel
  refine g_aload_n (pc9 := 1) C rfl 0 dX10_treeOn_0 rfl rfl ?_
  refine g_get (v := .ref (w.1 (40))) (pc9 := 4) C rfl (31) 3 dX10_treeOn_1 (by decide) (ce_31 w (σ)) hin_10 hl_32 rfl (by decide) rfl rfl ?_
  refine g_iload_n (pc9 := 5) C rfl 1 dX10_treeOn_4 rfl rfl ?_
  refine g_aald (pc9 := 6) C rfl (i) dX10_treeOn_5 rfl (by omega) ?_
  refine g_astore_n (pc9 := 7) C rfl [(2, .ref (w.1 (64 + 5 * (tS σ (i))))), (0, .ref (w.1 (31))), (1, .int (nI (i)))] dX10_treeOn_6 rfl (by decide) rfl ?_
  refine g_aload_n (pc9 := 8) C rfl 0 dX10_treeOn_7 rfl rfl ?_
  refine g_callVi (nn := 0) (rest := []) (pc9 := 11) C rfl (64 + 5 * (tS σ (i))) [] rfl dX10_treeOn_8 (m_X7_isNone l w σ (tS σ i) ht) gX10_treeOn_X7_isNone (by omega) (ce_tree w (σ) ((tS σ (i)))) rfl rfl rfl rfl rfl (by decide +kernel) ⟨by decide, by decide⟩ rfl (Nat.le_of_ble_eq_true rfl) ⟨by decide, by decide⟩ (fun r_1 σ_1 q_1 => ?_)
  obtain ⟨qs_1, qr_1⟩ := q_1
  rw [qs_1, qr_1]
  clear qs_1 qr_1
  refine g_if_eq (pc9 := 14) C rfl 25 dX10_treeOn_11 rfl (fun c_2 => ?_) (fun c_2 => ?_)
  · have hz : ¬ tN σ (tS σ i) = 0 := fun h => by rw [if_pos h] at c_2; exact absurd c_2 (by decide)
    refine g_aload_n (pc9 := 26) C rfl 0 dX10_treeOn_25 rfl rfl ?_
    exact g_xi (by decide) (by decide) (g_areturn C hr hlk dX10_treeOn_26 ⟨rfl, rfl, hz⟩)
  · have hz : tN σ (tS σ i) = 0 := Classical.byContradiction (fun h => c_2 (if_neg h))
    exact g_throwW X hlk (cls := "java/lang/IllegalStateException") (text := "the shelf has no tree") dX10_treeOn_14 dX10_treeOn_17 dX10_treeOn_18 dX10_treeOn_21 dX10_treeOn_24 (by decide) (by decide +kernel) (by decide +kernel) (by decide +kernel) (by decide +kernel) (by decide +kernel) (by decide +kernel) (by decide) (Nat.le_of_ble_eq_true rfl) (by decide) (by decide) (by decide) (by decide) ⟨rfl, rfl, hz⟩
/-- the tree on shelf i is there, and plain -/
abbrev plP (σ : St) (t : Nat) : Prop := tL σ t = bC (if tN σ t = 0 then 0 else tC σ t 0)
abbrev okP (σ : St) (i : Nat) : Prop := ¬ tN σ (tS σ i) = 0 ∧ plP σ (tS σ i)
set_option maxRecDepth 100000 in
set_option maxHeartbeats 4000000 in
theorem m_X10_plainTreeOn (l : Launch) (hst : l.stackTraces = false) (w : Wd) (sA : Nat → Nat) (σ : St) (i : Nat) (hi : i < 8) (ht : tS σ i < 9) : MXR l yX10_plainTreeOn wsX10_plainTreeOn 7 2 w sA [.ref (w.1 (31)), .int (nI (i))] (σ) (fun q => q.2 = σ ∧ q.1 = 64 + 5 * tS σ i ∧ okP σ i) (fun E σ9 => σ9 = σ ∧ E = xISE ∧ ¬ okP σ i) := by
  refine MXR_of hst (cc := cX10_plainTreeOn) (maxL := 3) (ret := (.object "LineageBench$Tree")) (by decide) rfl (Nat.le_of_ble_eq_true rfl) ?_
  intro p e s m args below meth c A X hr hlk
  have X : CX p l s m args c w sA A cX10_plainTreeOn RX10 3 wsX10_plainTreeOn := X
  have C := X.1
  refine g_aload_n (pc9 := 1) C rfl 0 dX10_plainTreeOn_0 rfl rfl ?_
  refine g_iload_n (pc9 := 2) C rfl 1 dX10_plainTreeOn_1 rfl rfl ?_
  refine x_callVr (rest := []) X hlk (pc9 := 5) rfl (31) [.int (nI (i))] (nn := 1) rfl dX10_plainTreeOn_2 (m_X10_treeOn l hst w sA σ i hi ht) gX10_plainTreeOn_X10_treeOn (by decide) (ce_31 w (σ)) rfl rfl rfl (by decide +kernel) ⟨by decide, by decide⟩ rfl (Nat.le_of_ble_eq_true rfl) ⟨by decide, by decide⟩ ⟨by decide, by decide⟩ (fun E σ9 h => ⟨h.1, h.2.1, fun q => q.1 h.2.2⟩) (fun r_1 σ_1 q_1 => ?_)
  obtain ⟨qs_1, qr_1, hnz⟩ := q_1
  replace qs_1 : σ_1 = σ := qs_1
  replace qr_1 : r_1 = 64 + 5 * tS σ i := qr_1
  rw [qs_1, qr_1]
  clear qs_1 qr_1
  refine g_astore_n (pc9 := 6) C rfl [(2, .ref (w.1 (64 + 5 * (tS σ i)))), (0, .ref (w.1 (31))), (1, .int (nI (i)))] dX10_plainTreeOn_5 rfl (by decide) rfl ?_
  refine g_aload_n (pc9 := 7) C rfl 0 dX10_plainTreeOn_6 rfl rfl ?_
  refine g_callVi (nn := 0) (rest := []) (pc9 := 10) C rfl (64 + 5 * (tS σ i)) [] rfl dX10_plainTreeOn_7 (m_X7_isPlain l w σ (tS σ i) ht) gX10_plainTreeOn_X7_isPlain (by omega) (ce_tree w (σ) ((tS σ i))) rfl rfl rfl rfl rfl (by decide +kernel) ⟨by decide, by decide⟩ rfl (Nat.le_of_ble_eq_true rfl) ⟨by decide, by decide⟩ (fun r_2 σ_2 q_2 => ?_)
  obtain ⟨qs_2, qr_2⟩ := q_2
  rw [qs_2, qr_2]
  clear qs_2 qr_2
  refine g_if_ne (pc9 := 13) C rfl 24 dX10_plainTreeOn_10 rfl (fun c_3 => ?_) (fun c_3 => ?_)
  · have hp := pI_ye c_3
    refine g_aload_n (pc9 := 25) C rfl 0 dX10_plainTreeOn_24 rfl rfl ?_
    exact g_xi (by decide) (by decide) (g_areturn C hr hlk dX10_plainTreeOn_25 ⟨rfl, rfl, hnz, hp⟩)
  · have hp := pI_no c_3
    exact g_throwW X hlk (cls := "java/lang/IllegalStateException") (text := "the tree is not plain") dX10_plainTreeOn_13 dX10_plainTreeOn_16 dX10_plainTreeOn_17 dX10_plainTreeOn_20 dX10_plainTreeOn_23 (by decide) (by decide +kernel) (by decide +kernel) (by decide +kernel) (by decide +kernel) (by decide +kernel) (by decide +kernel) (by decide) (Nat.le_of_ble_eq_true rfl) (by decide) (by decide) (by decide) (by decide) ⟨rfl, rfl, fun q => hp q.2⟩
set_option maxRecDepth 100000 in
set_option maxHeartbeats 4000000 in
theorem m_X10_settle (l : Launch) (w : Wd) (σ : St) (i : Nat) (hi : i < 8) (h8 : tS σ 8 < 9) : MV l yX10_settle wsX10_settle (rmL 1) w [.ref (w.1 (31)), .int (nI (i))] (σ) (fun σ9 => σ9 = sT (sT σ i (tS σ 8)) 8 (tS σ i)) := by
  refine MV_of (cc := cX10_settle) (maxL := 3) (by decide) rfl (Nat.le_of_ble_eq_true rfl) ?_
  intro p e s m args below meth c A C hr hlk
  have C : Cx p s m args c w A cX10_settle RX10 3 wsX10_settle := C
  have hin_10 : ∀ u ∈ wsX100, u ∈ wsX10_settle := by decide +kernel
  have hl_32 : Cond.fieldLink RX10 32 "LineageBench" "trees" "[LLineageBench$Tree;" ∈ wsX10_settle := by decide +kernel
  have hl_83 : Cond.fieldLink RX10 83 "LineageBench" "spare" "LLineageBench$Tree;" ∈ wsX10_settle := by decide +kernel
  refine g_aload_n (pc9 := 1) C rfl 0 dX10_settle_0 rfl rfl ?_
  refine g_get (v := .ref (w.1 (40))) (pc9 := 4) C rfl (31) 3 dX10_settle_1 (by decide) (ce_31 w (σ)) hin_10 hl_32 rfl (by decide) rfl rfl ?_
  refine g_iload_n (pc9 := 5) C rfl 1 dX10_settle_4 rfl rfl ?_
  refine g_aald (pc9 := 6) C rfl (i) dX10_settle_5 rfl (by omega) ?_
  refine g_astore_n (pc9 := 7) C rfl [(2, .ref (w.1 (64 + 5 * (tS σ (i))))), (0, .ref (w.1 (31))), (1, .int (nI (i)))] dX10_settle_6 rfl (by decide) rfl ?_
  refine g_aload_n (pc9 := 8) C rfl 1 dX10_settle_7 rfl rfl ?_
  refine g_get (v := .ref (w.1 (40))) (pc9 := 11) C rfl (31) 3 dX10_settle_8 (by decide) (ce_31 w (σ)) hin_10 hl_32 rfl (by decide) rfl rfl ?_
  refine g_iload_n (pc9 := 12) C rfl 2 dX10_settle_11 rfl rfl ?_
  refine g_aload_n (pc9 := 13) C rfl 1 dX10_settle_12 rfl rfl ?_
  refine g_get (v := .ref (w.1 (64 + 5 * (tS σ 8)))) (pc9 := 16) C rfl (31) 11 dX10_settle_13 (by decide) (ce_31 w (σ)) hin_10 hl_83 rfl (by decide) rfl rfl ?_
  refine g_aast (pc9 := 17) C rfl (i) ((tS σ 8)) dX10_settle_16 rfl (by omega) h8 ?_
  refine g_aload_n (pc9 := 18) C rfl 1 dX10_settle_17 rfl rfl ?_
  refine g_aload_n (pc9 := 19) C rfl 0 dX10_settle_18 rfl rfl ?_
  refine g_putT (pc9 := 22) C rfl ((tS σ (i))) dX10_settle_19 hin_10 hl_83 ?_
  exact g_return C hr hlk dX10_settle_22 rfl

/-! Writer: putting bytes -/
abbrev WB : Type := Nat × (Nat → Int32)
def pb (B : WB) (x : Int32) : WB := if B.1 < 94 then (B.1 + 1, upd B.2 B.1 x) else B
theorem pb_le {B : WB} {x : Int32} (h : B.1 ≤ 94) : (pb B x).1 ≤ 94 := by unfold pb; split <;> ((try dsimp only); omega)
abbrev wbS (σ : St) (B : WB) : St := sN (sI σ 37 B.2) 36 1 (nI B.1)
def pnL (rec : Nat → WB → WB) (nx : Nat → Int32) : Nat → Nat → Int32 → WB → WB
  | 0, _, _, B => B
  | k + 1, t, a, B => if a = -1 then B else pnL rec nx k (t + 1) (nx a.toNatClampNeg) (rec a.toNatClampNeg (pb B (if t = 0 then nI 40 else nI 44)))
def pnT (K fc nx : Nat → Int32) : Nat → Nat → WB → WB
  | 0, v, B => if K v = -1 then B else pb B (nI 97 + K v)
  | d + 1, v, B => if K v = -1 then pb (pnL (pnT K fc nx d) nx 47 0 (fc v) B) (nI 41) else pb B (nI 97 + K v)
theorem pnL_s {rec : Nat → WB → WB} {nx : Nat → Int32} {t : Nat} {a : Int32} {B : WB} (h : t < 47) : pnL rec nx (47 - t) t a B = if a = -1 then B else pnL rec nx (47 - (t + 1)) (t + 1) (nx a.toNatClampNeg) (rec a.toNatClampNeg (pb B (if t = 0 then nI 40 else nI 44))) := by
  rw [show 47 - t = (47 - (t + 1)) + 1 by omega]
  rfl
theorem pnL_le {rec : Nat → WB → WB} {nx : Nat → Int32} (hr : ∀ v B, B.1 ≤ 94 → (rec v B).1 ≤ 94) : ∀ (k t : Nat) (a : Int32) (B : WB), B.1 ≤ 94 → (pnL rec nx k t a B).1 ≤ 94 := by
  intro k
  induction k with
  | zero => intro t a B h; exact h
  | succ k ih =>
    intro t a B h
    show (if a = -1 then B else pnL rec nx k (t + 1) (nx a.toNatClampNeg) (rec a.toNatClampNeg (pb B (if t = 0 then nI 40 else nI 44)))).1 ≤ 94
    split
    · exact h
    · exact ih _ _ _ (hr _ _ (pb_le h))
theorem pnT_le {K fc nx : Nat → Int32} : ∀ (d v : Nat) (B : WB), B.1 ≤ 94 → (pnT K fc nx d v B).1 ≤ 94 := by
  intro d
  induction d with
  | zero => intro v B h; unfold pnT; split; exact h; exact pb_le h
  | succ d ih => intro v B h; unfold pnT; split; exact pb_le (pnL_le ih _ _ _ _ h); exact pb_le h
set_option maxRecDepth 100000 in
set_option maxHeartbeats 4000000 in
theorem m_X9_putByte (l : Launch) (w : Wd) (σ : St) (B : WB) (hB : B.1 ≤ 94) (x : Int32) : MV l yX9_putByte wsX9_putByte (rmL 1) w [.ref (w.1 (36)), .int (x)] (sN (sI σ (37) ((B).2)) (36) 1 (nI ((B).1))) (fun σ9 => σ9 = wbS σ (pb B x)) := by
  refine MV_of (cc := cX9_putByte) (maxL := 2) (by decide) rfl (Nat.le_of_ble_eq_true rfl) ?_
  intro p e s m args below meth c A C hr hlk
  have C : Cx p s m args c w A cX9_putByte RX9 2 wsX9_putByte := C
  have hin_9 : ∀ u ∈ wsX90, u ∈ wsX9_putByte := by decide +kernel
  have hl_9 : Cond.fieldLink RX9 9 "LineageBench$Writer" "bytes" "[I" ∈ wsX9_putByte := by decide +kernel
  have hl_25 : Cond.fieldLink RX9 25 "LineageBench$Writer" "length" "I" ∈ wsX9_putByte := by decide +kernel
  refine g_aload_n (pc9 := 1) C rfl 0 dX9_putByte_0 rfl rfl ?_
  refine g_get (v := .int (nI ((B).1))) (pc9 := 4) C rfl (36) 1 dX9_putByte_1 (by decide) (ce_36 w (sN (sI σ (37) ((B).2)) (36) 1 (nI ((B).1)))) hin_9 hl_25 rfl (by decide) rfl (congrArg (fun z => some (Value.int z)) (nF_s)) ?_
  refine g_bipush (pc9 := 6) C rfl (nI (94)) dX9_putByte_4 rfl ?_
  refine g_icmp_ge (pc9 := 9) C rfl 29 dX9_putByte_6 rfl (fun c_1 => ?_) (fun c_1 => ?_)
  · replace c_1 := (nI_leI (by omega) (by omega)).mp c_1
    have hq : pb B x = B := if_neg (by omega)
    exact g_return C hr hlk dX9_putByte_29 (by rw [hq])
  · replace c_1 := (not_congr (nI_leI (by omega) (by omega))).mp c_1
    have hq : pb B x = (B.1 + 1, upd B.2 B.1 x) := if_pos (by omega)
    refine g_aload_n (pc9 := 10) C rfl 0 dX9_putByte_9 rfl rfl ?_
    refine g_get (v := .ref (w.1 (37))) (pc9 := 13) C rfl (36) 0 dX9_putByte_10 (by decide) (ce_36 w (sN (sI σ (37) ((B).2)) (36) 1 (nI ((B).1)))) hin_9 hl_9 rfl (by decide) rfl rfl ?_
    refine g_aload_n (pc9 := 14) C rfl 0 dX9_putByte_13 rfl rfl ?_
    refine g_get (v := .int (nI ((B).1))) (pc9 := 17) C rfl (36) 1 dX9_putByte_14 (by decide) (ce_36 w (sN (sI σ (37) ((B).2)) (36) 1 (nI ((B).1)))) hin_9 hl_25 rfl (by decide) rfl (congrArg (fun z => some (Value.int z)) (nF_s)) ?_
    refine g_iload_n (pc9 := 18) C rfl 1 dX9_putByte_17 rfl rfl ?_
    refine g_iast (pc9 := 19) C rfl (37) ((B).1) ((B).2) dX9_putByte_18 (by decide) (fun _ => rfl) (ce_37 w (sN (sI σ (37) ((B).2)) (36) 1 (nI ((B).1)))) rfl (by omega) (by decide) ((iA_N).trans (iA_s)) ?_
    rw [sI_sN (a := 36) (k := 1) (b := 37), sI_sI (a := 37)]
    refine g_aload_n (pc9 := 20) C rfl 0 dX9_putByte_19 rfl rfl ?_
    refine g_dup (pc9 := 21) C rfl dX9_putByte_20 rfl ?_
    refine g_get (v := .int (nI ((B).1))) (pc9 := 24) C rfl (36) 1 dX9_putByte_21 (by decide) (ce_36 w (sN (sI σ (37) (upd ((B).2) ((B).1) (x))) (36) 1 (nI ((B).1)))) hin_9 hl_25 rfl (by decide) rfl (congrArg (fun z => some (Value.int z)) (nF_s)) ?_
    refine g_iconst (pc9 := 25) C rfl (nI (1)) dX9_putByte_24 rfl ?_
    refine g_iaddN (pc9 := 26) C rfl dX9_putByte_25 ?_
    refine g_put (pc9 := 29) C rfl (36) 1 dX9_putByte_26 (by decide) (ce_36 w (sN (sI σ (37) (upd ((B).2) ((B).1) (x))) (36) 1 (nI ((B).1)))) (rfl) hin_9 hl_25 tyX9 tyX9_ok nmX9 rfl (by decide) rfl rfl rfl (Nat.le_of_ble_eq_true rfl) ?_
    rw [sN_sN]
    exact g_return C hr hlk dX9_putByte_29 (by rw [hq])
set_option maxRecDepth 100000 in
set_option maxHeartbeats 4000000 in
theorem m_X9_putNode (l : Launch) (w : Wd) (σ : St) (j : Nat) (hj : j < 9) (hf : ∀ x, x < 47 → ix 47 (iA σ 38 x)) (hg : ∀ x, x < 47 → ix 47 (iA σ 39 x)) : ∀ (d v : Nat) (hv : v < 47) (B : WB) (hB : B.1 ≤ 94) (e9 : Nat) (he : e9 + d = 24), MV l yX9_putNode wsX9_putNode (rmL (d + 2)) w [.ref (w.1 36), .ref (w.1 (64 + 5 * j)), .int (nI v), .int (nI e9)] (wbS σ B) (fun σ9 => σ9 = wbS σ (pnT (tK σ j) (iA σ 38) (iA σ 39) (d) v B)) := by
  intro d
  induction d with
  | zero =>
    intro v hv B hB e9 he
    refine MV_of (cc := cX9_putNode) (maxL := 6) (by decide) rfl (Nat.le_of_ble_eq_true rfl) ?_
    intro p e s m args below meth c A C hr hlk
    have C : Cx p s m args c w A cX9_putNode RX9 6 wsX9_putNode := C
    have hin_7 : ∀ u ∈ wsX70, u ∈ wsX9_putNode := by decide +kernel
    have hin_9 : ∀ u ∈ wsX90, u ∈ wsX9_putNode := by decide +kernel
    have hl_15 : Cond.fieldLink RX9 15 "LineageBench$Writer" "firstChild" "[I" ∈ wsX9_putNode := by decide +kernel
    have hl_18 : Cond.fieldLink RX9 18 "LineageBench$Writer" "nextChild" "[I" ∈ wsX9_putNode := by decide +kernel
    have hl_52 : Cond.fieldLink RX9 52 "LineageBench$Tree" "kind" "[I" ∈ wsX9_putNode := by decide +kernel
    refine g_aload_n (pc9 := 1) C rfl 1 dX9_putNode_0 rfl rfl ?_
    refine g_get (v := .ref (w.1 (66 + 5 * j))) (pc9 := 4) C rfl (64 + 5 * j) 1 dX9_putNode_1 (by omega) (ce_tree w (sN (sI σ (37) ((B).2)) (36) 1 (nI ((B).1))) (j)) hin_7 hl_52 rfl (by decide) rfl rfl ?_
    refine g_iload_n (pc9 := 5) C rfl 2 dX9_putNode_4 rfl rfl ?_
    refine g_iald (x := (iA σ (66 + 5 * j)) (v)) (pc9 := 6) C rfl (66 + 5 * j) (v) dX9_putNode_5 (by omega) (ce_kind w (sN (sI σ (37) ((B).2)) (36) 1 (nI ((B).1))) (j)) rfl (by omega) (by decide) (congrFun ((iA_N).trans (iA_n (by omega))) _) ?_
    refine g_iconst (pc9 := 7) C rfl ((-1)) dX9_putNode_6 rfl ?_
    refine g_icmp_eq (pc9 := 10) C rfl 24 dX9_putNode_7 rfl (fun c_1 => ?_) (fun c_1 => ?_)
    · have hk := c_1
      refine g_iload_n (pc9 := 25) C rfl 3 dX9_putNode_24 rfl rfl ?_
      refine g_bipush (pc9 := 27) C rfl (nI (23)) dX9_putNode_25 rfl ?_
      refine g_icmp_le (pc9 := 30) C rfl 31 dX9_putNode_27 rfl (fun c_2 => ?_) (fun c_2 => ?_)
      · replace c_2 := (nI_leI (by omega) (by omega)).mp c_2
        exact absurd he (by omega)
      · replace c_2 := (not_congr (nI_leI (by omega) (by omega))).mp c_2
        exact g_return C hr hlk dX9_putNode_30 (by unfold pnT; first | (rw [if_neg hk]; done) | (rw [if_pos hk]; done))
    · have hk := c_1
      refine g_aload_n (pc9 := 11) C rfl 0 dX9_putNode_10 rfl rfl ?_
      refine g_bipush (pc9 := 13) C rfl (nI (97)) dX9_putNode_11 rfl ?_
      refine g_aload_n (pc9 := 14) C rfl 1 dX9_putNode_13 rfl rfl ?_
      refine g_get (v := .ref (w.1 (66 + 5 * j))) (pc9 := 17) C rfl (64 + 5 * j) 1 dX9_putNode_14 (by omega) (ce_tree w (sN (sI σ (37) ((B).2)) (36) 1 (nI ((B).1))) (j)) hin_7 hl_52 rfl (by decide) rfl rfl ?_
      refine g_iload_n (pc9 := 18) C rfl 2 dX9_putNode_17 rfl rfl ?_
      refine g_iald (x := (iA σ (66 + 5 * j)) (v)) (pc9 := 19) C rfl (66 + 5 * j) (v) dX9_putNode_18 (by omega) (ce_kind w (sN (sI σ (37) ((B).2)) (36) 1 (nI ((B).1))) (j)) rfl (by omega) (by decide) (congrFun ((iA_N).trans (iA_n (by omega))) _) ?_
      refine g_iadd (pc9 := 20) C rfl dX9_putNode_19 ?_
      refine g_callVv (nn := 1) (rest := []) (pc9 := 23) C rfl (36) [.int ((nI (97)) + ((iA σ (66 + 5 * j)) (v)))] rfl dX9_putNode_20 (m_X9_putByte l w σ (B) hB ((nI (97)) + ((iA σ (66 + 5 * j)) (v)))) gX9_putNode_X9_putByte (by decide) (ce_36 w (sN (sI σ (37) ((B).2)) (36) 1 (nI ((B).1)))) rfl rfl rfl rfl rfl (by decide +kernel) ⟨by simp only [rmL]; omega, by simp only [rmL]; omega⟩ rfl (Nat.le_of_ble_eq_true rfl) ⟨Nat.le_refl _, Nat.le_refl _⟩ (fun σ_3 q_3 => ?_)
      replace q_3 : σ_3 = sN (sI σ (37) ((pb (B) ((nI (97)) + ((iA σ (66 + 5 * j)) (v)))).2)) (36) 1 (nI ((pb (B) ((nI (97)) + ((iA σ (66 + 5 * j)) (v)))).1)) := q_3
      rw [q_3]
      clear q_3
      exact g_return C hr hlk dX9_putNode_23 (by unfold pnT; first | (rw [if_neg hk]; done) | (rw [if_pos hk]; done))
  | succ d ih =>
    intro v hv B hB e9 he
    refine MV_of (cc := cX9_putNode) (maxL := 6) (by decide) rfl (Nat.le_of_ble_eq_true rfl) ?_
    intro p e s m args below meth c A C hr hlk
    have C : Cx p s m args c w A cX9_putNode RX9 6 wsX9_putNode := C
    have hin_7 : ∀ u ∈ wsX70, u ∈ wsX9_putNode := by decide +kernel
    have hin_9 : ∀ u ∈ wsX90, u ∈ wsX9_putNode := by decide +kernel
    have hl_15 : Cond.fieldLink RX9 15 "LineageBench$Writer" "firstChild" "[I" ∈ wsX9_putNode := by decide +kernel
    have hl_18 : Cond.fieldLink RX9 18 "LineageBench$Writer" "nextChild" "[I" ∈ wsX9_putNode := by decide +kernel
    have hl_52 : Cond.fieldLink RX9 52 "LineageBench$Tree" "kind" "[I" ∈ wsX9_putNode := by decide +kernel
    refine g_aload_n (pc9 := 1) C rfl 1 dX9_putNode_0 rfl rfl ?_
    refine g_get (v := .ref (w.1 (66 + 5 * j))) (pc9 := 4) C rfl (64 + 5 * j) 1 dX9_putNode_1 (by omega) (ce_tree w (sN (sI σ (37) ((B).2)) (36) 1 (nI ((B).1))) (j)) hin_7 hl_52 rfl (by decide) rfl rfl ?_
    refine g_iload_n (pc9 := 5) C rfl 2 dX9_putNode_4 rfl rfl ?_
    refine g_iald (x := (iA σ (66 + 5 * j)) (v)) (pc9 := 6) C rfl (66 + 5 * j) (v) dX9_putNode_5 (by omega) (ce_kind w (sN (sI σ (37) ((B).2)) (36) 1 (nI ((B).1))) (j)) rfl (by omega) (by decide) (congrFun ((iA_N).trans (iA_n (by omega))) _) ?_
    refine g_iconst (pc9 := 7) C rfl ((-1)) dX9_putNode_6 rfl ?_
    refine g_icmp_eq (pc9 := 10) C rfl 24 dX9_putNode_7 rfl (fun c_4 => ?_) (fun c_4 => ?_)
    · have hk := c_4
      refine g_iload_n (pc9 := 25) C rfl 3 dX9_putNode_24 rfl rfl ?_
      refine g_bipush (pc9 := 27) C rfl (nI (23)) dX9_putNode_25 rfl ?_
      refine g_icmp_le (pc9 := 30) C rfl 31 dX9_putNode_27 rfl (fun c_5 => ?_) (fun c_5 => ?_)
      · replace c_5 := (nI_leI (by omega) (by omega)).mp c_5
        refine g_aload_n (pc9 := 32) C rfl 0 dX9_putNode_31 rfl rfl ?_
        refine g_get (v := .ref (w.1 (38))) (pc9 := 35) C rfl (36) 2 dX9_putNode_32 (by decide) (ce_36 w (sN (sI σ (37) ((B).2)) (36) 1 (nI ((B).1)))) hin_9 hl_15 rfl (by decide) rfl rfl ?_
        refine g_iload_n (pc9 := 36) C rfl 2 dX9_putNode_35 rfl rfl ?_
        refine g_iald (x := (iA σ (38)) (v)) (pc9 := 37) C rfl (38) (v) dX9_putNode_36 (by decide) (ce_38 w (sN (sI σ (37) ((B).2)) (36) 1 (nI ((B).1)))) rfl (by omega) (by decide) (congrFun ((iA_N).trans (iA_n (by decide))) _) ?_
        refine g_istore (pc9 := 39) C rfl [(4, .int ((iA σ (38)) (v))), (0, .ref (w.1 (36))), (1, .ref (w.1 (64 + 5 * j))), (2, .int (nI (v))), (3, .int (nI (e9)))] dX9_putNode_37 (by decide) rfl ?_
        refine g_iconst (pc9 := 40) C rfl (nI (0)) dX9_putNode_39 rfl ?_
        refine g_istore (pc9 := 42) C rfl [(5, .int (nI (0))), (4, .int ((iA σ (38)) (v))), (0, .ref (w.1 (36))), (1, .ref (w.1 (64 + 5 * j))), (2, .int (nI (v))), (3, .int (nI (e9)))] dX9_putNode_40 (by decide) rfl ?_
        refine g_sub [0, 1, 2, 3, 4, 5] [(5, .int (nI (0))), (4, .int ((iA σ (38)) (v))), (0, .ref (w.1 (36))), (1, .ref (w.1 (64 + 5 * j))), (2, .int (nI (v))), (3, .int (nI (e9)))] rfl ?_
        refine g_lp3 (α := Nat) (β := Int32) (γ := WB) (fun t a E => t ≤ 47 ∧ ix 47 a ∧ E.1 ≤ 94 ∧ pnL (pnT (tK σ j) (iA σ 38) (iA σ 39) (d)) (iA σ 39) (47 - t) t a E = pnL (pnT (tK σ j) (iA σ 38) (iA σ 39) (d)) (iA σ 39) 47 0 (iA σ 38 v) B) (fun t a E => 47 - t) (fun t a E => G p l e _ s m args below meth c _ w A _ (sN (sI σ (37) ((E).2)) (36) 1 (nI ((E).1))) 0 0 42 [(5, .int (nI (t))), (4, .int (a)), (0, .ref (w.1 (36))), (1, .ref (w.1 (64 + 5 * j))), (2, .int (nI (v))), (3, .int (nI (e9)))] []) (fun t a E hI ih2 => ?_) (0) (iA σ 38 v) (B) ⟨Nat.zero_le _, hf v hv, hB, rfl⟩
        obtain ⟨ht, hxa, hE, hs⟩ := hI
        refine g_iload (pc9 := 44) C rfl 0 dX9_putNode_42 rfl ?_
        refine g_bipush (pc9 := 46) C rfl (nI (47)) dX9_putNode_44 rfl ?_
        refine g_icmp_ge (pc9 := 49) C rfl 96 dX9_putNode_46 rfl (fun c_6 => ?_) (fun c_6 => ?_)
        · replace c_6 := (nI_leI (by omega) (by omega)).mp c_6
          rw [show 47 - t = 0 by omega] at hs
          replace hs : E = _ := hs
          refine g_aload_n (pc9 := 97) C rfl 2 dX9_putNode_96 rfl rfl ?_
          refine g_bipush (pc9 := 99) C rfl (nI (41)) dX9_putNode_97 rfl ?_
          refine g_callVv (nn := 1) (rest := []) (pc9 := 102) C rfl (36) [.int (nI (41))] rfl dX9_putNode_99 (m_X9_putByte l w σ (E) hE (nI (41))) gX9_putNode_X9_putByte (by decide) (ce_36 w (sN (sI σ (37) ((E).2)) (36) 1 (nI ((E).1)))) rfl rfl rfl rfl rfl (by decide +kernel) ⟨by simp only [rmL]; omega, by simp only [rmL]; omega⟩ rfl (Nat.le_of_ble_eq_true rfl) ⟨Nat.le_refl _, Nat.le_refl _⟩ (fun σ_7 q_7 => ?_)
          replace q_7 : σ_7 = sN (sI σ (37) ((pb (E) (nI (41))).2)) (36) 1 (nI ((pb (E) (nI (41))).1)) := q_7
          rw [q_7]
          clear q_7
          exact g_return C hr hlk dX9_putNode_102 (by unfold pnT; rw [if_pos hk, ← hs])
        · replace c_6 := (not_congr (nI_leI (by omega) (by omega))).mp c_6
          refine g_iload (pc9 := 51) C rfl 1 dX9_putNode_49 rfl ?_
          refine g_iconst (pc9 := 52) C rfl ((-1)) dX9_putNode_51 rfl ?_
          refine g_icmp_eq (pc9 := 55) C rfl 96 dX9_putNode_52 rfl (fun c_8 => ?_) (fun c_8 => ?_)
          · rw [pnL_s (by omega), if_pos c_8] at hs
            refine g_aload_n (pc9 := 97) C rfl 2 dX9_putNode_96 rfl rfl ?_
            refine g_bipush (pc9 := 99) C rfl (nI (41)) dX9_putNode_97 rfl ?_
            refine g_callVv (nn := 1) (rest := []) (pc9 := 102) C rfl (36) [.int (nI (41))] rfl dX9_putNode_99 (m_X9_putByte l w σ (E) hE (nI (41))) gX9_putNode_X9_putByte (by decide) (ce_36 w (sN (sI σ (37) ((E).2)) (36) 1 (nI ((E).1)))) rfl rfl rfl rfl rfl (by decide +kernel) ⟨by simp only [rmL]; omega, by simp only [rmL]; omega⟩ rfl (Nat.le_of_ble_eq_true rfl) ⟨Nat.le_refl _, Nat.le_refl _⟩ (fun σ_9 q_9 => ?_)
            replace q_9 : σ_9 = sN (sI σ (37) ((pb (E) (nI (41))).2)) (36) 1 (nI ((pb (E) (nI (41))).1)) := q_9
            rw [q_9]
            clear q_9
            exact g_return C hr hlk dX9_putNode_102 (by unfold pnT; rw [if_pos hk, ← hs])
          · have hna := c_8
            obtain ⟨a9, ha9, rfl⟩ := hxa.resolve_left hna
            rw [pnL_s (by omega), if_neg hna, nI_clamp (by omega)] at hs
            refine g_aload_n (pc9 := 56) C rfl 2 dX9_putNode_55 rfl rfl ?_
            refine g_iload (pc9 := 58) C rfl 0 dX9_putNode_56 rfl ?_
            refine g_if_ne (pc9 := 61) C rfl 66 dX9_putNode_58 rfl (fun c_10 => ?_) (fun c_10 => ?_)
            · replace c_10 := (not_congr (z_eq (by omega))).mp c_10
              have hz : (if t = 0 then nI 40 else nI 44) = nI 44 := if_neg c_10
              refine g_bipush (pc9 := 68) C rfl (nI (44)) dX9_putNode_66 rfl ?_
              refine g_ti (if t = 0 then nI 40 else nI 44) hz.symm ?_
              refine g_callVv (nn := 1) (rest := []) (pc9 := 71) C rfl (36) [.int (if t = 0 then nI 40 else nI 44)] rfl dX9_putNode_68 (m_X9_putByte l w σ E hE (if t = 0 then nI 40 else nI 44)) gX9_putNode_X9_putByte (by decide) (ce_36 w (sN (sI σ (37) ((E).2)) (36) 1 (nI ((E).1)))) rfl rfl rfl rfl rfl (by decide +kernel) ⟨by simp only [rmL]; omega, by simp only [rmL]; omega⟩ rfl (Nat.le_of_ble_eq_true rfl) ⟨Nat.le_refl _, Nat.le_refl _⟩ (fun σ_11 q_11 => ?_)
              replace q_11 : σ_11 = sN (sI σ (37) ((pb E (if t = 0 then nI 40 else nI 44)).2)) (36) 1 (nI ((pb E (if t = 0 then nI 40 else nI 44)).1)) := q_11
              rw [q_11]
              clear q_11
              refine g_aload_n (pc9 := 72) C rfl 2 dX9_putNode_71 rfl rfl ?_
              refine g_aload_n (pc9 := 73) C rfl 3 dX9_putNode_72 rfl rfl ?_
              refine g_iload (pc9 := 75) C rfl 1 dX9_putNode_73 rfl ?_
              refine g_iload_n (pc9 := 76) C rfl 5 dX9_putNode_75 rfl rfl ?_
              refine g_iconst (pc9 := 77) C rfl (nI (1)) dX9_putNode_76 rfl ?_
              refine g_iaddN (pc9 := 78) C rfl dX9_putNode_77 ?_
              refine g_callVv (nn := 3) (rest := []) (pc9 := 81) C rfl (36) [.ref (w.1 (64 + 5 * j)), .int (nI (a9)), .int (nI (e9 + 1))] rfl dX9_putNode_78 (ih a9 ha9 (pb E (if t = 0 then nI 40 else nI 44)) (pb_le hE) _ (by omega)) gX9_putNode_X9_putNode (by decide) (ce_36 w (sN (sI σ (37) ((pb E (if t = 0 then nI 40 else nI 44)).2)) (36) 1 (nI ((pb E (if t = 0 then nI 40 else nI 44)).1)))) rfl rfl rfl rfl rfl (by decide +kernel) ⟨by simp only [rmL]; omega, by simp only [rmL]; omega⟩ rfl (Nat.le_of_ble_eq_true rfl) ⟨Nat.le_refl _, Nat.le_refl _⟩ (fun σ_12 q_12 => ?_)
              replace q_12 : σ_12 = sN (sI σ (37) ((pnT (tK σ j) (iA σ 38) (iA σ 39) (d) a9 (pb E (if t = 0 then nI 40 else nI 44))).2)) (36) 1 (nI ((pnT (tK σ j) (iA σ 38) (iA σ 39) (d) a9 (pb E (if t = 0 then nI 40 else nI 44))).1)) := q_12
              rw [q_12]
              clear q_12
              refine g_aload_n (pc9 := 82) C rfl 2 dX9_putNode_81 rfl rfl ?_
              refine g_get (v := .ref (w.1 (39))) (pc9 := 85) C rfl (36) 3 dX9_putNode_82 (by decide) (ce_36 w (sN (sI σ (37) ((pnT (tK σ j) (iA σ 38) (iA σ 39) (d) a9 (pb E (if t = 0 then nI 40 else nI 44))).2)) (36) 1 (nI ((pnT (tK σ j) (iA σ 38) (iA σ 39) (d) a9 (pb E (if t = 0 then nI 40 else nI 44))).1)))) hin_9 hl_18 rfl (by decide) rfl rfl ?_
              refine g_iload (pc9 := 87) C rfl 1 dX9_putNode_85 rfl ?_
              refine g_iald (x := (iA σ (39)) (a9)) (pc9 := 88) C rfl (39) (a9) dX9_putNode_87 (by decide) (ce_39 w (sN (sI σ (37) ((pnT (tK σ j) (iA σ 38) (iA σ 39) (d) a9 (pb E (if t = 0 then nI 40 else nI 44))).2)) (36) 1 (nI ((pnT (tK σ j) (iA σ 38) (iA σ 39) (d) a9 (pb E (if t = 0 then nI 40 else nI 44))).1)))) rfl (by omega) (by decide) (congrFun ((iA_N).trans (iA_n (by decide))) _) ?_
              refine g_istore (pc9 := 90) C rfl [(4, .int ((iA σ (39)) (a9))), (5, .int (nI (t))), (0, .ref (w.1 (36))), (1, .ref (w.1 (64 + 5 * j))), (2, .int (nI (v))), (3, .int (nI (e9)))] dX9_putNode_88 (by decide) rfl ?_
              refine g_iinc (pc9 := 93) C rfl [(5, .int (nI (t + 1))), (4, .int ((iA σ (39)) (a9))), (0, .ref (w.1 (36))), (1, .ref (w.1 (64 + 5 * j))), (2, .int (nI (v))), (3, .int (nI (e9)))] 1 (nI (t + 1)) dX9_putNode_90 rfl (nI_1 (t)) (by decide) rfl ?_
              refine g_goto C 42 dX9_putNode_93 rfl ?_
              exact ih2 (t + 1) _ _ ⟨by omega, hg a9 ha9, pnT_le d a9 _ (pb_le hE), hs⟩ (by omega)
            · replace c_10 := (z_eq (by omega)).mp c_10
              have hz : (if t = 0 then nI 40 else nI 44) = nI 40 := if_pos c_10
              refine g_bipush (pc9 := 63) C rfl (nI (40)) dX9_putNode_61 rfl ?_
              refine g_goto C 68 dX9_putNode_63 rfl ?_
              refine g_ti (if t = 0 then nI 40 else nI 44) hz.symm ?_
              refine g_callVv (nn := 1) (rest := []) (pc9 := 71) C rfl (36) [.int (if t = 0 then nI 40 else nI 44)] rfl dX9_putNode_68 (m_X9_putByte l w σ E hE (if t = 0 then nI 40 else nI 44)) gX9_putNode_X9_putByte (by decide) (ce_36 w (sN (sI σ (37) ((E).2)) (36) 1 (nI ((E).1)))) rfl rfl rfl rfl rfl (by decide +kernel) ⟨by simp only [rmL]; omega, by simp only [rmL]; omega⟩ rfl (Nat.le_of_ble_eq_true rfl) ⟨Nat.le_refl _, Nat.le_refl _⟩ (fun σ_13 q_13 => ?_)
              replace q_13 : σ_13 = sN (sI σ (37) ((pb E (if t = 0 then nI 40 else nI 44)).2)) (36) 1 (nI ((pb E (if t = 0 then nI 40 else nI 44)).1)) := q_13
              rw [q_13]
              clear q_13
              refine g_aload_n (pc9 := 72) C rfl 2 dX9_putNode_71 rfl rfl ?_
              refine g_aload_n (pc9 := 73) C rfl 3 dX9_putNode_72 rfl rfl ?_
              refine g_iload (pc9 := 75) C rfl 1 dX9_putNode_73 rfl ?_
              refine g_iload_n (pc9 := 76) C rfl 5 dX9_putNode_75 rfl rfl ?_
              refine g_iconst (pc9 := 77) C rfl (nI (1)) dX9_putNode_76 rfl ?_
              refine g_iaddN (pc9 := 78) C rfl dX9_putNode_77 ?_
              refine g_callVv (nn := 3) (rest := []) (pc9 := 81) C rfl (36) [.ref (w.1 (64 + 5 * j)), .int (nI (a9)), .int (nI (e9 + 1))] rfl dX9_putNode_78 (ih a9 ha9 (pb E (if t = 0 then nI 40 else nI 44)) (pb_le hE) _ (by omega)) gX9_putNode_X9_putNode (by decide) (ce_36 w (sN (sI σ (37) ((pb E (if t = 0 then nI 40 else nI 44)).2)) (36) 1 (nI ((pb E (if t = 0 then nI 40 else nI 44)).1)))) rfl rfl rfl rfl rfl (by decide +kernel) ⟨by simp only [rmL]; omega, by simp only [rmL]; omega⟩ rfl (Nat.le_of_ble_eq_true rfl) ⟨Nat.le_refl _, Nat.le_refl _⟩ (fun σ_14 q_14 => ?_)
              replace q_14 : σ_14 = sN (sI σ (37) ((pnT (tK σ j) (iA σ 38) (iA σ 39) (d) a9 (pb E (if t = 0 then nI 40 else nI 44))).2)) (36) 1 (nI ((pnT (tK σ j) (iA σ 38) (iA σ 39) (d) a9 (pb E (if t = 0 then nI 40 else nI 44))).1)) := q_14
              rw [q_14]
              clear q_14
              refine g_aload_n (pc9 := 82) C rfl 2 dX9_putNode_81 rfl rfl ?_
              refine g_get (v := .ref (w.1 (39))) (pc9 := 85) C rfl (36) 3 dX9_putNode_82 (by decide) (ce_36 w (sN (sI σ (37) ((pnT (tK σ j) (iA σ 38) (iA σ 39) (d) a9 (pb E (if t = 0 then nI 40 else nI 44))).2)) (36) 1 (nI ((pnT (tK σ j) (iA σ 38) (iA σ 39) (d) a9 (pb E (if t = 0 then nI 40 else nI 44))).1)))) hin_9 hl_18 rfl (by decide) rfl rfl ?_
              refine g_iload (pc9 := 87) C rfl 1 dX9_putNode_85 rfl ?_
              refine g_iald (x := (iA σ (39)) (a9)) (pc9 := 88) C rfl (39) (a9) dX9_putNode_87 (by decide) (ce_39 w (sN (sI σ (37) ((pnT (tK σ j) (iA σ 38) (iA σ 39) (d) a9 (pb E (if t = 0 then nI 40 else nI 44))).2)) (36) 1 (nI ((pnT (tK σ j) (iA σ 38) (iA σ 39) (d) a9 (pb E (if t = 0 then nI 40 else nI 44))).1)))) rfl (by omega) (by decide) (congrFun ((iA_N).trans (iA_n (by decide))) _) ?_
              refine g_istore (pc9 := 90) C rfl [(4, .int ((iA σ (39)) (a9))), (5, .int (nI (t))), (0, .ref (w.1 (36))), (1, .ref (w.1 (64 + 5 * j))), (2, .int (nI (v))), (3, .int (nI (e9)))] dX9_putNode_88 (by decide) rfl ?_
              refine g_iinc (pc9 := 93) C rfl [(5, .int (nI (t + 1))), (4, .int ((iA σ (39)) (a9))), (0, .ref (w.1 (36))), (1, .ref (w.1 (64 + 5 * j))), (2, .int (nI (v))), (3, .int (nI (e9)))] 1 (nI (t + 1)) dX9_putNode_90 rfl (nI_1 (t)) (by decide) rfl ?_
              refine g_goto C 42 dX9_putNode_93 rfl ?_
              exact ih2 (t + 1) _ _ ⟨by omega, hg a9 ha9, pnT_le d a9 _ (pb_le hE), hs⟩ (by omega)
      · replace c_5 := (not_congr (nI_leI (by omega) (by omega))).mp c_5
        exact absurd he (by omega)
    · have hk := c_4
      refine g_aload_n (pc9 := 11) C rfl 0 dX9_putNode_10 rfl rfl ?_
      refine g_bipush (pc9 := 13) C rfl (nI (97)) dX9_putNode_11 rfl ?_
      refine g_aload_n (pc9 := 14) C rfl 1 dX9_putNode_13 rfl rfl ?_
      refine g_get (v := .ref (w.1 (66 + 5 * j))) (pc9 := 17) C rfl (64 + 5 * j) 1 dX9_putNode_14 (by omega) (ce_tree w (sN (sI σ (37) ((B).2)) (36) 1 (nI ((B).1))) (j)) hin_7 hl_52 rfl (by decide) rfl rfl ?_
      refine g_iload_n (pc9 := 18) C rfl 2 dX9_putNode_17 rfl rfl ?_
      refine g_iald (x := (iA σ (66 + 5 * j)) (v)) (pc9 := 19) C rfl (66 + 5 * j) (v) dX9_putNode_18 (by omega) (ce_kind w (sN (sI σ (37) ((B).2)) (36) 1 (nI ((B).1))) (j)) rfl (by omega) (by decide) (congrFun ((iA_N).trans (iA_n (by omega))) _) ?_
      refine g_iadd (pc9 := 20) C rfl dX9_putNode_19 ?_
      refine g_callVv (nn := 1) (rest := []) (pc9 := 23) C rfl (36) [.int ((nI (97)) + ((iA σ (66 + 5 * j)) (v)))] rfl dX9_putNode_20 (m_X9_putByte l w σ (B) hB ((nI (97)) + ((iA σ (66 + 5 * j)) (v)))) gX9_putNode_X9_putByte (by decide) (ce_36 w (sN (sI σ (37) ((B).2)) (36) 1 (nI ((B).1)))) rfl rfl rfl rfl rfl (by decide +kernel) ⟨by simp only [rmL]; omega, by simp only [rmL]; omega⟩ rfl (Nat.le_of_ble_eq_true rfl) ⟨Nat.le_refl _, Nat.le_refl _⟩ (fun σ_15 q_15 => ?_)
      replace q_15 : σ_15 = sN (sI σ (37) ((pb (B) ((nI (97)) + ((iA σ (66 + 5 * j)) (v)))).2)) (36) 1 (nI ((pb (B) ((nI (97)) + ((iA σ (66 + 5 * j)) (v)))).1)) := q_15
      rw [q_15]
      clear q_15
      exact g_return C hr hlk dX9_putNode_23 (by unfold pnT; rw [if_neg hk])
theorem inD_ix {K : Nat → Int32} {P : Nat → Nat} {n : Nat} (hP : ∀ v, 0 < v → v < n → P v < v) (h47 : n ≤ 47) : ∀ (v : Nat) (f g : Nat → Int32), v < n → (∀ u, u < 47 → ix 47 (f u)) → (∀ u, u < 47 → ix 47 (g u)) → (∀ u, u < 47 → ix 47 ((soD K P v f g).1 u)) ∧ ∀ u, u < 47 → ix 47 ((soD K P v f g).2 u) := by
  intro v
  induction v with
  | zero => intro f g _ hf hg; exact ⟨hf, hg⟩
  | succ v ih =>
    intro f g hv hf hg
    have := hP (v + 1) (by omega) hv
    exact ih _ _ (by omega) (inF_ix hf (by omega)) (inG_ix hf hg (by omega) (by omega))
set_option maxRecDepth 100000 in
set_option maxHeartbeats 4000000 in
theorem m_X9_compose (l : Launch) (w : Wd) (σ : St) (j : Nat) (hj : j < 9) (n : Nat) (hn : tN σ j = nI n) (h47 : n ≤ 47) (h0 : 0 < n) (P : Nat → Nat) (hP : ∀ v, 0 < v → v < n → tP σ j v = nI (P v) ∧ P v < v) (hf : ∀ u, u < 47 → ix 47 (iA σ 38 u)) (hg : ∀ u, u < 47 → ix 47 (iA σ 39 u)) : MV l yX9_compose wsX9_compose (rmL 28) w [.ref (w.1 (36)), .ref (w.1 (64 + 5 * j))] (σ) (fun σ9 => σ9 = wbS (sI (sI σ 38 (soR (tK σ j) P n (iA σ 38) (iA σ 39)).1) 39 (soR (tK σ j) P n (iA σ 38) (iA σ 39)).2) (pb (pnT (tK σ j) (soR (tK σ j) P n (iA σ 38) (iA σ 39)).1 (soR (tK σ j) P n (iA σ 38) (iA σ 39)).2 24 0 (0, iA σ 37)) (nI 59))) := by
  refine MV_of (cc := cX9_compose) (maxL := 2) (by decide) rfl (Nat.le_of_ble_eq_true rfl) ?_
  intro p e s m args below meth c A C hr hlk
  have C : Cx p s m args c w A cX9_compose RX9 2 wsX9_compose := C
  have hin_9 : ∀ u ∈ wsX90, u ∈ wsX9_compose := by decide +kernel
  have hl_25 : Cond.fieldLink RX9 25 "LineageBench$Writer" "length" "I" ∈ wsX9_compose := by decide +kernel
  have hix := inD_ix (K := tK σ j) (fun v h1 h2 => (hP v h1 h2).2) h47 (n - 1) _ _ (by omega) (filF_ix (n := n) hf) (filF_ix (n := n) hg)
  refine g_aload_n (pc9 := 1) C rfl 0 dX9_compose_0 rfl rfl ?_
  refine g_aload_n (pc9 := 2) C rfl 1 dX9_compose_1 rfl rfl ?_
  refine g_callVv (nn := 1) (rest := []) (pc9 := 5) C rfl (36) [.ref (w.1 (64 + 5 * j))] rfl dX9_compose_2 (m_X9_sortChildren l w σ j hj n hn h47 h0 P hP hf hg) gX9_compose_X9_sortChildren (by decide) (ce_36 w (σ)) rfl rfl rfl rfl rfl (by decide +kernel) ⟨by decide, by decide⟩ rfl (Nat.le_of_ble_eq_true rfl) ⟨by decide, by decide⟩ (fun σ_1 q_1 => ?_)
  replace q_1 : σ_1 = sI (sI σ (38) ((soR (tK σ j) P n (iA σ 38) (iA σ 39)).1)) (39) ((soR (tK σ j) P n (iA σ 38) (iA σ 39)).2) := q_1
  rw [q_1]
  clear q_1
  refine g_aload_n (pc9 := 6) C rfl 0 dX9_compose_5 rfl rfl ?_
  refine g_iconst (pc9 := 7) C rfl (nI (0)) dX9_compose_6 rfl ?_
  refine g_put (pc9 := 10) C rfl (36) 1 dX9_compose_7 (by decide) (ce_36 w (sI (sI σ (38) ((soR (tK σ j) P n (iA σ 38) (iA σ 39)).1)) (39) ((soR (tK σ j) P n (iA σ 38) (iA σ 39)).2))) (rfl) hin_9 hl_25 tyX9 tyX9_ok nmX9 rfl (by decide) rfl rfl rfl (Nat.le_of_ble_eq_true rfl) ?_
  refine g_st (σ9 := sN (sI (sI (sI σ (38) ((soR (tK σ j) P n (iA σ 38) (iA σ 39)).1)) (39) ((soR (tK σ j) P n (iA σ 38) (iA σ 39)).2)) (37) ((((0, iA σ 37) : WB)).2)) (36) 1 (nI ((((0, iA σ 37) : WB)).1))) (by rw [show iA σ 37 = iA (sI (sI σ (38) ((soR (tK σ j) P n (iA σ 38) (iA σ 39)).1)) (39) ((soR (tK σ j) P n (iA σ 38) (iA σ 39)).2)) 37 from rfl, sI_self]) ?_
  refine g_aload_n (pc9 := 11) C rfl 0 dX9_compose_10 rfl rfl ?_
  refine g_aload_n (pc9 := 12) C rfl 1 dX9_compose_11 rfl rfl ?_
  refine g_iconst (pc9 := 13) C rfl (nI (0)) dX9_compose_12 rfl ?_
  refine g_iconst (pc9 := 14) C rfl (nI (0)) dX9_compose_13 rfl ?_
  refine g_callVv (nn := 3) (rest := []) (pc9 := 17) C rfl (36) [.ref (w.1 (64 + 5 * j)), .int (nI (0)), .int (nI (0))] rfl dX9_compose_14 (m_X9_putNode l w (sI (sI σ (38) ((soR (tK σ j) P n (iA σ 38) (iA σ 39)).1)) (39) ((soR (tK σ j) P n (iA σ 38) (iA σ 39)).2)) j hj (by rw [show iA (sI (sI σ (38) ((soR (tK σ j) P n (iA σ 38) (iA σ 39)).1)) (39) ((soR (tK σ j) P n (iA σ 38) (iA σ 39)).2)) 38 = (soR (tK σ j) P n (iA σ 38) (iA σ 39)).1 from ((iA_n (by decide)).trans (iA_s))]; exact hix.1) (by rw [show iA (sI (sI σ (38) ((soR (tK σ j) P n (iA σ 38) (iA σ 39)).1)) (39) ((soR (tK σ j) P n (iA σ 38) (iA σ 39)).2)) 39 = (soR (tK σ j) P n (iA σ 38) (iA σ 39)).2 from (iA_s)]; exact hix.2) 24 0 (by omega) ((0, iA σ 37) : WB) (Nat.zero_le _) 0 rfl) gX9_compose_X9_putNode (by decide) (ce_36 w (sN (sI (sI (sI σ (38) ((soR (tK σ j) P n (iA σ 38) (iA σ 39)).1)) (39) ((soR (tK σ j) P n (iA σ 38) (iA σ 39)).2)) (37) ((((0, iA σ 37) : WB)).2)) (36) 1 (nI ((((0, iA σ 37) : WB)).1)))) rfl rfl rfl rfl rfl (by decide +kernel) ⟨by decide, by decide⟩ rfl (Nat.le_of_ble_eq_true rfl) ⟨by decide, by decide⟩ (fun σ_2 q_2 => ?_)
  rw [show tK (sI (sI σ (38) ((soR (tK σ j) P n (iA σ 38) (iA σ 39)).1)) (39) ((soR (tK σ j) P n (iA σ 38) (iA σ 39)).2)) j = tK σ j from ((iA_n (by omega)).trans (iA_n (by omega))), show iA (sI (sI σ (38) ((soR (tK σ j) P n (iA σ 38) (iA σ 39)).1)) (39) ((soR (tK σ j) P n (iA σ 38) (iA σ 39)).2)) 38 = (soR (tK σ j) P n (iA σ 38) (iA σ 39)).1 from ((iA_n (by decide)).trans (iA_s)), show iA (sI (sI σ (38) ((soR (tK σ j) P n (iA σ 38) (iA σ 39)).1)) (39) ((soR (tK σ j) P n (iA σ 38) (iA σ 39)).2)) 39 = (soR (tK σ j) P n (iA σ 38) (iA σ 39)).2 from (iA_s)] at q_2
  replace q_2 : σ_2 = sN (sI (sI (sI σ (38) ((soR (tK σ j) P n (iA σ 38) (iA σ 39)).1)) (39) ((soR (tK σ j) P n (iA σ 38) (iA σ 39)).2)) (37) ((pnT (tK σ j) (soR (tK σ j) P n (iA σ 38) (iA σ 39)).1 (soR (tK σ j) P n (iA σ 38) (iA σ 39)).2 24 0 ((0, iA σ 37) : WB)).2)) (36) 1 (nI ((pnT (tK σ j) (soR (tK σ j) P n (iA σ 38) (iA σ 39)).1 (soR (tK σ j) P n (iA σ 38) (iA σ 39)).2 24 0 ((0, iA σ 37) : WB)).1)) := q_2
  rw [q_2]
  clear q_2
  refine g_aload_n (pc9 := 18) C rfl 0 dX9_compose_17 rfl rfl ?_
  refine g_bipush (pc9 := 20) C rfl (nI (59)) dX9_compose_18 rfl ?_
  refine g_callVv (nn := 1) (rest := []) (pc9 := 23) C rfl (36) [.int (nI (59))] rfl dX9_compose_20 (m_X9_putByte l w (sI (sI σ (38) ((soR (tK σ j) P n (iA σ 38) (iA σ 39)).1)) (39) ((soR (tK σ j) P n (iA σ 38) (iA σ 39)).2)) (pnT (tK σ j) (soR (tK σ j) P n (iA σ 38) (iA σ 39)).1 (soR (tK σ j) P n (iA σ 38) (iA σ 39)).2 24 0 ((0, iA σ 37) : WB)) (pnT_le 24 0 _ (Nat.zero_le _)) (nI (59))) gX9_compose_X9_putByte (by decide) (ce_36 w (sN (sI (sI (sI σ (38) ((soR (tK σ j) P n (iA σ 38) (iA σ 39)).1)) (39) ((soR (tK σ j) P n (iA σ 38) (iA σ 39)).2)) (37) ((pnT (tK σ j) (soR (tK σ j) P n (iA σ 38) (iA σ 39)).1 (soR (tK σ j) P n (iA σ 38) (iA σ 39)).2 24 0 ((0, iA σ 37) : WB)).2)) (36) 1 (nI ((pnT (tK σ j) (soR (tK σ j) P n (iA σ 38) (iA σ 39)).1 (soR (tK σ j) P n (iA σ 38) (iA σ 39)).2 24 0 ((0, iA σ 37) : WB)).1)))) rfl rfl rfl rfl rfl (by decide +kernel) ⟨by decide, by decide⟩ rfl (Nat.le_of_ble_eq_true rfl) ⟨by decide, by decide⟩ (fun σ_3 q_3 => ?_)
  replace q_3 : σ_3 = sN (sI (sI (sI σ (38) ((soR (tK σ j) P n (iA σ 38) (iA σ 39)).1)) (39) ((soR (tK σ j) P n (iA σ 38) (iA σ 39)).2)) (37) ((pb (pnT (tK σ j) (soR (tK σ j) P n (iA σ 38) (iA σ 39)).1 (soR (tK σ j) P n (iA σ 38) (iA σ 39)).2 24 0 ((0, iA σ 37) : WB)) (nI 59)).2)) (36) 1 (nI ((pb (pnT (tK σ j) (soR (tK σ j) P n (iA σ 38) (iA σ 39)).1 (soR (tK σ j) P n (iA σ 38) (iA σ 39)).2 24 0 ((0, iA σ 37) : WB)) (nI 59)).1)) := q_3
  rw [q_3]
  clear q_3
  exact g_return C hr hlk dX9_compose_23 rfl

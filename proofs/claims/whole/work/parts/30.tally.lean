/-! Tallies: least changes (costs at 50), orders (ways at 51, branchings at 52) -/
def mn (x y : Int32) : Int32 := if y < x then y else x
def lcC (f : Nat → Int32) (b : Nat) : Int32 := mn (mn (mn (f (b * 4)) (f (b * 4 + 1))) (f (b * 4 + 2))) (f (b * 4 + 3))
def fillG (h g : Nat → Int32) (k : Nat) : Nat → Int32 := fun i => if i < k then h i else g i
theorem fillG_0 (h g : Nat → Int32) : fillG h g 0 = g := by funext i; exact if_neg (by omega)
theorem fillG_s (h g : Nat → Int32) (k : Nat) : upd (fillG h g k) k (h k) = fillG h g (k + 1) := by
  funext i
  unfold upd fillG
  by_cases q : i = k
  · subst q; rw [if_pos rfl, if_pos (by omega)]
  · rw [if_neg q]
    by_cases h2 : i < k
    · rw [if_pos h2, if_pos (by omega)]
    · rw [if_neg h2, if_neg (by omega)]
def fillJ (h g : Nat → Int64) (k : Nat) : Nat → Int64 := fun i => if i < k then h i else g i
theorem fillJ_0 (h g : Nat → Int64) : fillJ h g 0 = g := by funext i; exact if_neg (by omega)
theorem fillJ_s (h g : Nat → Int64) (k : Nat) : vp_updL (fillJ h g k) k (h k) = fillJ h g (k + 1) := by
  funext i
  unfold vp_updL fillJ
  by_cases q : i = k
  · subst q; rw [if_pos rfl, if_pos (by omega)]
  · rw [if_neg q]
    by_cases h2 : i < k
    · rw [if_pos h2, if_pos (by omega)]
    · rw [if_neg h2, if_neg (by omega)]
set_option maxRecDepth 100000 in
set_option maxHeartbeats 4000000 in
theorem m_X5_leastCost (l : Launch) (w : Wd) (σ : St) (b : Nat) (hb : b < 47) : MI l yX5_leastCost wsX5_leastCost (rmL 1) w [.ref (w.1 (49)), .int (nI (b))] (σ) (fun r σ9 => σ9 = σ ∧ r = lcC (iA σ 50) b) := by
  refine MI_of (cc := cX5_leastCost) (maxL := 4) (ret := .int) (by decide) rfl (Nat.le_of_ble_eq_true rfl) ?_
  intro p e s m args below meth c A C hr hlk
  have C : Cx p s m args c w A cX5_leastCost RX5 4 wsX5_leastCost := C
  have hin_5 : ∀ u ∈ wsX50, u ∈ wsX5_leastCost := by decide +kernel
  have hl_9 : Cond.fieldLink RX5 9 "LineageBench$Tallies" "cost" "[I" ∈ wsX5_leastCost := by decide +kernel
  refine g_aload_n (pc9 := 1) C rfl 0 dX5_leastCost_0 rfl rfl ?_
  refine g_get (v := .ref (w.1 (50))) (pc9 := 4) C rfl (49) 0 dX5_leastCost_1 (by decide) (ce_49 w (σ)) hin_5 hl_9 rfl (by decide) rfl rfl ?_
  refine g_iload_n (pc9 := 5) C rfl 1 dX5_leastCost_4 rfl rfl ?_
  refine g_iconst (pc9 := 6) C rfl (nI (4)) dX5_leastCost_5 rfl ?_
  refine g_imulN (pc9 := 7) C rfl dX5_leastCost_6 ?_
  refine g_iald (x := (iA σ (50)) (b * 4)) (pc9 := 8) C rfl (50) (b * 4) dX5_leastCost_7 (by decide) (ce_50 w (σ)) rfl (by omega) (by decide) rfl ?_
  refine g_istore_n (pc9 := 9) C rfl [(2, .int ((iA σ (50)) (b * 4))), (0, .ref (w.1 (49))), (1, .int (nI (b)))] dX5_leastCost_8 rfl (by decide) rfl ?_
  refine g_iconst (pc9 := 10) C rfl (nI (1)) dX5_leastCost_9 rfl ?_
  refine g_istore_n (pc9 := 11) C rfl [(3, .int (nI (1))), (2, .int ((iA σ (50)) (b * 4))), (0, .ref (w.1 (49))), (1, .int (nI (b)))] dX5_leastCost_10 rfl (by decide) rfl ?_
  refine g_iload_n (pc9 := 12) C rfl 0 dX5_leastCost_11 rfl rfl ?_
  refine g_iconst (pc9 := 13) C rfl (nI (4)) dX5_leastCost_12 rfl ?_
  refine g_icmp_ge (pc9 := 16) C rfl 37 dX5_leastCost_13 rfl (fun c_1 => ?_) (fun c_1 => ?_)
  · exact absurd c_1 (by decide)
  · refine g_iload_n (pc9 := 17) C rfl 1 dX5_leastCost_16 rfl rfl ?_
    refine g_aload_n (pc9 := 18) C rfl 2 dX5_leastCost_17 rfl rfl ?_
    refine g_get (v := .ref (w.1 (50))) (pc9 := 21) C rfl (49) 0 dX5_leastCost_18 (by decide) (ce_49 w (σ)) hin_5 hl_9 rfl (by decide) rfl rfl ?_
    refine g_iload_n (pc9 := 22) C rfl 3 dX5_leastCost_21 rfl rfl ?_
    refine g_iconst (pc9 := 23) C rfl (nI (4)) dX5_leastCost_22 rfl ?_
    refine g_imulN (pc9 := 24) C rfl dX5_leastCost_23 ?_
    refine g_iload_n (pc9 := 25) C rfl 0 dX5_leastCost_24 rfl rfl ?_
    refine g_iaddN (pc9 := 26) C rfl dX5_leastCost_25 ?_
    refine g_iald (x := (iA σ (50)) ((b * 4) + 1)) (pc9 := 27) C rfl (50) ((b * 4) + 1) dX5_leastCost_26 (by decide) (ce_50 w (σ)) rfl (by omega) (by decide) rfl ?_
    refine g_mmin (pc9 := 30) C rfl dX5_leastCost_27 (by decide +kernel) (by decide +kernel) (by decide +kernel) (by decide +kernel) (by decide) (Nat.le_of_ble_eq_true rfl) (by decide) (by decide) ?_
    refine g_istore_n (pc9 := 31) C rfl [(2, .int (if (iA σ (50)) ((b * 4) + 1) < (iA σ (50)) (b * 4) then (iA σ (50)) ((b * 4) + 1) else (iA σ (50)) (b * 4))), (3, .int (nI (1))), (0, .ref (w.1 (49))), (1, .int (nI (b)))] dX5_leastCost_30 rfl (by decide) rfl ?_
    refine g_iinc (pc9 := 34) C rfl [(3, .int (nI (1 + 1))), (2, .int (if (iA σ (50)) ((b * 4) + 1) < (iA σ (50)) (b * 4) then (iA σ (50)) ((b * 4) + 1) else (iA σ (50)) (b * 4))), (0, .ref (w.1 (49))), (1, .int (nI (b)))] 1 (nI (1 + 1)) dX5_leastCost_31 rfl (nI_1 (1)) (by decide) rfl ?_
    refine g_goto C 11 dX5_leastCost_34 rfl ?_
    refine g_iload_n (pc9 := 12) C rfl 0 dX5_leastCost_11 rfl rfl ?_
    refine g_iconst (pc9 := 13) C rfl (nI (4)) dX5_leastCost_12 rfl ?_
    refine g_icmp_ge (pc9 := 16) C rfl 37 dX5_leastCost_13 rfl (fun c_2 => ?_) (fun c_2 => ?_)
    · exact absurd c_2 (by decide)
    · refine g_iload_n (pc9 := 17) C rfl 1 dX5_leastCost_16 rfl rfl ?_
      refine g_aload_n (pc9 := 18) C rfl 2 dX5_leastCost_17 rfl rfl ?_
      refine g_get (v := .ref (w.1 (50))) (pc9 := 21) C rfl (49) 0 dX5_leastCost_18 (by decide) (ce_49 w (σ)) hin_5 hl_9 rfl (by decide) rfl rfl ?_
      refine g_iload_n (pc9 := 22) C rfl 3 dX5_leastCost_21 rfl rfl ?_
      refine g_iconst (pc9 := 23) C rfl (nI (4)) dX5_leastCost_22 rfl ?_
      refine g_imulN (pc9 := 24) C rfl dX5_leastCost_23 ?_
      refine g_iload_n (pc9 := 25) C rfl 0 dX5_leastCost_24 rfl rfl ?_
      refine g_iaddN (pc9 := 26) C rfl dX5_leastCost_25 ?_
      refine g_iald (x := (iA σ (50)) ((b * 4) + (1 + 1))) (pc9 := 27) C rfl (50) ((b * 4) + (1 + 1)) dX5_leastCost_26 (by decide) (ce_50 w (σ)) rfl (by omega) (by decide) rfl ?_
      refine g_mmin (pc9 := 30) C rfl dX5_leastCost_27 (by decide +kernel) (by decide +kernel) (by decide +kernel) (by decide +kernel) (by decide) (Nat.le_of_ble_eq_true rfl) (by decide) (by decide) ?_
      refine g_istore_n (pc9 := 31) C rfl [(2, .int (if (iA σ (50)) ((b * 4) + (1 + 1)) < if (iA σ (50)) ((b * 4) + 1) < (iA σ (50)) (b * 4) then (iA σ (50)) ((b * 4) + 1) else (iA σ (50)) (b * 4) then (iA σ (50)) ((b * 4) + (1 + 1)) else if (iA σ (50)) ((b * 4) + 1) < (iA σ (50)) (b * 4) then (iA σ (50)) ((b * 4) + 1) else (iA σ (50)) (b * 4))), (3, .int (nI (1 + 1))), (0, .ref (w.1 (49))), (1, .int (nI (b)))] dX5_leastCost_30 rfl (by decide) rfl ?_
      refine g_iinc (pc9 := 34) C rfl [(3, .int (nI (1 + 1 + 1))), (2, .int (if (iA σ (50)) ((b * 4) + (1 + 1)) < if (iA σ (50)) ((b * 4) + 1) < (iA σ (50)) (b * 4) then (iA σ (50)) ((b * 4) + 1) else (iA σ (50)) (b * 4) then (iA σ (50)) ((b * 4) + (1 + 1)) else if (iA σ (50)) ((b * 4) + 1) < (iA σ (50)) (b * 4) then (iA σ (50)) ((b * 4) + 1) else (iA σ (50)) (b * 4))), (0, .ref (w.1 (49))), (1, .int (nI (b)))] 1 (nI (1 + 1 + 1)) dX5_leastCost_31 rfl (nI_1 (1 + 1)) (by decide) rfl ?_
      refine g_goto C 11 dX5_leastCost_34 rfl ?_
      refine g_iload_n (pc9 := 12) C rfl 0 dX5_leastCost_11 rfl rfl ?_
      refine g_iconst (pc9 := 13) C rfl (nI (4)) dX5_leastCost_12 rfl ?_
      refine g_icmp_ge (pc9 := 16) C rfl 37 dX5_leastCost_13 rfl (fun c_3 => ?_) (fun c_3 => ?_)
      · exact absurd c_3 (by decide)
      · refine g_iload_n (pc9 := 17) C rfl 1 dX5_leastCost_16 rfl rfl ?_
        refine g_aload_n (pc9 := 18) C rfl 2 dX5_leastCost_17 rfl rfl ?_
        refine g_get (v := .ref (w.1 (50))) (pc9 := 21) C rfl (49) 0 dX5_leastCost_18 (by decide) (ce_49 w (σ)) hin_5 hl_9 rfl (by decide) rfl rfl ?_
        refine g_iload_n (pc9 := 22) C rfl 3 dX5_leastCost_21 rfl rfl ?_
        refine g_iconst (pc9 := 23) C rfl (nI (4)) dX5_leastCost_22 rfl ?_
        refine g_imulN (pc9 := 24) C rfl dX5_leastCost_23 ?_
        refine g_iload_n (pc9 := 25) C rfl 0 dX5_leastCost_24 rfl rfl ?_
        refine g_iaddN (pc9 := 26) C rfl dX5_leastCost_25 ?_
        refine g_iald (x := (iA σ (50)) ((b * 4) + (1 + 1 + 1))) (pc9 := 27) C rfl (50) ((b * 4) + (1 + 1 + 1)) dX5_leastCost_26 (by decide) (ce_50 w (σ)) rfl (by omega) (by decide) rfl ?_
        refine g_mmin (pc9 := 30) C rfl dX5_leastCost_27 (by decide +kernel) (by decide +kernel) (by decide +kernel) (by decide +kernel) (by decide) (Nat.le_of_ble_eq_true rfl) (by decide) (by decide) ?_
        refine g_istore_n (pc9 := 31) C rfl [(2, .int (if (iA σ (50)) ((b * 4) + (1 + 1 + 1)) < if (iA σ (50)) ((b * 4) + (1 + 1)) < if (iA σ (50)) ((b * 4) + 1) < (iA σ (50)) (b * 4) then (iA σ (50)) ((b * 4) + 1) else (iA σ (50)) (b * 4) then (iA σ (50)) ((b * 4) + (1 + 1)) else if (iA σ (50)) ((b * 4) + 1) < (iA σ (50)) (b * 4) then (iA σ (50)) ((b * 4) + 1) else (iA σ (50)) (b * 4) then (iA σ (50)) ((b * 4) + (1 + 1 + 1)) else if (iA σ (50)) ((b * 4) + (1 + 1)) < if (iA σ (50)) ((b * 4) + 1) < (iA σ (50)) (b * 4) then (iA σ (50)) ((b * 4) + 1) else (iA σ (50)) (b * 4) then (iA σ (50)) ((b * 4) + (1 + 1)) else if (iA σ (50)) ((b * 4) + 1) < (iA σ (50)) (b * 4) then (iA σ (50)) ((b * 4) + 1) else (iA σ (50)) (b * 4))), (3, .int (nI (1 + 1 + 1))), (0, .ref (w.1 (49))), (1, .int (nI (b)))] dX5_leastCost_30 rfl (by decide) rfl ?_
        refine g_iinc (pc9 := 34) C rfl [(3, .int (nI (1 + 1 + 1 + 1))), (2, .int (if (iA σ (50)) ((b * 4) + (1 + 1 + 1)) < if (iA σ (50)) ((b * 4) + (1 + 1)) < if (iA σ (50)) ((b * 4) + 1) < (iA σ (50)) (b * 4) then (iA σ (50)) ((b * 4) + 1) else (iA σ (50)) (b * 4) then (iA σ (50)) ((b * 4) + (1 + 1)) else if (iA σ (50)) ((b * 4) + 1) < (iA σ (50)) (b * 4) then (iA σ (50)) ((b * 4) + 1) else (iA σ (50)) (b * 4) then (iA σ (50)) ((b * 4) + (1 + 1 + 1)) else if (iA σ (50)) ((b * 4) + (1 + 1)) < if (iA σ (50)) ((b * 4) + 1) < (iA σ (50)) (b * 4) then (iA σ (50)) ((b * 4) + 1) else (iA σ (50)) (b * 4) then (iA σ (50)) ((b * 4) + (1 + 1)) else if (iA σ (50)) ((b * 4) + 1) < (iA σ (50)) (b * 4) then (iA σ (50)) ((b * 4) + 1) else (iA σ (50)) (b * 4))), (0, .ref (w.1 (49))), (1, .int (nI (b)))] 1 (nI (1 + 1 + 1 + 1)) dX5_leastCost_31 rfl (nI_1 (1 + 1 + 1)) (by decide) rfl ?_
        refine g_goto C 11 dX5_leastCost_34 rfl ?_
        refine g_iload_n (pc9 := 12) C rfl 0 dX5_leastCost_11 rfl rfl ?_
        refine g_iconst (pc9 := 13) C rfl (nI (4)) dX5_leastCost_12 rfl ?_
        refine g_icmp_ge (pc9 := 16) C rfl 37 dX5_leastCost_13 rfl (fun c_4 => ?_) (fun c_4 => ?_)
        · refine g_iload_n (pc9 := 38) C rfl 1 dX5_leastCost_37 rfl rfl ?_
          exact g_ireturn C hr hlk dX5_leastCost_38 ⟨rfl, rfl⟩
        · exact absurd c_4 (by decide)
/-- what a node costs at first: of a leaf, that it must have its kind's state -/
def ini (K T : Nat → Int32) (b : Nat) (i : Nat) : Int32 := if K (i / 4) = -1 then nI 0 else if T (b + (K (i / 4)).toNatClampNeg) = nI (i % 4) then nI 0 else nI 1000
theorem ini_n {K T : Nat → Int32} {b v s : Nat} (hs : s < 4) (h : K v = -1) : ini K T b (v * 4 + s) = nI 0 := by
  unfold ini
  rw [show (v * 4 + s) / 4 = v by omega, if_pos h]
theorem ini_y {K T : Nat → Int32} {b v s q : Nat} (hs : s < 4) (hq : q < 12) (h : K v = nI q) (h2 : T (b + q) = nI s) : ini K T b (v * 4 + s) = nI 0 := by
  unfold ini
  rw [show (v * 4 + s) / 4 = v by omega, show (v * 4 + s) % 4 = s by omega, h, if_neg (nI_m1 (by omega)), nI_clamp (by omega), if_pos h2]
theorem ini_k {K T : Nat → Int32} {b v s q : Nat} (hs : s < 4) (hq : q < 12) (h : K v = nI q) (h2 : ¬ T (b + q) = nI s) : ini K T b (v * 4 + s) = nI 1000 := by
  unfold ini
  rw [show (v * 4 + s) / 4 = v by omega, show (v * 4 + s) % 4 = s by omega, h, if_neg (nI_m1 (by omega)), nI_clamp (by omega), if_neg h2]
def fcT (a v : Nat) (d : Int32) (g : Nat → Int32) : Nat → (Nat → Int32)
  | 0 => g
  | s + 1 => upd (fcT a v d g s) (a * 4 + s) (fcT a v d g s (a * 4 + s) + mn (fcT a v d g s (v * 4 + s)) d)
def fcD (P : Nat → Nat) : Nat → (Nat → Int32) → (Nat → Int32)
  | 0, g => g
  | v + 1, g => fcD P v (fcT (P (v + 1)) (v + 1) (lcC g (v + 1) + nI 1) g 4)
theorem fcD_s {P : Nat → Nat} {v : Nat} {g : Nat → Int32} (h : 0 < v) : fcD P v g = fcD P (v - 1) (fcT (P v) v (lcC g v + nI 1) g 4) := by
  obtain ⟨u, rfl⟩ : ∃ u, v = u + 1 := ⟨v - 1, by omega⟩
  rfl
abbrev fcR (K T : Nat → Int32) (b : Nat) (P : Nat → Nat) (n : Nat) (g : Nat → Int32) : Nat → Int32 := fcD P (n - 1) (fillG (ini K T b) g (n * 4))
set_option maxRecDepth 100000 in
set_option maxHeartbeats 4000000 in
theorem m_X5_fewestChanges (l : Launch) (w : Wd) (σ : St) (j : Nat) (hj : j < 9) (n : Nat) (hn : tN σ j = nI n) (h47 : n ≤ 47) (h0 : 0 < n) (P : Nat → Nat) (hP : ∀ v, 0 < v → v < n → tP σ j v = nI (P v) ∧ P v < v) (hK : ∀ v, v < n → tK σ j v = -1 ∨ ∃ q, q < 12 ∧ tK σ j v = nI q) (b : Nat) (hb : b ≤ 84) : MI l yX5_fewestChanges wsX5_fewestChanges (rmL 2) w [.ref (w.1 (49)), .ref (w.1 (64 + 5 * j)), .ref (w.1 (48)), .int (nI (b))] (σ) (fun r σ9 => σ9 = sI σ 50 (fcR (tK σ j) (iA σ 48) b P n (iA σ 50)) ∧ r = lcC (fcR (tK σ j) (iA σ 48) b P n (iA σ 50)) 0) := by
  refine MI_of (cc := cX5_fewestChanges) (maxL := 8) (ret := .int) (by decide) rfl (Nat.le_of_ble_eq_true rfl) ?_
  intro p e s m args below meth c A C hr hlk
  have C : Cx p s m args c w A cX5_fewestChanges RX5 8 wsX5_fewestChanges := C
  have hin_5 : ∀ u ∈ wsX50, u ∈ wsX5_fewestChanges := by decide +kernel
  have hin_7 : ∀ u ∈ wsX70, u ∈ wsX5_fewestChanges := by decide +kernel
  have hl_9 : Cond.fieldLink RX5 9 "LineageBench$Tallies" "cost" "[I" ∈ wsX5_fewestChanges := by decide +kernel
  have hl_22 : Cond.fieldLink RX5 22 "LineageBench$Tree" "nodes" "I" ∈ wsX5_fewestChanges := by decide +kernel
  have hl_28 : Cond.fieldLink RX5 28 "LineageBench$Tree" "kind" "[I" ∈ wsX5_fewestChanges := by decide +kernel
  have hl_31 : Cond.fieldLink RX5 31 "LineageBench$Tree" "parent" "[I" ∈ wsX5_fewestChanges := by decide +kernel
  refine g_st (σ9 := sI σ (50) (fillG (ini (tK σ j) (iA σ 48) b) (iA σ 50) (0 * 4))) (by rw [Nat.zero_mul, fillG_0, sI_self]) ?_
  refine g_iconst (pc9 := 1) C rfl (nI (0)) dX5_fewestChanges_0 rfl ?_
  refine g_istore (pc9 := 3) C rfl [(4, .int (nI (0))), (0, .ref (w.1 (49))), (1, .ref (w.1 (64 + 5 * j))), (2, .ref (w.1 (48))), (3, .int (nI (b)))] dX5_fewestChanges_1 (by decide) rfl ?_
  refine g_sub [0, 1, 2, 3, 4] [(4, .int (nI (0))), (0, .ref (w.1 (49))), (1, .ref (w.1 (64 + 5 * j))), (2, .ref (w.1 (48))), (3, .int (nI (b)))] rfl ?_
  refine g_lp1 (α := Nat) (fun v => v ≤ n) (fun v => n - v) (fun v => G p l e _ s m args below meth c _ w A _ (sI σ (50) (fillG (ini (tK σ j) (iA σ 48) b) (iA σ 50) (v * 4))) 0 0 3 [(4, .int (nI (v))), (0, .ref (w.1 (49))), (1, .ref (w.1 (64 + 5 * j))), (2, .ref (w.1 (48))), (3, .int (nI (b)))] []) (fun v hI ih => ?_) (0) (Nat.zero_le _)
  obtain hv := hI
  refine g_iload (pc9 := 5) C rfl 0 dX5_fewestChanges_3 rfl ?_
  refine g_aload_n (pc9 := 6) C rfl 2 dX5_fewestChanges_5 rfl rfl ?_
  refine g_get (v := .int (nI (n))) (pc9 := 9) C rfl (64 + 5 * j) 4 dX5_fewestChanges_6 (by omega) (ce_tree w (sI σ (50) (fillG (ini (tK σ j) (iA σ 48) b) (iA σ 50) (v * 4))) (j)) hin_7 hl_22 rfl (by decide) rfl (congrArg (fun z => some (Value.int z)) ((nF_I).trans hn)) ?_
  refine g_icmp_ge (pc9 := 12) C rfl 91 dX5_fewestChanges_9 rfl (fun c_1 => ?_) (fun c_1 => ?_)
  · replace c_1 := (nI_leI (by omega) (by omega)).mp c_1
    refine g_aload_n (pc9 := 92) C rfl 2 dX5_fewestChanges_91 rfl rfl ?_
    refine g_get (v := .int (nI (n))) (pc9 := 95) C rfl (64 + 5 * j) 4 dX5_fewestChanges_92 (by omega) (ce_tree w (sI σ (50) (fillG (ini (tK σ j) (iA σ 48) b) (iA σ 50) (v * 4))) (j)) hin_7 hl_22 rfl (by decide) rfl (congrArg (fun z => some (Value.int z)) ((nF_I).trans hn)) ?_
    refine g_iconst (pc9 := 96) C rfl (nI (1)) dX5_fewestChanges_95 rfl ?_
    refine g_isubN (pc9 := 97) C rfl dX5_fewestChanges_96 (by omega) ?_
    refine g_istore (pc9 := 99) C rfl [(4, .int (nI (n - (1)))), (0, .ref (w.1 (49))), (1, .ref (w.1 (64 + 5 * j))), (2, .ref (w.1 (48))), (3, .int (nI (b)))] dX5_fewestChanges_97 (by decide) rfl ?_
    refine g_sub [0, 1, 2, 3, 4] [(4, .int (nI (n - (1)))), (0, .ref (w.1 (49))), (1, .ref (w.1 (64 + 5 * j))), (2, .ref (w.1 (48))), (3, .int (nI (b)))] rfl ?_
    refine g_lp2 (α := Nat) (β := Nat → Int32) (fun v g => v < n ∧ fcD P v g = fcR (tK σ j) (iA σ 48) b P n (iA σ 50)) (fun v g => v) (fun v g => G p l e _ s m args below meth c _ w A _ (sI σ (50) (g)) 0 0 99 [(4, .int (nI (v))), (0, .ref (w.1 (49))), (1, .ref (w.1 (64 + 5 * j))), (2, .ref (w.1 (48))), (3, .int (nI (b)))] []) (fun v g hI ih2 => ?_) (n - 1) (fillG (ini (tK σ j) (iA σ 48) b) (iA σ 50) (v * 4)) ⟨by omega, by rw [show v = n by omega]⟩
    obtain ⟨hv2, hg⟩ := hI
    refine g_iload (pc9 := 101) C rfl 0 dX5_fewestChanges_99 rfl ?_
    refine g_if_le (pc9 := 104) C rfl 176 dX5_fewestChanges_101 rfl (fun c_2 => ?_) (fun c_2 => ?_)
    · replace c_2 := (z_le (by omega)).mp c_2
      refine g_aload_n (pc9 := 177) C rfl 1 dX5_fewestChanges_176 rfl rfl ?_
      refine g_iconst (pc9 := 178) C rfl (nI (0)) dX5_fewestChanges_177 rfl ?_
      refine g_callVi (nn := 1) (rest := []) (pc9 := 181) C rfl (49) [.int (nI (0))] rfl dX5_fewestChanges_178 (m_X5_leastCost l w (sI σ (50) (g)) 0 (by omega)) gX5_fewestChanges_X5_leastCost (by decide) (ce_49 w (sI σ (50) (g))) rfl rfl rfl rfl rfl (by decide +kernel) ⟨by decide, by decide⟩ rfl (Nat.le_of_ble_eq_true rfl) ⟨by decide, by decide⟩ (fun r_3 σ_3 q_3 => ?_)
      obtain ⟨qs_3, qr_3⟩ := q_3
      rw [qs_3, qr_3]
      clear qs_3 qr_3
      rw [iA_s]
      exact g_ireturn C hr hlk dX5_fewestChanges_181 ⟨by rw [← hg, show v = 0 by omega]; rfl, by rw [← hg, show v = 0 by omega]; rfl⟩
    · replace c_2 := (not_congr (z_le (by omega))).mp c_2
      have hPv := (hP v (by omega) (by omega)).2
      refine g_aload_n (pc9 := 105) C rfl 2 dX5_fewestChanges_104 rfl rfl ?_
      refine g_get (v := .ref (w.1 (65 + 5 * j))) (pc9 := 108) C rfl (64 + 5 * j) 0 dX5_fewestChanges_105 (by omega) (ce_tree w (sI σ (50) (g)) (j)) hin_7 hl_31 rfl (by decide) rfl rfl ?_
      refine g_iload (pc9 := 110) C rfl 0 dX5_fewestChanges_108 rfl ?_
      refine g_iald (x := nI (P (v))) (pc9 := 111) C rfl (65 + 5 * j) (v) dX5_fewestChanges_110 (by omega) (ce_parent w (sI σ (50) (g)) (j)) rfl (by omega) (by decide) ((congrFun (iA_n (by omega)) _).trans (hP (v) (by omega) (by omega)).1) ?_
      refine g_istore (pc9 := 113) C rfl [(5, .int (nI (P (v)))), (4, .int (nI (v))), (0, .ref (w.1 (49))), (1, .ref (w.1 (64 + 5 * j))), (2, .ref (w.1 (48))), (3, .int (nI (b)))] dX5_fewestChanges_111 (by decide) rfl ?_
      refine g_aload_n (pc9 := 114) C rfl 2 dX5_fewestChanges_113 rfl rfl ?_
      refine g_iload (pc9 := 116) C rfl 1 dX5_fewestChanges_114 rfl ?_
      refine g_callVi (nn := 1) (rest := []) (pc9 := 119) C rfl (49) [.int (nI (v))] rfl dX5_fewestChanges_116 (m_X5_leastCost l w (sI σ (50) (g)) v (by omega)) gX5_fewestChanges_X5_leastCost (by decide) (ce_49 w (sI σ (50) (g))) rfl rfl rfl rfl rfl (by decide +kernel) ⟨by decide, by decide⟩ rfl (Nat.le_of_ble_eq_true rfl) ⟨by decide, by decide⟩ (fun r_4 σ_4 q_4 => ?_)
      obtain ⟨qs_4, qr_4⟩ := q_4
      rw [qs_4, qr_4]
      clear qs_4 qr_4
      rw [iA_s]
      refine g_iconst (pc9 := 120) C rfl (nI (1)) dX5_fewestChanges_119 rfl ?_
      refine g_iadd (pc9 := 121) C rfl dX5_fewestChanges_120 ?_
      refine g_istore (pc9 := 123) C rfl [(6, .int ((lcC g v) + (nI (1)))), (5, .int (nI (P (v)))), (4, .int (nI (v))), (0, .ref (w.1 (49))), (1, .ref (w.1 (64 + 5 * j))), (2, .ref (w.1 (48))), (3, .int (nI (b)))] dX5_fewestChanges_121 (by decide) rfl ?_
      refine g_iconst (pc9 := 124) C rfl (nI (0)) dX5_fewestChanges_123 rfl ?_
      refine g_istore (pc9 := 126) C rfl [(7, .int (nI (0))), (6, .int ((lcC g v) + (nI (1)))), (5, .int (nI (P (v)))), (4, .int (nI (v))), (0, .ref (w.1 (49))), (1, .ref (w.1 (64 + 5 * j))), (2, .ref (w.1 (48))), (3, .int (nI (b)))] dX5_fewestChanges_124 (by decide) rfl ?_
      refine g_sub [0, 1, 2, 3, 4, 5, 6, 7] [(7, .int (nI (0))), (6, .int ((lcC g v) + (nI (1)))), (5, .int (nI (P (v)))), (4, .int (nI (v))), (0, .ref (w.1 (49))), (1, .ref (w.1 (64 + 5 * j))), (2, .ref (w.1 (48))), (3, .int (nI (b)))] rfl ?_
      refine g_lp1 (α := Nat) (fun s9 => s9 ≤ 4) (fun s9 => 4 - s9) (fun s9 => G p l e _ s m args below meth c _ w A _ (sI σ (50) (fcT (P v) v (lcC g v + nI 1) g (s9))) 0 0 126 [(7, .int (nI (s9))), (6, .int (lcC g v + nI 1)), (5, .int (nI (P v))), (4, .int (nI (v))), (0, .ref (w.1 (49))), (1, .ref (w.1 (64 + 5 * j))), (2, .ref (w.1 (48))), (3, .int (nI (b)))] []) (fun s9 hI ih3 => ?_) (0) (Nat.zero_le _)
      obtain hs := hI
      refine g_iload (pc9 := 128) C rfl 0 dX5_fewestChanges_126 rfl ?_
      refine g_iconst (pc9 := 129) C rfl (nI (4)) dX5_fewestChanges_128 rfl ?_
      refine g_icmp_ge (pc9 := 132) C rfl 170 dX5_fewestChanges_129 rfl (fun c_5 => ?_) (fun c_5 => ?_)
      · replace c_5 := (nI_leI (by omega) (by omega)).mp c_5
        refine g_iinc (pc9 := 173) C rfl [(4, .int (nI (v - 1))), (7, .int (nI (s9))), (6, .int (lcC g v + nI 1)), (5, .int (nI (P v))), (0, .ref (w.1 (49))), (1, .ref (w.1 (64 + 5 * j))), (2, .ref (w.1 (48))), (3, .int (nI (b)))] 3 (nI (v - 1)) dX5_fewestChanges_170 rfl (sb_m1 (by omega)) (by decide) rfl ?_
        refine g_goto C 99 dX5_fewestChanges_173 rfl ?_
        refine g_sub [0, 4, 5, 6, 7] [(4, .int (nI (v - 1))), (0, .ref (w.1 (49))), (1, .ref (w.1 (64 + 5 * j))), (2, .ref (w.1 (48))), (3, .int (nI (b)))] rfl ?_
        rw [show s9 = 4 by omega]
        exact ih2 (v - 1) _ ⟨by omega, (fcD_s (by omega)).symm.trans hg⟩ (by omega)
      · replace c_5 := (not_congr (nI_leI (by omega) (by omega))).mp c_5
        refine g_aload_n (pc9 := 133) C rfl 4 dX5_fewestChanges_132 rfl rfl ?_
        refine g_get (v := .ref (w.1 (50))) (pc9 := 136) C rfl (49) 0 dX5_fewestChanges_133 (by decide) (ce_49 w (sI σ (50) (fcT (P v) v (lcC g v + nI 1) g (s9)))) hin_5 hl_9 rfl (by decide) rfl rfl ?_
        refine g_iload (pc9 := 138) C rfl 2 dX5_fewestChanges_136 rfl ?_
        refine g_iconst (pc9 := 139) C rfl (nI (4)) dX5_fewestChanges_138 rfl ?_
        refine g_imulN (pc9 := 140) C rfl dX5_fewestChanges_139 ?_
        refine g_iload (pc9 := 142) C rfl 0 dX5_fewestChanges_140 rfl ?_
        refine g_iaddN (pc9 := 143) C rfl dX5_fewestChanges_142 ?_
        refine g_dup2 (pc9 := 144) C rfl dX5_fewestChanges_143 rfl rfl ?_
        refine g_iald (x := (fcT (P v) v (lcC g v + nI 1) g (s9)) (((P v) * 4) + s9)) (pc9 := 145) C rfl (50) (((P v) * 4) + s9) dX5_fewestChanges_144 (by decide) (ce_50 w (sI σ (50) (fcT (P v) v (lcC g v + nI 1) g (s9)))) rfl (by omega) (by decide) (congrFun (iA_s) _) ?_
        refine g_aload_n (pc9 := 146) C rfl 4 dX5_fewestChanges_145 rfl rfl ?_
        refine g_get (v := .ref (w.1 (50))) (pc9 := 149) C rfl (49) 0 dX5_fewestChanges_146 (by decide) (ce_49 w (sI σ (50) (fcT (P v) v (lcC g v + nI 1) g (s9)))) hin_5 hl_9 rfl (by decide) rfl rfl ?_
        refine g_iload (pc9 := 151) C rfl 3 dX5_fewestChanges_149 rfl ?_
        refine g_iconst (pc9 := 152) C rfl (nI (4)) dX5_fewestChanges_151 rfl ?_
        refine g_imulN (pc9 := 153) C rfl dX5_fewestChanges_152 ?_
        refine g_iload (pc9 := 155) C rfl 0 dX5_fewestChanges_153 rfl ?_
        refine g_iaddN (pc9 := 156) C rfl dX5_fewestChanges_155 ?_
        refine g_iald (x := (fcT (P v) v (lcC g v + nI 1) g (s9)) ((v * 4) + s9)) (pc9 := 157) C rfl (50) ((v * 4) + s9) dX5_fewestChanges_156 (by decide) (ce_50 w (sI σ (50) (fcT (P v) v (lcC g v + nI 1) g (s9)))) rfl (by omega) (by decide) (congrFun (iA_s) _) ?_
        refine g_iload (pc9 := 159) C rfl 1 dX5_fewestChanges_157 rfl ?_
        refine g_mmin (pc9 := 162) C rfl dX5_fewestChanges_159 (by decide +kernel) (by decide +kernel) (by decide +kernel) (by decide +kernel) (by decide) (Nat.le_of_ble_eq_true rfl) (by decide) (by decide) ?_
        refine g_iadd (pc9 := 163) C rfl dX5_fewestChanges_162 ?_
        refine g_iast (pc9 := 164) C rfl (50) (((P v) * 4) + s9) (fcT (P v) v (lcC g v + nI 1) g (s9)) dX5_fewestChanges_163 (by decide) (fun _ => rfl) (ce_50 w (sI σ (50) (fcT (P v) v (lcC g v + nI 1) g (s9)))) rfl (by omega) (by decide) (iA_s) ?_
        rw [sI_sI (a := 50)]
        skip
        refine g_iinc (pc9 := 167) C rfl [(7, .int (nI (s9 + 1))), (6, .int (lcC g v + nI 1)), (5, .int (nI (P v))), (4, .int (nI (v))), (0, .ref (w.1 (49))), (1, .ref (w.1 (64 + 5 * j))), (2, .ref (w.1 (48))), (3, .int (nI (b)))] 0 (nI (s9 + 1)) dX5_fewestChanges_164 rfl (nI_1 (s9)) (by decide) rfl ?_
        refine g_goto C 126 dX5_fewestChanges_167 rfl ?_
        exact ih3 (s9 + 1) (by omega) (by omega)
  · replace c_1 := (not_congr (nI_leI (by omega) (by omega))).mp c_1
    rcases hK v (by omega) with hk | ⟨q, hq, hk⟩
    · refine g_aload_n (pc9 := 13) C rfl 2 dX5_fewestChanges_12 rfl rfl ?_
      refine g_get (v := .ref (w.1 (66 + 5 * j))) (pc9 := 16) C rfl (64 + 5 * j) 1 dX5_fewestChanges_13 (by omega) (ce_tree w (sI σ (50) (fillG (ini (tK σ j) (iA σ 48) b) (iA σ 50) (v * 4))) (j)) hin_7 hl_28 rfl (by decide) rfl rfl ?_
      refine g_iload (pc9 := 18) C rfl 0 dX5_fewestChanges_16 rfl ?_
      refine g_iald (x := -1) (pc9 := 19) C rfl (66 + 5 * j) (v) dX5_fewestChanges_18 (by omega) (ce_kind w (sI σ (50) (fillG (ini (tK σ j) (iA σ 48) b) (iA σ 50) (v * 4))) (j)) rfl (by omega) (by decide) ((congrFun (iA_n (by omega)) _).trans hk) ?_
      refine g_iconst (pc9 := 20) C rfl ((-1)) dX5_fewestChanges_19 rfl ?_
      refine g_icmp_eq (pc9 := 23) C rfl 27 dX5_fewestChanges_20 rfl (fun c_6 => ?_) (fun c_6 => ?_)
      · refine g_iconst (pc9 := 28) C rfl (nI (0)) dX5_fewestChanges_27 rfl ?_
        refine g_istore (pc9 := 30) C rfl [(5, .int (nI (0))), (4, .int (nI (v))), (0, .ref (w.1 (49))), (1, .ref (w.1 (64 + 5 * j))), (2, .ref (w.1 (48))), (3, .int (nI (b)))] dX5_fewestChanges_28 (by decide) rfl ?_
        refine g_iconst (pc9 := 31) C rfl (nI (0)) dX5_fewestChanges_30 rfl ?_
        refine g_istore (pc9 := 33) C rfl [(6, .int (nI (0))), (5, .int (nI (0))), (4, .int (nI (v))), (0, .ref (w.1 (49))), (1, .ref (w.1 (64 + 5 * j))), (2, .ref (w.1 (48))), (3, .int (nI (b)))] dX5_fewestChanges_31 (by decide) rfl ?_
        refine g_sub [0, 1, 2, 3, 4, 5, 6] [(6, .int (nI (0))), (5, .int (nI (0))), (4, .int (nI (v))), (0, .ref (w.1 (49))), (1, .ref (w.1 (64 + 5 * j))), (2, .ref (w.1 (48))), (3, .int (nI (b)))] rfl ?_
        refine g_lp1 (α := Nat) (fun s9 => s9 ≤ 4) (fun s9 => 4 - s9) (fun s9 => G p l e _ s m args below meth c _ w A _ (sI σ (50) (fillG (ini (tK σ j) (iA σ 48) b) (iA σ 50) (v * 4 + s9))) 0 0 33 [(6, .int (nI (s9))), (5, .int (nI (0))), (4, .int (nI (v))), (0, .ref (w.1 (49))), (1, .ref (w.1 (64 + 5 * j))), (2, .ref (w.1 (48))), (3, .int (nI (b)))] []) (fun s9 hI ih2 => ?_) (0) (Nat.zero_le _)
        obtain hs := hI
        refine g_iload (pc9 := 35) C rfl 0 dX5_fewestChanges_33 rfl ?_
        refine g_iconst (pc9 := 36) C rfl (nI (4)) dX5_fewestChanges_35 rfl ?_
        refine g_icmp_ge (pc9 := 39) C rfl 85 dX5_fewestChanges_36 rfl (fun c_7 => ?_) (fun c_7 => ?_)
        · replace c_7 := (nI_leI (by omega) (by omega)).mp c_7
          refine g_iinc (pc9 := 88) C rfl [(4, .int (nI (v + 1))), (6, .int (nI (s9))), (5, .int (nI (0))), (0, .ref (w.1 (49))), (1, .ref (w.1 (64 + 5 * j))), (2, .ref (w.1 (48))), (3, .int (nI (b)))] 2 (nI (v + 1)) dX5_fewestChanges_85 rfl (nI_1 (v)) (by decide) rfl ?_
          refine g_goto C 3 dX5_fewestChanges_88 rfl ?_
          refine g_sub [0, 3, 4, 5, 6] [(4, .int (nI (v + 1))), (0, .ref (w.1 (49))), (1, .ref (w.1 (64 + 5 * j))), (2, .ref (w.1 (48))), (3, .int (nI (b)))] rfl ?_
          rw [show v * 4 + s9 = (v + 1) * 4 by omega]
          exact ih (v + 1) (by omega) (by omega)
        · replace c_7 := (not_congr (nI_leI (by omega) (by omega))).mp c_7
          refine g_aload_n (pc9 := 40) C rfl 3 dX5_fewestChanges_39 rfl rfl ?_
          refine g_get (v := .ref (w.1 (50))) (pc9 := 43) C rfl (49) 0 dX5_fewestChanges_40 (by decide) (ce_49 w (sI σ (50) (fillG (ini (tK σ j) (iA σ 48) b) (iA σ 50) (v * 4 + s9)))) hin_5 hl_9 rfl (by decide) rfl rfl ?_
          refine g_iload (pc9 := 45) C rfl 2 dX5_fewestChanges_43 rfl ?_
          refine g_iconst (pc9 := 46) C rfl (nI (4)) dX5_fewestChanges_45 rfl ?_
          refine g_imulN (pc9 := 47) C rfl dX5_fewestChanges_46 ?_
          refine g_iload (pc9 := 49) C rfl 0 dX5_fewestChanges_47 rfl ?_
          refine g_iaddN (pc9 := 50) C rfl dX5_fewestChanges_49 ?_
          refine g_iload (pc9 := 52) C rfl 1 dX5_fewestChanges_50 rfl ?_
          refine g_if_eq (pc9 := 55) C rfl 77 dX5_fewestChanges_52 rfl (fun c_8 => ?_) (fun c_8 => ?_)
          · have hst := ini_n (T := iA σ 48) (b := b) (by omega : s9 < 4) hk
            refine g_iconst (pc9 := 78) C rfl (nI (0)) dX5_fewestChanges_77 rfl ?_
            refine g_iast (pc9 := 79) C rfl (50) ((v * 4) + s9) (fillG (ini (tK σ j) (iA σ 48) b) (iA σ 50) (v * 4 + s9)) dX5_fewestChanges_78 (by decide) (fun _ => rfl) (ce_50 w (sI σ (50) (fillG (ini (tK σ j) (iA σ 48) b) (iA σ 50) (v * 4 + s9)))) rfl (by omega) (by decide) (iA_s) ?_
            rw [sI_sI (a := 50)]
            refine g_st (σ9 := sI σ (50) (fillG (ini (tK σ j) (iA σ 48) b) (iA σ 50) (v * 4 + s9 + 1))) (by rw [← fillG_s, hst]) ?_
            refine g_iinc (pc9 := 82) C rfl [(6, .int (nI (s9 + 1))), (5, .int (nI (0))), (4, .int (nI (v))), (0, .ref (w.1 (49))), (1, .ref (w.1 (64 + 5 * j))), (2, .ref (w.1 (48))), (3, .int (nI (b)))] 0 (nI (s9 + 1)) dX5_fewestChanges_79 rfl (nI_1 (s9)) (by decide) rfl ?_
            refine g_goto C 33 dX5_fewestChanges_82 rfl ?_
            exact ih2 (s9 + 1) (by omega) (by omega)
          · exact absurd c_8 (by decide)
      · exact absurd rfl (by assumption)
    · refine g_aload_n (pc9 := 13) C rfl 2 dX5_fewestChanges_12 rfl rfl ?_
      refine g_get (v := .ref (w.1 (66 + 5 * j))) (pc9 := 16) C rfl (64 + 5 * j) 1 dX5_fewestChanges_13 (by omega) (ce_tree w (sI σ (50) (fillG (ini (tK σ j) (iA σ 48) b) (iA σ 50) (v * 4))) (j)) hin_7 hl_28 rfl (by decide) rfl rfl ?_
      refine g_iload (pc9 := 18) C rfl 0 dX5_fewestChanges_16 rfl ?_
      refine g_iald (x := nI (q)) (pc9 := 19) C rfl (66 + 5 * j) (v) dX5_fewestChanges_18 (by omega) (ce_kind w (sI σ (50) (fillG (ini (tK σ j) (iA σ 48) b) (iA σ 50) (v * 4))) (j)) rfl (by omega) (by decide) ((congrFun (iA_n (by omega)) _).trans hk) ?_
      refine g_iconst (pc9 := 20) C rfl ((-1)) dX5_fewestChanges_19 rfl ?_
      refine g_icmp_eq (pc9 := 23) C rfl 27 dX5_fewestChanges_20 rfl (fun c_9 => ?_) (fun c_9 => ?_)
      · exact absurd c_9 (nI_m1 (by omega))
      · refine g_iconst (pc9 := 24) C rfl (nI (1)) dX5_fewestChanges_23 rfl ?_
        refine g_goto C 28 dX5_fewestChanges_24 rfl ?_
        refine g_istore (pc9 := 30) C rfl [(5, .int (nI (1))), (4, .int (nI (v))), (0, .ref (w.1 (49))), (1, .ref (w.1 (64 + 5 * j))), (2, .ref (w.1 (48))), (3, .int (nI (b)))] dX5_fewestChanges_28 (by decide) rfl ?_
        refine g_iconst (pc9 := 31) C rfl (nI (0)) dX5_fewestChanges_30 rfl ?_
        refine g_istore (pc9 := 33) C rfl [(6, .int (nI (0))), (5, .int (nI (1))), (4, .int (nI (v))), (0, .ref (w.1 (49))), (1, .ref (w.1 (64 + 5 * j))), (2, .ref (w.1 (48))), (3, .int (nI (b)))] dX5_fewestChanges_31 (by decide) rfl ?_
        refine g_sub [0, 1, 2, 3, 4, 5, 6] [(6, .int (nI (0))), (5, .int (nI (1))), (4, .int (nI (v))), (0, .ref (w.1 (49))), (1, .ref (w.1 (64 + 5 * j))), (2, .ref (w.1 (48))), (3, .int (nI (b)))] rfl ?_
        refine g_lp1 (α := Nat) (fun s9 => s9 ≤ 4) (fun s9 => 4 - s9) (fun s9 => G p l e _ s m args below meth c _ w A _ (sI σ (50) (fillG (ini (tK σ j) (iA σ 48) b) (iA σ 50) (v * 4 + s9))) 0 0 33 [(6, .int (nI (s9))), (5, .int (nI (1))), (4, .int (nI (v))), (0, .ref (w.1 (49))), (1, .ref (w.1 (64 + 5 * j))), (2, .ref (w.1 (48))), (3, .int (nI (b)))] []) (fun s9 hI ih2 => ?_) (0) (Nat.zero_le _)
        obtain hs := hI
        refine g_iload (pc9 := 35) C rfl 0 dX5_fewestChanges_33 rfl ?_
        refine g_iconst (pc9 := 36) C rfl (nI (4)) dX5_fewestChanges_35 rfl ?_
        refine g_icmp_ge (pc9 := 39) C rfl 85 dX5_fewestChanges_36 rfl (fun c_10 => ?_) (fun c_10 => ?_)
        · replace c_10 := (nI_leI (by omega) (by omega)).mp c_10
          refine g_iinc (pc9 := 88) C rfl [(4, .int (nI (v + 1))), (6, .int (nI (s9))), (5, .int (nI (1))), (0, .ref (w.1 (49))), (1, .ref (w.1 (64 + 5 * j))), (2, .ref (w.1 (48))), (3, .int (nI (b)))] 2 (nI (v + 1)) dX5_fewestChanges_85 rfl (nI_1 (v)) (by decide) rfl ?_
          refine g_goto C 3 dX5_fewestChanges_88 rfl ?_
          refine g_sub [0, 3, 4, 5, 6] [(4, .int (nI (v + 1))), (0, .ref (w.1 (49))), (1, .ref (w.1 (64 + 5 * j))), (2, .ref (w.1 (48))), (3, .int (nI (b)))] rfl ?_
          rw [show v * 4 + s9 = (v + 1) * 4 by omega]
          exact ih (v + 1) (by omega) (by omega)
        · replace c_10 := (not_congr (nI_leI (by omega) (by omega))).mp c_10
          refine g_aload_n (pc9 := 40) C rfl 3 dX5_fewestChanges_39 rfl rfl ?_
          refine g_get (v := .ref (w.1 (50))) (pc9 := 43) C rfl (49) 0 dX5_fewestChanges_40 (by decide) (ce_49 w (sI σ (50) (fillG (ini (tK σ j) (iA σ 48) b) (iA σ 50) (v * 4 + s9)))) hin_5 hl_9 rfl (by decide) rfl rfl ?_
          refine g_iload (pc9 := 45) C rfl 2 dX5_fewestChanges_43 rfl ?_
          refine g_iconst (pc9 := 46) C rfl (nI (4)) dX5_fewestChanges_45 rfl ?_
          refine g_imulN (pc9 := 47) C rfl dX5_fewestChanges_46 ?_
          refine g_iload (pc9 := 49) C rfl 0 dX5_fewestChanges_47 rfl ?_
          refine g_iaddN (pc9 := 50) C rfl dX5_fewestChanges_49 ?_
          refine g_iload (pc9 := 52) C rfl 1 dX5_fewestChanges_50 rfl ?_
          refine g_if_eq (pc9 := 55) C rfl 77 dX5_fewestChanges_52 rfl (fun c_11 => ?_) (fun c_11 => ?_)
          · exact absurd c_11 (by decide)
          · refine g_aload_n (pc9 := 56) C rfl 5 dX5_fewestChanges_55 rfl rfl ?_
            refine g_iload_n (pc9 := 57) C rfl 6 dX5_fewestChanges_56 rfl rfl ?_
            refine g_aload_n (pc9 := 58) C rfl 4 dX5_fewestChanges_57 rfl rfl ?_
            refine g_get (v := .ref (w.1 (66 + 5 * j))) (pc9 := 61) C rfl (64 + 5 * j) 1 dX5_fewestChanges_58 (by omega) (ce_tree w (sI σ (50) (fillG (ini (tK σ j) (iA σ 48) b) (iA σ 50) (v * 4 + s9))) (j)) hin_7 hl_28 rfl (by decide) rfl rfl ?_
            refine g_iload (pc9 := 63) C rfl 2 dX5_fewestChanges_61 rfl ?_
            refine g_iald (x := nI (q)) (pc9 := 64) C rfl (66 + 5 * j) (v) dX5_fewestChanges_63 (by omega) (ce_kind w (sI σ (50) (fillG (ini (tK σ j) (iA σ 48) b) (iA σ 50) (v * 4 + s9))) (j)) rfl (by omega) (by decide) ((congrFun (iA_n (by omega)) _).trans hk) ?_
            refine g_iaddN (pc9 := 65) C rfl dX5_fewestChanges_64 ?_
            refine g_iald (x := (iA σ (48)) (b + q)) (pc9 := 66) C rfl (48) (b + q) dX5_fewestChanges_65 (by decide) (ce_48 w (sI σ (50) (fillG (ini (tK σ j) (iA σ 48) b) (iA σ 50) (v * 4 + s9)))) rfl (by omega) (by decide) (congrFun (iA_n (by decide)) _) ?_
            refine g_iload (pc9 := 68) C rfl 0 dX5_fewestChanges_66 rfl ?_
            refine g_icmp_eq (pc9 := 71) C rfl 77 dX5_fewestChanges_68 rfl (fun c_12 => ?_) (fun c_12 => ?_)
            · have hst := ini_y (T := iA σ 48) (b := b) (by omega : s9 < 4) hq hk c_12
              refine g_iconst (pc9 := 78) C rfl (nI (0)) dX5_fewestChanges_77 rfl ?_
              refine g_iast (pc9 := 79) C rfl (50) ((v * 4) + s9) (fillG (ini (tK σ j) (iA σ 48) b) (iA σ 50) (v * 4 + s9)) dX5_fewestChanges_78 (by decide) (fun _ => rfl) (ce_50 w (sI σ (50) (fillG (ini (tK σ j) (iA σ 48) b) (iA σ 50) (v * 4 + s9)))) rfl (by omega) (by decide) (iA_s) ?_
              rw [sI_sI (a := 50)]
              refine g_st (σ9 := sI σ (50) (fillG (ini (tK σ j) (iA σ 48) b) (iA σ 50) (v * 4 + s9 + 1))) (by rw [← fillG_s, hst]) ?_
              refine g_iinc (pc9 := 82) C rfl [(6, .int (nI (s9 + 1))), (5, .int (nI (1))), (4, .int (nI (v))), (0, .ref (w.1 (49))), (1, .ref (w.1 (64 + 5 * j))), (2, .ref (w.1 (48))), (3, .int (nI (b)))] 0 (nI (s9 + 1)) dX5_fewestChanges_79 rfl (nI_1 (s9)) (by decide) rfl ?_
              refine g_goto C 33 dX5_fewestChanges_82 rfl ?_
              exact ih2 (s9 + 1) (by omega) (by omega)
            · have hst := ini_k (T := iA σ 48) (b := b) (by omega : s9 < 4) hq hk c_12
              refine g_sipush (pc9 := 74) C rfl (nI (1000)) dX5_fewestChanges_71 rfl ?_
              refine g_goto C 78 dX5_fewestChanges_74 rfl ?_
              refine g_iast (pc9 := 79) C rfl (50) ((v * 4) + s9) (fillG (ini (tK σ j) (iA σ 48) b) (iA σ 50) (v * 4 + s9)) dX5_fewestChanges_78 (by decide) (fun _ => rfl) (ce_50 w (sI σ (50) (fillG (ini (tK σ j) (iA σ 48) b) (iA σ 50) (v * 4 + s9)))) rfl (by omega) (by decide) (iA_s) ?_
              rw [sI_sI (a := 50)]
              refine g_st (σ9 := sI σ (50) (fillG (ini (tK σ j) (iA σ 48) b) (iA σ 50) (v * 4 + s9 + 1))) (by rw [← fillG_s, hst]) ?_
              refine g_iinc (pc9 := 82) C rfl [(6, .int (nI (s9 + 1))), (5, .int (nI (1))), (4, .int (nI (v))), (0, .ref (w.1 (49))), (1, .ref (w.1 (64 + 5 * j))), (2, .ref (w.1 (48))), (3, .int (nI (b)))] 0 (nI (s9 + 1)) dX5_fewestChanges_79 rfl (nI_1 (s9)) (by decide) rfl ?_
              refine g_goto C 33 dX5_fewestChanges_82 rfl ?_
              exact ih2 (s9 + 1) (by omega) (by omega)
theorem nz64 {i : Nat} (h0 : 0 < i) (h : i < 2 ^ 31) : ¬ (nI i).toInt64 = 0 := by
  intro q
  rw [nI_l h] at q
  have h1 := (lN_eq h (by decide : 0 < 2 ^ 31)).mp (q.trans (by rfl))
  omega
/-- i steps of choosing b of a -/
def chU (a b : Nat) : Nat → Int64
  | 0 => 1
  | i + 1 => (chU a b i * (nI (a - b + (i + 1))).toInt64) / (nI (i + 1)).toInt64
set_option maxRecDepth 100000 in
set_option maxHeartbeats 4000000 in
theorem m_X5_choices (l : Launch) (w : Wd) (σ : St) (a b : Nat) (hb : b ≤ a) (ha : a ≤ 1000) : ML l yX5_choices wsX5_choices (rmL 1) w [.int (nI (a)), .int (nI (b))] (σ) (fun r σ9 => σ9 = σ ∧ r = chU a b b) := by
  refine ML_of (cc := cX5_choices) (maxL := 5) (ret := .long) (by decide) rfl (Nat.le_of_ble_eq_true rfl) ?_
  intro p e s m args below meth c A C hr hlk
  have C : Cx p s m args c w A cX5_choices RX5 5 wsX5_choices := C
  refine g_lconst (pc9 := 1) C rfl (1) dX5_choices_0 rfl ?_
  refine g_lstore_n (pc9 := 2) C rfl [(2, .long ((1))), (0, .int (nI (a))), (1, .int (nI (b)))] dX5_choices_1 rfl (by decide) rfl ?_
  refine g_iconst (pc9 := 3) C rfl (nI (1)) dX5_choices_2 rfl ?_
  refine g_istore (pc9 := 5) C rfl [(4, .int (nI (1))), (2, .long ((1))), (0, .int (nI (a))), (1, .int (nI (b)))] dX5_choices_3 (by decide) rfl ?_
  refine g_sub [0, 1, 2, 3] [(4, .int (nI (1))), (2, .long ((1))), (0, .int (nI (a))), (1, .int (nI (b)))] rfl ?_
  refine g_lp1 (α := Nat) (fun i => i ≤ b) (fun i => b - i) (fun i => G p l e _ s m args below meth c _ w A _ (σ) 0 0 5 [(4, .int (nI (i + 1))), (2, .long (chU a b i)), (0, .int (nI (a))), (1, .int (nI (b)))] []) (fun i hI ih => ?_) (0) (Nat.zero_le _)
  obtain hi := hI
  refine g_iload (pc9 := 7) C rfl 0 dX5_choices_5 rfl ?_
  refine g_iload_n (pc9 := 8) C rfl 3 dX5_choices_7 rfl rfl ?_
  refine g_icmp_gt (pc9 := 11) C rfl 31 dX5_choices_8 rfl (fun c_1 => ?_) (fun c_1 => ?_)
  · replace c_1 := (nI_ltI (by omega) (by omega)).mp c_1
    refine g_lload_n (pc9 := 32) C rfl 1 dX5_choices_31 rfl rfl ?_
    exact g_lreturn C hr hlk dX5_choices_32 ⟨rfl, by rw [show i = b by omega]⟩
  · replace c_1 := (not_congr (nI_ltI (by omega) (by omega))).mp c_1
    refine g_lload_n (pc9 := 12) C rfl 1 dX5_choices_11 rfl rfl ?_
    refine g_iload_n (pc9 := 13) C rfl 2 dX5_choices_12 rfl rfl ?_
    refine g_iload_n (pc9 := 14) C rfl 3 dX5_choices_13 rfl rfl ?_
    refine g_isubN (pc9 := 15) C rfl dX5_choices_14 (by omega) ?_
    refine g_iload (pc9 := 17) C rfl 0 dX5_choices_15 rfl ?_
    refine g_iaddN (pc9 := 18) C rfl dX5_choices_17 ?_
    refine g_i2l (pc9 := 19) C rfl dX5_choices_18 ?_
    refine g_lmul (pc9 := 20) C rfl dX5_choices_19 ?_
    refine g_iload (pc9 := 22) C rfl 0 dX5_choices_20 rfl ?_
    refine g_i2l (pc9 := 23) C rfl dX5_choices_22 ?_
    refine g_ldiv (pc9 := 24) C rfl dX5_choices_23 (nz64 (by omega) (by omega)) ?_
    refine g_lstore_n (pc9 := 25) C rfl [(2, .long (((chU a b i) * ((nI ((a - (b)) + (i + 1))).toInt64)) / ((nI (i + 1)).toInt64))), (4, .int (nI (i + 1))), (0, .int (nI (a))), (1, .int (nI (b)))] dX5_choices_24 rfl (by decide) rfl ?_
    refine g_iinc (pc9 := 28) C rfl [(4, .int (nI (i + 1 + 1))), (2, .long (((chU a b i) * ((nI ((a - (b)) + (i + 1))).toInt64)) / ((nI (i + 1)).toInt64))), (0, .int (nI (a))), (1, .int (nI (b)))] 1 (nI (i + 1 + 1)) dX5_choices_25 rfl (nI_1 (i + 1)) (by decide) rfl ?_
    refine g_goto C 5 dX5_choices_28 rfl ?_
    exact ih (i + 1) (by omega) (by omega)

/-! Tree: gathering clusters, heights, growing -/
def gath (P : Nat → Nat) : Nat → (Nat → Int32) → (Nat → Int32)
  | 0, c => c
  | v + 1, c => gath P v (upd c (P (v + 1)) (c (P (v + 1)) ||| c (v + 1)))
theorem gath_st {P : Nat → Nat} {v : Nat} {c : Nat → Int32} (h : 0 < v) : gath P v c = gath P (v - 1) (upd c (P v) (c (P v) ||| c v)) := by
  obtain ⟨u, rfl⟩ : ∃ u, v = u + 1 := ⟨v - 1, by omega⟩
  rfl
set_option maxRecDepth 100000 in
set_option maxHeartbeats 4000000 in
theorem m_X7_gatherClusters (l : Launch) (w : Wd) (σ : St) (j : Nat) (hj : j < 9) (n : Nat) (hn : tN σ j = nI n) (h47 : n ≤ 47) (P : Nat → Nat) (hP : ∀ v, 0 < v → v < n → tP σ j v = nI (P v) ∧ P v < v) (h0 : 0 < n) : MV l yX7_gatherClusters wsX7_gatherClusters (rmL 1) w [.ref (w.1 (64 + 5 * j))] (σ) (fun σ9 => σ9 = sI σ (67 + 5 * j) (gath P (n - 1) (tC σ j))) := by
  refine MV_of (cc := cX7_gatherClusters) (maxL := 2) (by decide) rfl (Nat.le_of_ble_eq_true rfl) ?_
  intro p e s m args below meth c A C hr hlk
  have C : Cx p s m args c w A cX7_gatherClusters RX7 2 wsX7_gatherClusters := C
  have hin_7 : ∀ u ∈ wsX70, u ∈ wsX7_gatherClusters := by decide +kernel
  have hl_9 : Cond.fieldLink RX7 9 "LineageBench$Tree" "parent" "[I" ∈ wsX7_gatherClusters := by decide +kernel
  have hl_18 : Cond.fieldLink RX7 18 "LineageBench$Tree" "cluster" "[I" ∈ wsX7_gatherClusters := by decide +kernel
  have hl_24 : Cond.fieldLink RX7 24 "LineageBench$Tree" "nodes" "I" ∈ wsX7_gatherClusters := by decide +kernel
  refine g_st (sI_self (σ := σ) (a := 67 + 5 * j)).symm ?_
  refine g_aload_n (pc9 := 1) C rfl 0 dX7_gatherClusters_0 rfl rfl ?_
  refine g_get (v := .int (nI (n))) (pc9 := 4) C rfl (64 + 5 * j) 4 dX7_gatherClusters_1 (by omega) (ce_tree w (sI σ (67 + 5 * j) (iA σ (67 + 5 * j))) (j)) hin_7 hl_24 rfl (by decide) rfl (congrArg (fun z => some (Value.int z)) ((nF_I).trans hn)) ?_
  refine g_iconst (pc9 := 5) C rfl (nI (1)) dX7_gatherClusters_4 rfl ?_
  refine g_isubN (pc9 := 6) C rfl dX7_gatherClusters_5 (by omega) ?_
  refine g_istore_n (pc9 := 7) C rfl [(1, .int (nI (n - (1)))), (0, .ref (w.1 (64 + 5 * j)))] dX7_gatherClusters_6 rfl (by decide) rfl ?_
  refine g_lp2 (α := Nat) (β := Nat → Int32) (fun v d => v < n ∧ gath P v d = gath P (n - 1) (tC σ j)) (fun v d => v) (fun v d => G p l e _ s m args below meth c _ w A _ (sI σ (67 + 5 * j) (d)) 0 0 7 [(1, .int (nI (v))), (0, .ref (w.1 (64 + 5 * j)))] []) (fun v d hI ih => ?_) (n - 1) (tC σ j) ⟨by omega, rfl⟩
  obtain ⟨hv, hd⟩ := hI
  refine g_iload_n (pc9 := 8) C rfl 0 dX7_gatherClusters_7 rfl rfl ?_
  refine g_if_le (pc9 := 11) C rfl 37 dX7_gatherClusters_8 rfl (fun c_1 => ?_) (fun c_1 => ?_)
  · replace c_1 := (z_le (by omega)).mp c_1
    exact g_return C hr hlk dX7_gatherClusters_37 (by rw [← hd, show v = 0 by omega]; rfl)
  · replace c_1 := (not_congr (z_le (by omega))).mp c_1
    have hPv := (hP v (by omega) (by omega)).2
    refine g_aload_n (pc9 := 12) C rfl 1 dX7_gatherClusters_11 rfl rfl ?_
    refine g_get (v := .ref (w.1 (67 + 5 * j))) (pc9 := 15) C rfl (64 + 5 * j) 2 dX7_gatherClusters_12 (by omega) (ce_tree w (sI σ (67 + 5 * j) (d)) (j)) hin_7 hl_18 rfl (by decide) rfl rfl ?_
    refine g_aload_n (pc9 := 16) C rfl 1 dX7_gatherClusters_15 rfl rfl ?_
    refine g_get (v := .ref (w.1 (65 + 5 * j))) (pc9 := 19) C rfl (64 + 5 * j) 0 dX7_gatherClusters_16 (by omega) (ce_tree w (sI σ (67 + 5 * j) (d)) (j)) hin_7 hl_9 rfl (by decide) rfl rfl ?_
    refine g_iload_n (pc9 := 20) C rfl 0 dX7_gatherClusters_19 rfl rfl ?_
    refine g_iald (x := nI (P (v))) (pc9 := 21) C rfl (65 + 5 * j) (v) dX7_gatherClusters_20 (by omega) (ce_parent w (sI σ (67 + 5 * j) (d)) (j)) rfl (by omega) (by decide) ((congrFun (iA_n (by omega)) _).trans (hP (v) (by omega) (by omega)).1) ?_
    refine g_dup2 (pc9 := 22) C rfl dX7_gatherClusters_21 rfl rfl ?_
    refine g_iald (x := d (P (v))) (pc9 := 23) C rfl (67 + 5 * j) (P (v)) dX7_gatherClusters_22 (by omega) (ce_cluster w (sI σ (67 + 5 * j) (d)) (j)) rfl (by omega) (by decide) (congrFun (iA_s) _) ?_
    refine g_aload_n (pc9 := 24) C rfl 1 dX7_gatherClusters_23 rfl rfl ?_
    refine g_get (v := .ref (w.1 (67 + 5 * j))) (pc9 := 27) C rfl (64 + 5 * j) 2 dX7_gatherClusters_24 (by omega) (ce_tree w (sI σ (67 + 5 * j) (d)) (j)) hin_7 hl_18 rfl (by decide) rfl rfl ?_
    refine g_iload_n (pc9 := 28) C rfl 0 dX7_gatherClusters_27 rfl rfl ?_
    refine g_iald (x := d (v)) (pc9 := 29) C rfl (67 + 5 * j) (v) dX7_gatherClusters_28 (by omega) (ce_cluster w (sI σ (67 + 5 * j) (d)) (j)) rfl (by omega) (by decide) (congrFun (iA_s) _) ?_
    refine g_ior (pc9 := 30) C rfl dX7_gatherClusters_29 ?_
    refine g_iast (pc9 := 31) C rfl (67 + 5 * j) (P (v)) (d) dX7_gatherClusters_30 (by omega) (fun f => ca_cluster w _ (j) f) (ce_cluster w (sI σ (67 + 5 * j) (d)) (j)) rfl (by omega) (by decide) (iA_s) ?_
    rw [sI_sI (a := 67 + 5 * j)]
    refine g_iinc (pc9 := 34) C rfl [(1, .int (nI (v - 1))), (0, .ref (w.1 (64 + 5 * j)))] 0 (nI (v - 1)) dX7_gatherClusters_31 rfl (sb_m1 (by omega)) (by decide) rfl ?_
    refine g_goto C 7 dX7_gatherClusters_34 rfl ?_
    exact ih (v - 1) (upd (d) (P (v)) ((d (P (v))) ||| (d (v)))) ⟨by omega, (gath_st (by omega)).symm.trans hd⟩ (by omega)
def depF (P : Nat → Nat) : Nat → Nat → Nat
  | 0, _ => 0
  | f + 1, v => if v = 0 then 1 else depF P f (P v) + 1
def dep (P : Nat → Nat) (v : Nat) : Nat := depF P (v + 1) v
theorem depF_more {P : Nat → Nat} {n : Nat} (hP : ∀ v, 0 < v → v < n → P v < v) : ∀ (f g v : Nat), v < n → v < f → v < g → depF P f v = depF P g v := by
  intro f
  induction f with
  | zero => intro g v _ h; omega
  | succ f ih =>
    intro g v hn h1 h2
    obtain ⟨k, rfl⟩ : ∃ k, g = k + 1 := ⟨g - 1, by omega⟩
    show (if v = 0 then 1 else depF P f (P v) + 1) = (if v = 0 then 1 else depF P k (P v) + 1)
    split
    · rfl
    · rename_i h
      have := hP v (by omega) hn
      rw [ih k (P v) (by omega) (by omega) (by omega)]
theorem dep_0 (P : Nat → Nat) : dep P 0 = 1 := rfl
theorem dep_s {P : Nat → Nat} {n : Nat} (hP : ∀ v, 0 < v → v < n → P v < v) {v : Nat} (h0 : 0 < v) (hv : v < n) : dep P v = dep P (P v) + 1 := by
  have := hP v h0 hv
  show (if v = 0 then 1 else depF P v (P v) + 1) = _
  rw [if_neg (by omega)]
  unfold dep
  rw [depF_more hP v (P v + 1) (P v) (by omega) (by omega) (by omega)]
theorem dep_le {P : Nat → Nat} {n : Nat} (hP : ∀ v, 0 < v → v < n → P v < v) : ∀ (v : Nat), v < n → dep P v ≤ v + 1 := by
  have key : ∀ (f v : Nat), v < f → v < n → dep P v ≤ v + 1 := by
    intro f
    induction f with
    | zero => intro v h; omega
    | succ f ih =>
      intro v h1 h2
      by_cases h0 : v = 0
      · subst h0; exact Nat.le_refl _
      · have := hP v (by omega) h2
        rw [dep_s hP (by omega) h2]
        have := ih (P v) (by omega) (by omega)
        omega
  exact fun v h => key (v + 1) v (by omega) h
theorem dep_pos {P : Nat → Nat} {v : Nat} : 0 < dep P v := by
  unfold dep depF
  split <;> omega
theorem nI_m1 {a : Nat} (h : a < 2 ^ 31) : ¬ nI a = -1 := by
  intro q
  have h1 := nI_toInt h
  rw [q] at h1
  have : (-1 : Int32).toInt = -1 := by decide
  omega
set_option maxRecDepth 100000 in
set_option maxHeartbeats 4000000 in
theorem m_X7_nodesUpFrom (l : Launch) (w : Wd) (σ : St) (j : Nat) (hj : j < 9) (n : Nat) (hn : tN σ j = nI n) (h47 : n ≤ 47) (P : Nat → Nat) (hP : ∀ v, 0 < v → v < n → tP σ j v = nI (P v) ∧ P v < v) (h00 : 0 < n → tP σ j 0 = -1) (i : Nat) (hi : i < n) : MI l yX7_nodesUpFrom wsX7_nodesUpFrom (rmL 1) w [.ref (w.1 (64 + 5 * j)), .int (nI (i))] (σ) (fun r σ9 => σ9 = σ ∧ r = nI (dep P i)) := by
  refine MI_of (cc := cX7_nodesUpFrom) (maxL := 4) (ret := .int) (by decide) rfl (Nat.le_of_ble_eq_true rfl) ?_
  intro p e s m args below meth c A C hr hlk
  have C : Cx p s m args c w A cX7_nodesUpFrom RX7 4 wsX7_nodesUpFrom := C
  have hin_7 : ∀ u ∈ wsX70, u ∈ wsX7_nodesUpFrom := by decide +kernel
  have hl_9 : Cond.fieldLink RX7 9 "LineageBench$Tree" "parent" "[I" ∈ wsX7_nodesUpFrom := by decide +kernel
  have hl_24 : Cond.fieldLink RX7 24 "LineageBench$Tree" "nodes" "I" ∈ wsX7_nodesUpFrom := by decide +kernel
  refine g_iconst (pc9 := 1) C rfl (nI (0)) dX7_nodesUpFrom_0 rfl ?_
  refine g_istore_n (pc9 := 2) C rfl [(2, .int (nI (0))), (0, .ref (w.1 (64 + 5 * j))), (1, .int (nI (i)))] dX7_nodesUpFrom_1 rfl (by decide) rfl ?_
  refine g_iload_n (pc9 := 3) C rfl 2 dX7_nodesUpFrom_2 rfl rfl ?_
  refine g_istore_n (pc9 := 4) C rfl [(3, .int (nI (i))), (2, .int (nI (0))), (0, .ref (w.1 (64 + 5 * j))), (1, .int (nI (i)))] dX7_nodesUpFrom_3 rfl (by decide) rfl ?_
  refine g_lp2 (α := Int32) (β := Nat) (fun x t => (x = -1 ∧ t = dep P i) ∨ (∃ a, x = nI a ∧ a < n ∧ a ≤ i ∧ t + dep P a = dep P i)) (fun x t => n + 1 - t) (fun x t => G p l e _ s m args below meth c _ w A _ (σ) 0 0 4 [(3, .int (x)), (2, .int (nI (t))), (0, .ref (w.1 (64 + 5 * j))), (1, .int (nI (i)))] []) (fun x t hI ih => ?_) (nI i) (0) (Or.inr ⟨i, rfl, hi, Nat.le_refl _, Nat.zero_add _⟩)
  obtain hI := hI
  have hdi := dep_le (fun v h1 h2 => (hP v h1 h2).2) i hi
  rcases hI with ⟨hx, ht⟩ | ⟨a, hx, han, hai, ht⟩
  · subst hx
    refine g_iload_n (pc9 := 5) C rfl 0 dX7_nodesUpFrom_4 rfl rfl ?_
    refine g_iconst (pc9 := 6) C rfl ((-1)) dX7_nodesUpFrom_5 rfl ?_
    refine g_icmp_eq (pc9 := 9) C rfl 30 dX7_nodesUpFrom_6 rfl (fun c_1 => ?_) (fun c_1 => ?_)
    · refine g_iload_n (pc9 := 31) C rfl 1 dX7_nodesUpFrom_30 rfl rfl ?_
      exact g_ireturn C hr hlk dX7_nodesUpFrom_31 ⟨rfl, by rw [ht]⟩
    · exact absurd rfl (by assumption)
  · subst hx
    have hda := dep_pos (P := P) (v := a)
    refine g_iload_n (pc9 := 5) C rfl 0 dX7_nodesUpFrom_4 rfl rfl ?_
    refine g_iconst (pc9 := 6) C rfl ((-1)) dX7_nodesUpFrom_5 rfl ?_
    refine g_icmp_eq (pc9 := 9) C rfl 30 dX7_nodesUpFrom_6 rfl (fun c_2 => ?_) (fun c_2 => ?_)
    · exact absurd c_2 (nI_m1 (by omega))
    · refine g_iload_n (pc9 := 10) C rfl 1 dX7_nodesUpFrom_9 rfl rfl ?_
      refine g_aload_n (pc9 := 11) C rfl 2 dX7_nodesUpFrom_10 rfl rfl ?_
      refine g_get (v := .int (nI (n))) (pc9 := 14) C rfl (64 + 5 * j) 4 dX7_nodesUpFrom_11 (by omega) (ce_tree w (σ) (j)) hin_7 hl_24 rfl (by decide) rfl (congrArg (fun z => some (Value.int z)) hn) ?_
      refine g_icmp_ge (pc9 := 17) C rfl 30 dX7_nodesUpFrom_14 rfl (fun c_3 => ?_) (fun c_3 => ?_)
      · replace c_3 := (nI_leI (by omega) (by omega)).mp c_3
        exact absurd han (by omega)
      · replace c_3 := (not_congr (nI_leI (by omega) (by omega))).mp c_3
        refine g_iinc (pc9 := 20) C rfl [(2, .int (nI (t + 1))), (3, .int (nI (a))), (0, .ref (w.1 (64 + 5 * j))), (1, .int (nI (i)))] 1 (nI (t + 1)) dX7_nodesUpFrom_17 rfl (nI_1 (t)) (by decide) rfl ?_
        refine g_aload_n (pc9 := 21) C rfl 2 dX7_nodesUpFrom_20 rfl rfl ?_
        refine g_get (v := .ref (w.1 (65 + 5 * j))) (pc9 := 24) C rfl (64 + 5 * j) 0 dX7_nodesUpFrom_21 (by omega) (ce_tree w (σ) (j)) hin_7 hl_9 rfl (by decide) rfl rfl ?_
        refine g_iload_n (pc9 := 25) C rfl 1 dX7_nodesUpFrom_24 rfl rfl ?_
        refine g_iald (x := tP σ j (a)) (pc9 := 26) C rfl (65 + 5 * j) (a) dX7_nodesUpFrom_25 (by omega) (ce_parent w (σ) (j)) rfl (by omega) (by decide) rfl ?_
        refine g_istore_n (pc9 := 27) C rfl [(3, .int (tP σ j (a))), (2, .int (nI (t + 1))), (0, .ref (w.1 (64 + 5 * j))), (1, .int (nI (i)))] dX7_nodesUpFrom_26 rfl (by decide) rfl ?_
        refine g_goto C 4 dX7_nodesUpFrom_27 rfl ?_
        refine g_sub [0, 1, 2, 3] [(3, .int (tP σ j (a))), (2, .int (nI (t + 1))), (0, .ref (w.1 (64 + 5 * j))), (1, .int (nI (i)))] rfl ?_
        by_cases ha0 : a = 0
        · refine ih _ (t + 1) (Or.inl ⟨?_, ?_⟩) (by omega)
          · subst ha0; exact h00 (by omega)
          · subst ha0; rw [← ht, dep_0]
        · have hpa := hP a (by omega) han
          refine ih _ (t + 1) (Or.inr ⟨P a, hpa.1, by omega, by omega, ?_⟩) (by omega)
          rw [← ht, dep_s (fun v h1 h2 => (hP v h1 h2).2) (by omega) han]; omega
def maxF (f : Nat → Nat) : Nat → Nat
  | 0 => 0
  | v + 1 => max (maxF f v) (f v)
theorem mx_nI {a b : Nat} (ha : a < 2 ^ 31) (hb : b < 2 ^ 31) : (if nI a < nI b then nI b else nI a) = nI (max a b) := by
  by_cases h : a < b
  · rw [if_pos (nI_lt h hb), Nat.max_eq_right (by omega)]
  · rw [if_neg (nI_nlt (by omega) ha), Nat.max_eq_left (by omega)]
set_option maxRecDepth 100000 in
set_option maxHeartbeats 4000000 in
theorem m_X7_height (l : Launch) (w : Wd) (σ : St) (j : Nat) (hj : j < 9) (n : Nat) (hn : tN σ j = nI n) (h47 : n ≤ 47) (P : Nat → Nat) (hP : ∀ v, 0 < v → v < n → tP σ j v = nI (P v) ∧ P v < v) (h00 : 0 < n → tP σ j 0 = -1) : MI l yX7_height wsX7_height (rmL 2) w [.ref (w.1 (64 + 5 * j))] (σ) (fun r σ9 => σ9 = σ ∧ r = nI (maxF (dep P) n)) := by
  refine MI_of (cc := cX7_height) (maxL := 3) (ret := .int) (by decide) rfl (Nat.le_of_ble_eq_true rfl) ?_
  intro p e s m args below meth c A C hr hlk
  have C : Cx p s m args c w A cX7_height RX7 3 wsX7_height := C
  have hin_7 : ∀ u ∈ wsX70, u ∈ wsX7_height := by decide +kernel
  have hl_24 : Cond.fieldLink RX7 24 "LineageBench$Tree" "nodes" "I" ∈ wsX7_height := by decide +kernel
  refine g_iconst (pc9 := 1) C rfl (nI (0)) dX7_height_0 rfl ?_
  refine g_istore_n (pc9 := 2) C rfl [(1, .int (nI (0))), (0, .ref (w.1 (64 + 5 * j)))] dX7_height_1 rfl (by decide) rfl ?_
  refine g_iconst (pc9 := 3) C rfl (nI (0)) dX7_height_2 rfl ?_
  refine g_istore_n (pc9 := 4) C rfl [(2, .int (nI (0))), (1, .int (nI (0))), (0, .ref (w.1 (64 + 5 * j)))] dX7_height_3 rfl (by decide) rfl ?_
  refine g_lp1 (α := Nat) (fun v => v ≤ n ∧ maxF (dep P) v ≤ n) (fun v => n - v) (fun v => G p l e _ s m args below meth c _ w A _ (σ) 0 0 4 [(2, .int (nI (v))), (1, .int (nI (maxF (dep P) v))), (0, .ref (w.1 (64 + 5 * j)))] []) (fun v hI ih => ?_) (0) ⟨Nat.zero_le _, Nat.zero_le _⟩
  obtain ⟨hv, hm⟩ := hI
  refine g_iload_n (pc9 := 5) C rfl 0 dX7_height_4 rfl rfl ?_
  refine g_aload_n (pc9 := 6) C rfl 2 dX7_height_5 rfl rfl ?_
  refine g_get (v := .int (nI (n))) (pc9 := 9) C rfl (64 + 5 * j) 4 dX7_height_6 (by omega) (ce_tree w (σ) (j)) hin_7 hl_24 rfl (by decide) rfl (congrArg (fun z => some (Value.int z)) hn) ?_
  refine g_icmp_ge (pc9 := 12) C rfl 28 dX7_height_9 rfl (fun c_1 => ?_) (fun c_1 => ?_)
  · replace c_1 := (nI_leI (by omega) (by omega)).mp c_1
    refine g_iload_n (pc9 := 29) C rfl 1 dX7_height_28 rfl rfl ?_
    exact g_ireturn C hr hlk dX7_height_29 ⟨rfl, by rw [show v = n by omega]⟩
  · replace c_1 := (not_congr (nI_leI (by omega) (by omega))).mp c_1
    have hdv := dep_le (fun v h1 h2 => (hP v h1 h2).2) v (by omega)
    have hms : maxF (dep P) (v + 1) = max (maxF (dep P) v) (dep P v) := rfl
    refine g_iload_n (pc9 := 13) C rfl 1 dX7_height_12 rfl rfl ?_
    refine g_aload_n (pc9 := 14) C rfl 2 dX7_height_13 rfl rfl ?_
    refine g_iload_n (pc9 := 15) C rfl 0 dX7_height_14 rfl rfl ?_
    refine g_callVi (nn := 1) (rest := [.int (nI (maxF (dep P) v))]) (pc9 := 18) C rfl (64 + 5 * j) [.int (nI (v))] rfl dX7_height_15 (m_X7_nodesUpFrom l w σ j hj n hn h47 P hP h00 v (by omega)) gX7_height_X7_nodesUpFrom (by omega) (ce_tree w (σ) (j)) rfl rfl rfl rfl rfl (by decide +kernel) ⟨by decide, by decide⟩ rfl (Nat.le_of_ble_eq_true rfl) ⟨by decide, by decide⟩ (fun r_2 σ_2 q_2 => ?_)
    obtain ⟨qs_2, qr_2⟩ := q_2
    rw [qs_2, qr_2]
    clear qs_2 qr_2
    refine g_mmax (pc9 := 21) C rfl dX7_height_18 (by decide +kernel) (by decide +kernel) (by decide +kernel) (by decide +kernel) (by decide) (Nat.le_of_ble_eq_true rfl) (by decide) (by decide) ?_
    rw [mx_nI (by omega) (by omega)]
    refine g_istore_n (pc9 := 22) C rfl [(1, .int (nI (maxF (dep P) (v + 1)))), (2, .int (nI (v))), (0, .ref (w.1 (64 + 5 * j)))] dX7_height_21 rfl (by decide) rfl ?_
    refine g_iinc (pc9 := 25) C rfl [(2, .int (nI (v + 1))), (1, .int (nI (maxF (dep P) (v + 1)))), (0, .ref (w.1 (64 + 5 * j)))] 1 (nI (v + 1)) dX7_height_22 rfl (nI_1 (v)) (by decide) rfl ?_
    refine g_goto C 4 dX7_height_25 rfl ?_
    exact ih (v + 1) ⟨by omega, by rw [hms]; omega⟩ (by omega)

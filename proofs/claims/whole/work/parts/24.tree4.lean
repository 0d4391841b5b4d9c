/-! Tree: more questions -/
set_option maxRecDepth 100000 in
set_option maxHeartbeats 4000000 in
theorem m_X7_shows (l : Launch) (w : Wd) (σ : St) (j : Nat) (hj : j < 9) (n : Nat) (hn : tN σ j = nI n) (h47 : n ≤ 47) (x y : Int32) : MI l yX7_shows wsX7_shows (rmL 2) w [.ref (w.1 (64 + 5 * j)), .int (x), .int (y)] (σ) (fun r σ9 => σ9 = σ ∧ r = pI ((if tN σ j = 0 then 0 else tC σ j 0) &&& (x ||| y) = x ||| y ∧ ∃ v, v < n ∧ tC σ j v &&& (x ||| y) = x)) := by
  refine MI_of (cc := cX7_shows) (maxL := 5) (ret := .boolean) (by decide) rfl (Nat.le_of_ble_eq_true rfl) ?_
  intro p e s m args below meth c A C hr hlk
  have C : Cx p s m args c w A cX7_shows RX7 5 wsX7_shows := C
  have hin_7 : ∀ u ∈ wsX70, u ∈ wsX7_shows := by decide +kernel
  have hl_18 : Cond.fieldLink RX7 18 "LineageBench$Tree" "cluster" "[I" ∈ wsX7_shows := by decide +kernel
  have hl_24 : Cond.fieldLink RX7 24 "LineageBench$Tree" "nodes" "I" ∈ wsX7_shows := by decide +kernel
  refine g_iload_n (pc9 := 1) C rfl 1 dX7_shows_0 rfl rfl ?_
  refine g_iload_n (pc9 := 2) C rfl 2 dX7_shows_1 rfl rfl ?_
  refine g_ior (pc9 := 3) C rfl dX7_shows_2 ?_
  refine g_istore_n (pc9 := 4) C rfl [(3, .int ((x) ||| (y))), (0, .ref (w.1 (64 + 5 * j))), (1, .int (x)), (2, .int (y))] dX7_shows_3 rfl (by decide) rfl ?_
  refine g_aload_n (pc9 := 5) C rfl 1 dX7_shows_4 rfl rfl ?_
  refine g_callVi (nn := 0) (rest := []) (pc9 := 8) C rfl (64 + 5 * j) [] rfl dX7_shows_5 (m_X7_allKinds l w σ j hj) gX7_shows_X7_allKinds (by omega) (ce_tree w (σ) (j)) rfl rfl rfl rfl rfl (by decide +kernel) ⟨by decide, by decide⟩ rfl (Nat.le_of_ble_eq_true rfl) ⟨by decide, by decide⟩ (fun r_1 σ_1 q_1 => ?_)
  obtain ⟨qs_1, qr_1⟩ := q_1
  rw [qs_1, qr_1]
  clear qs_1 qr_1
  refine g_iload_n (pc9 := 9) C rfl 0 dX7_shows_8 rfl rfl ?_
  refine g_iand (pc9 := 10) C rfl dX7_shows_9 ?_
  refine g_iload_n (pc9 := 11) C rfl 0 dX7_shows_10 rfl rfl ?_
  refine g_icmp_eq (pc9 := 14) C rfl 16 dX7_shows_11 rfl (fun c_2 => ?_) (fun c_2 => ?_)
  · have hk := c_2
    refine g_iconst (pc9 := 17) C rfl (nI (0)) dX7_shows_16 rfl ?_
    refine g_istore (pc9 := 19) C rfl [(4, .int (nI (0))), (3, .int ((x) ||| (y))), (0, .ref (w.1 (64 + 5 * j))), (1, .int (x)), (2, .int (y))] dX7_shows_17 (by decide) rfl ?_
    refine g_sub [0, 1, 2, 3, 4] [(4, .int (nI (0))), (3, .int ((x) ||| (y))), (0, .ref (w.1 (64 + 5 * j))), (1, .int (x)), (2, .int (y))] rfl ?_
    refine g_lp1 (α := Nat) (fun v => v ≤ n ∧ ∀ u, u < v → ¬ tC σ j u &&& (x ||| y) = x) (fun v => n - v) (fun v => G p l e _ s m args below meth c _ w A _ (σ) 0 0 19 [(4, .int (nI (v))), (3, .int (x ||| y)), (0, .ref (w.1 (64 + 5 * j))), (1, .int (x)), (2, .int (y))] []) (fun v hI ih => ?_) (0) ⟨Nat.zero_le _, fun u h => absurd h (by omega)⟩
    obtain ⟨hv, hu⟩ := hI
    refine g_iload (pc9 := 21) C rfl 0 dX7_shows_19 rfl ?_
    refine g_aload_n (pc9 := 22) C rfl 2 dX7_shows_21 rfl rfl ?_
    refine g_get (v := .int (nI (n))) (pc9 := 25) C rfl (64 + 5 * j) 4 dX7_shows_22 (by omega) (ce_tree w (σ) (j)) hin_7 hl_24 rfl (by decide) rfl (congrArg (fun z => some (Value.int z)) hn) ?_
    refine g_icmp_ge (pc9 := 28) C rfl 49 dX7_shows_25 rfl (fun c_3 => ?_) (fun c_3 => ?_)
    · replace c_3 := (nI_leI (by omega) (by omega)).mp c_3
      refine g_iconst (pc9 := 50) C rfl (nI (0)) dX7_shows_49 rfl ?_
      exact g_zreturn C hr hlk dX7_shows_50 (by decide) ⟨rfl, (pI_f (fun ⟨_, u, h1, h2⟩ => hu u (by omega) h2)).symm⟩
    · replace c_3 := (not_congr (nI_leI (by omega) (by omega))).mp c_3
      refine g_aload_n (pc9 := 29) C rfl 2 dX7_shows_28 rfl rfl ?_
      refine g_get (v := .ref (w.1 (67 + 5 * j))) (pc9 := 32) C rfl (64 + 5 * j) 2 dX7_shows_29 (by omega) (ce_tree w (σ) (j)) hin_7 hl_18 rfl (by decide) rfl rfl ?_
      refine g_iload (pc9 := 34) C rfl 0 dX7_shows_32 rfl ?_
      refine g_iald (x := (iA σ (67 + 5 * j)) (v)) (pc9 := 35) C rfl (67 + 5 * j) (v) dX7_shows_34 (by omega) (ce_cluster w (σ) (j)) rfl (by omega) (by decide) rfl ?_
      refine g_iload_n (pc9 := 36) C rfl 1 dX7_shows_35 rfl rfl ?_
      refine g_iand (pc9 := 37) C rfl dX7_shows_36 ?_
      refine g_iload_n (pc9 := 38) C rfl 3 dX7_shows_37 rfl rfl ?_
      refine g_icmp_ne (pc9 := 41) C rfl 43 dX7_shows_38 rfl (fun c_4 => ?_) (fun c_4 => ?_)
      · have hne := c_4
        refine g_iinc (pc9 := 46) C rfl [(4, .int (nI (v + 1))), (3, .int (x ||| y)), (0, .ref (w.1 (64 + 5 * j))), (1, .int (x)), (2, .int (y))] 0 (nI (v + 1)) dX7_shows_43 rfl (nI_1 (v)) (by decide) rfl ?_
        refine g_goto C 19 dX7_shows_46 rfl ?_
        exact ih (v + 1) ⟨by omega, lt_s hu hne⟩ (by omega)
      · refine g_iconst (pc9 := 42) C rfl (nI (1)) dX7_shows_41 rfl ?_
        exact g_zreturn C hr hlk dX7_shows_42 (by decide) ⟨rfl, (pI_t ⟨hk, v, by omega, by assumption⟩).symm⟩
  · have hk := c_2
    refine g_iconst (pc9 := 15) C rfl (nI (0)) dX7_shows_14 rfl ?_
    exact g_zreturn C hr hlk dX7_shows_15 (by decide) ⟨rfl, (pI_f (fun h => hk h.1)).symm⟩
def wnU (f : Nat → Int32) (a b d : Int32) : Nat → Nat → Int32
  | 0, _ => nI 3
  | k + 1, v => if f v &&& ((a ||| b) ||| d) = a ||| b then nI 0 else if f v &&& ((a ||| b) ||| d) = a ||| d then nI 1 else if f v &&& ((a ||| b) ||| d) = b ||| d then nI 2 else wnU f a b d k (v + 1)
theorem wnU_s {f : Nat → Int32} {a b d : Int32} {n v : Nat} (h : v < n) : wnU f a b d (n - v) v = if f v &&& ((a ||| b) ||| d) = a ||| b then nI 0 else if f v &&& ((a ||| b) ||| d) = a ||| d then nI 1 else if f v &&& ((a ||| b) ||| d) = b ||| d then nI 2 else wnU f a b d (n - (v + 1)) (v + 1) := by
  rw [show n - v = (n - (v + 1)) + 1 by omega]
  rfl
set_option maxRecDepth 100000 in
set_option maxHeartbeats 4000000 in
theorem m_X7_whoIsNearer (l : Launch) (w : Wd) (σ : St) (j : Nat) (hj : j < 9) (n : Nat) (hn : tN σ j = nI n) (h47 : n ≤ 47) (a b d : Int32) : MI l yX7_whoIsNearer wsX7_whoIsNearer (rmL 1) w [.ref (w.1 (64 + 5 * j)), .int (a), .int (b), .int (d)] (σ) (fun r σ9 => σ9 = σ ∧ r = wnU (tC σ j) a b d n 0) := by
  refine MI_of (cc := cX7_whoIsNearer) (maxL := 6) (ret := .int) (by decide) rfl (Nat.le_of_ble_eq_true rfl) ?_
  intro p e s m args below meth c A C hr hlk
  have C : Cx p s m args c w A cX7_whoIsNearer RX7 6 wsX7_whoIsNearer := C
  have hin_7 : ∀ u ∈ wsX70, u ∈ wsX7_whoIsNearer := by decide +kernel
  have hl_18 : Cond.fieldLink RX7 18 "LineageBench$Tree" "cluster" "[I" ∈ wsX7_whoIsNearer := by decide +kernel
  have hl_24 : Cond.fieldLink RX7 24 "LineageBench$Tree" "nodes" "I" ∈ wsX7_whoIsNearer := by decide +kernel
  refine g_iconst (pc9 := 1) C rfl (nI (0)) dX7_whoIsNearer_0 rfl ?_
  refine g_istore (pc9 := 3) C rfl [(4, .int (nI (0))), (0, .ref (w.1 (64 + 5 * j))), (1, .int (a)), (2, .int (b)), (3, .int (d))] dX7_whoIsNearer_1 (by decide) rfl ?_
  refine g_sub [0, 1, 2, 3, 4] [(4, .int (nI (0))), (0, .ref (w.1 (64 + 5 * j))), (1, .int (a)), (2, .int (b)), (3, .int (d))] rfl ?_
  refine g_lp1 (α := Nat) (fun v => v ≤ n ∧ wnU (tC σ j) a b d (n - v) v = wnU (tC σ j) a b d n 0) (fun v => n - v) (fun v => G p l e _ s m args below meth c _ w A _ (σ) 0 0 3 [(4, .int (nI (v))), (0, .ref (w.1 (64 + 5 * j))), (1, .int (a)), (2, .int (b)), (3, .int (d))] []) (fun v hI ih => ?_) (0) ⟨Nat.zero_le _, rfl⟩
  obtain ⟨hv, hs⟩ := hI
  refine g_iload (pc9 := 5) C rfl 0 dX7_whoIsNearer_3 rfl ?_
  refine g_aload_n (pc9 := 6) C rfl 1 dX7_whoIsNearer_5 rfl rfl ?_
  refine g_get (v := .int (nI (n))) (pc9 := 9) C rfl (64 + 5 * j) 4 dX7_whoIsNearer_6 (by omega) (ce_tree w (σ) (j)) hin_7 hl_24 rfl (by decide) rfl (congrArg (fun z => some (Value.int z)) hn) ?_
  refine g_icmp_ge (pc9 := 12) C rfl 63 dX7_whoIsNearer_9 rfl (fun c_1 => ?_) (fun c_1 => ?_)
  · replace c_1 := (nI_leI (by omega) (by omega)).mp c_1
    refine g_iconst (pc9 := 64) C rfl (nI (3)) dX7_whoIsNearer_63 rfl ?_
    exact g_ireturn C hr hlk dX7_whoIsNearer_64 ⟨rfl, by rw [← hs, show n - v = 0 by omega]; rfl⟩
  · replace c_1 := (not_congr (nI_leI (by omega) (by omega))).mp c_1
    refine g_aload_n (pc9 := 13) C rfl 1 dX7_whoIsNearer_12 rfl rfl ?_
    refine g_get (v := .ref (w.1 (67 + 5 * j))) (pc9 := 16) C rfl (64 + 5 * j) 2 dX7_whoIsNearer_13 (by omega) (ce_tree w (σ) (j)) hin_7 hl_18 rfl (by decide) rfl rfl ?_
    refine g_iload (pc9 := 18) C rfl 0 dX7_whoIsNearer_16 rfl ?_
    refine g_iald (x := (iA σ (67 + 5 * j)) (v)) (pc9 := 19) C rfl (67 + 5 * j) (v) dX7_whoIsNearer_18 (by omega) (ce_cluster w (σ) (j)) rfl (by omega) (by decide) rfl ?_
    refine g_iload_n (pc9 := 20) C rfl 2 dX7_whoIsNearer_19 rfl rfl ?_
    refine g_iload_n (pc9 := 21) C rfl 3 dX7_whoIsNearer_20 rfl rfl ?_
    refine g_ior (pc9 := 22) C rfl dX7_whoIsNearer_21 ?_
    refine g_iload_n (pc9 := 23) C rfl 4 dX7_whoIsNearer_22 rfl rfl ?_
    refine g_ior (pc9 := 24) C rfl dX7_whoIsNearer_23 ?_
    refine g_iand (pc9 := 25) C rfl dX7_whoIsNearer_24 ?_
    refine g_istore (pc9 := 27) C rfl [(5, .int (((iA σ (67 + 5 * j)) (v)) &&& (((a) ||| (b)) ||| (d)))), (4, .int (nI (v))), (0, .ref (w.1 (64 + 5 * j))), (1, .int (a)), (2, .int (b)), (3, .int (d))] dX7_whoIsNearer_25 (by decide) rfl ?_
    refine g_iload (pc9 := 29) C rfl 0 dX7_whoIsNearer_27 rfl ?_
    refine g_iload_n (pc9 := 30) C rfl 3 dX7_whoIsNearer_29 rfl rfl ?_
    refine g_iload_n (pc9 := 31) C rfl 4 dX7_whoIsNearer_30 rfl rfl ?_
    refine g_ior (pc9 := 32) C rfl dX7_whoIsNearer_31 ?_
    refine g_icmp_ne (pc9 := 35) C rfl 37 dX7_whoIsNearer_32 rfl (fun c_2 => ?_) (fun c_2 => ?_)
    · have c_A := c_2
      refine g_iload (pc9 := 39) C rfl 0 dX7_whoIsNearer_37 rfl ?_
      refine g_iload_n (pc9 := 40) C rfl 3 dX7_whoIsNearer_39 rfl rfl ?_
      refine g_iload_n (pc9 := 41) C rfl 5 dX7_whoIsNearer_40 rfl rfl ?_
      refine g_ior (pc9 := 42) C rfl dX7_whoIsNearer_41 ?_
      refine g_icmp_ne (pc9 := 45) C rfl 47 dX7_whoIsNearer_42 rfl (fun c_3 => ?_) (fun c_3 => ?_)
      · have c_B := c_3
        refine g_iload (pc9 := 49) C rfl 0 dX7_whoIsNearer_47 rfl ?_
        refine g_iload_n (pc9 := 50) C rfl 4 dX7_whoIsNearer_49 rfl rfl ?_
        refine g_iload_n (pc9 := 51) C rfl 5 dX7_whoIsNearer_50 rfl rfl ?_
        refine g_ior (pc9 := 52) C rfl dX7_whoIsNearer_51 ?_
        refine g_icmp_ne (pc9 := 55) C rfl 57 dX7_whoIsNearer_52 rfl (fun c_4 => ?_) (fun c_4 => ?_)
        · rw [wnU_s (by omega), if_neg c_A, if_neg c_B, if_neg c_4] at hs
          refine g_iinc (pc9 := 60) C rfl [(4, .int (nI (v + 1))), (5, .int (((iA σ (67 + 5 * j)) (v)) &&& (((a) ||| (b)) ||| (d)))), (0, .ref (w.1 (64 + 5 * j))), (1, .int (a)), (2, .int (b)), (3, .int (d))] 1 (nI (v + 1)) dX7_whoIsNearer_57 rfl (nI_1 (v)) (by decide) rfl ?_
          refine g_goto C 3 dX7_whoIsNearer_60 rfl ?_
          refine g_sub [0, 2, 3, 4, 5] [(4, .int (nI (v + 1))), (0, .ref (w.1 (64 + 5 * j))), (1, .int (a)), (2, .int (b)), (3, .int (d))] rfl ?_
          exact ih (v + 1) ⟨by omega, hs⟩ (by omega)
        · rw [wnU_s (by omega), if_neg c_A, if_neg c_B, if_pos c_4] at hs
          refine g_iconst (pc9 := 56) C rfl (nI (2)) dX7_whoIsNearer_55 rfl ?_
          exact g_ireturn C hr hlk dX7_whoIsNearer_56 ⟨rfl, hs⟩
      · rw [wnU_s (by omega), if_neg c_A, if_pos c_3] at hs
        refine g_iconst (pc9 := 46) C rfl (nI (1)) dX7_whoIsNearer_45 rfl ?_
        exact g_ireturn C hr hlk dX7_whoIsNearer_46 ⟨rfl, hs⟩
    · rw [wnU_s (by omega), if_pos c_2] at hs
      refine g_iconst (pc9 := 36) C rfl (nI (0)) dX7_whoIsNearer_35 rfl ?_
      exact g_ireturn C hr hlk dX7_whoIsNearer_36 ⟨rfl, hs⟩
def lcaU (f : Nat → Int32) (x : Int32) : Nat → Int32
  | 0 => -1
  | v + 1 => if f v &&& x = x ∧ (lcaU f x v = -1 ∨ bC (f v) < bC (lcaU f x v)) then f v else lcaU f x v
set_option maxRecDepth 100000 in
set_option maxHeartbeats 4000000 in
theorem m_X7_leastClusterAround (l : Launch) (w : Wd) (σ : St) (j : Nat) (hj : j < 9) (n : Nat) (hn : tN σ j = nI n) (h47 : n ≤ 47) (x : Int32) : MI l yX7_leastClusterAround wsX7_leastClusterAround (rmL 2) w [.ref (w.1 (64 + 5 * j)), .int (x)] (σ) (fun r σ9 => σ9 = σ ∧ r = if x = 0 then -1 else lcaU (tC σ j) x n) := by
  refine MI_of (cc := cX7_leastClusterAround) (maxL := 5) (ret := .int) (by decide) rfl (Nat.le_of_ble_eq_true rfl) ?_
  intro p e s m args below meth c A C hr hlk
  have C : Cx p s m args c w A cX7_leastClusterAround RX7 5 wsX7_leastClusterAround := C
  have hin_7 : ∀ u ∈ wsX70, u ∈ wsX7_leastClusterAround := by decide +kernel
  have hl_18 : Cond.fieldLink RX7 18 "LineageBench$Tree" "cluster" "[I" ∈ wsX7_leastClusterAround := by decide +kernel
  have hl_24 : Cond.fieldLink RX7 24 "LineageBench$Tree" "nodes" "I" ∈ wsX7_leastClusterAround := by decide +kernel
  refine g_iconst (pc9 := 1) C rfl ((-1)) dX7_leastClusterAround_0 rfl ?_
  refine g_istore_n (pc9 := 2) C rfl [(2, .int ((-1))), (0, .ref (w.1 (64 + 5 * j))), (1, .int (x))] dX7_leastClusterAround_1 rfl (by decide) rfl ?_
  refine g_iconst (pc9 := 3) C rfl (nI (0)) dX7_leastClusterAround_2 rfl ?_
  refine g_istore_n (pc9 := 4) C rfl [(3, .int (nI (0))), (2, .int ((-1))), (0, .ref (w.1 (64 + 5 * j))), (1, .int (x))] dX7_leastClusterAround_3 rfl (by decide) rfl ?_
  refine g_sub [0, 1, 2, 3] [(3, .int (nI (0))), (2, .int ((-1))), (0, .ref (w.1 (64 + 5 * j))), (1, .int (x))] rfl ?_
  refine g_lp1 (α := Nat) (fun v => v ≤ n ∧ (x = 0 → v = 0)) (fun v => n - v) (fun v => G p l e _ s m args below meth c _ w A _ (σ) 0 0 4 [(3, .int (nI (v))), (2, .int (lcaU (tC σ j) x v)), (0, .ref (w.1 (64 + 5 * j))), (1, .int (x))] []) (fun v hI ih => ?_) (0) ⟨Nat.zero_le _, fun _ => rfl⟩
  obtain ⟨hv, hx⟩ := hI
  refine g_iload_n (pc9 := 5) C rfl 0 dX7_leastClusterAround_4 rfl rfl ?_
  refine g_aload_n (pc9 := 6) C rfl 2 dX7_leastClusterAround_5 rfl rfl ?_
  refine g_get (v := .int (nI (n))) (pc9 := 9) C rfl (64 + 5 * j) 4 dX7_leastClusterAround_6 (by omega) (ce_tree w (σ) (j)) hin_7 hl_24 rfl (by decide) rfl (congrArg (fun z => some (Value.int z)) hn) ?_
  refine g_icmp_ge (pc9 := 12) C rfl 74 dX7_leastClusterAround_9 rfl (fun c_1 => ?_) (fun c_1 => ?_)
  · replace c_1 := (nI_leI (by omega) (by omega)).mp c_1
    refine g_iload_n (pc9 := 75) C rfl 1 dX7_leastClusterAround_74 rfl rfl ?_
    exact g_ireturn C hr hlk dX7_leastClusterAround_75 ⟨rfl, by first | (rw [hz, if_pos (by assumption)]; rfl) | (by_cases hx0 : x = 0; (rw [if_pos hx0, hx hx0]; rfl); (rw [if_neg hx0, show v = n by omega]))⟩
  · replace c_1 := (not_congr (nI_leI (by omega) (by omega))).mp c_1
    refine g_iload_n (pc9 := 13) C rfl 3 dX7_leastClusterAround_12 rfl rfl ?_
    refine g_if_eq (pc9 := 16) C rfl 74 dX7_leastClusterAround_13 rfl (fun c_2 => ?_) (fun c_2 => ?_)
    · have hz : v = 0 := hx c_2
      refine g_iload_n (pc9 := 75) C rfl 1 dX7_leastClusterAround_74 rfl rfl ?_
      exact g_ireturn C hr hlk dX7_leastClusterAround_75 ⟨rfl, by first | (rw [hz, if_pos (by assumption)]; rfl) | (by_cases hx0 : x = 0; (rw [if_pos hx0, hx hx0]; rfl); (rw [if_neg hx0, show v = n by omega]))⟩
    · have hnx := c_2
      refine g_aload_n (pc9 := 17) C rfl 2 dX7_leastClusterAround_16 rfl rfl ?_
      refine g_get (v := .ref (w.1 (67 + 5 * j))) (pc9 := 20) C rfl (64 + 5 * j) 2 dX7_leastClusterAround_17 (by omega) (ce_tree w (σ) (j)) hin_7 hl_18 rfl (by decide) rfl rfl ?_
      refine g_iload_n (pc9 := 21) C rfl 0 dX7_leastClusterAround_20 rfl rfl ?_
      refine g_iald (x := (iA σ (67 + 5 * j)) (v)) (pc9 := 22) C rfl (67 + 5 * j) (v) dX7_leastClusterAround_21 (by omega) (ce_cluster w (σ) (j)) rfl (by omega) (by decide) rfl ?_
      refine g_iload_n (pc9 := 23) C rfl 3 dX7_leastClusterAround_22 rfl rfl ?_
      refine g_iand (pc9 := 24) C rfl dX7_leastClusterAround_23 ?_
      refine g_iload_n (pc9 := 25) C rfl 3 dX7_leastClusterAround_24 rfl rfl ?_
      refine g_icmp_ne (pc9 := 28) C rfl 32 dX7_leastClusterAround_25 rfl (fun c_3 => ?_) (fun c_3 => ?_)
      · have hst : lcaU (tC σ j) x (v + 1) = lcaU (tC σ j) x v := if_neg (fun h => c_3 h.1)
        refine g_iconst (pc9 := 33) C rfl (nI (0)) dX7_leastClusterAround_32 rfl ?_
        refine g_istore (pc9 := 35) C rfl [(4, .int (nI (0))), (3, .int (nI (v))), (2, .int (lcaU (tC σ j) x v)), (0, .ref (w.1 (64 + 5 * j))), (1, .int (x))] dX7_leastClusterAround_33 (by decide) rfl ?_
        refine g_iload (pc9 := 37) C rfl 0 dX7_leastClusterAround_35 rfl ?_
        refine g_if_eq (pc9 := 40) C rfl 68 dX7_leastClusterAround_37 rfl (fun c_4 => ?_) (fun c_4 => ?_)
        · refine g_iinc (pc9 := 71) C rfl [(3, .int (nI (v + 1))), (4, .int (nI (0))), (2, .int (lcaU (tC σ j) x v)), (0, .ref (w.1 (64 + 5 * j))), (1, .int (x))] 1 (nI (v + 1)) dX7_leastClusterAround_68 rfl (nI_1 (v)) (by decide) rfl ?_
          refine g_goto C 4 dX7_leastClusterAround_71 rfl ?_
          refine g_sub [0, 2, 3, 4] [(3, .int (nI (v + 1))), (2, .int (lcaU (tC σ j) x v)), (0, .ref (w.1 (64 + 5 * j))), (1, .int (x))] rfl ?_
          rw [← hst]
          exact ih (v + 1) ⟨by omega, fun h => absurd h hnx⟩ (by omega)
        · exact absurd c_4 (by decide)
      · have har := c_3
        refine g_iconst (pc9 := 29) C rfl (nI (1)) dX7_leastClusterAround_28 rfl ?_
        refine g_goto C 33 dX7_leastClusterAround_29 rfl ?_
        refine g_istore (pc9 := 35) C rfl [(4, .int (nI (1))), (3, .int (nI (v))), (2, .int (lcaU (tC σ j) x v)), (0, .ref (w.1 (64 + 5 * j))), (1, .int (x))] dX7_leastClusterAround_33 (by decide) rfl ?_
        refine g_iload (pc9 := 37) C rfl 0 dX7_leastClusterAround_35 rfl ?_
        refine g_if_eq (pc9 := 40) C rfl 68 dX7_leastClusterAround_37 rfl (fun c_5 => ?_) (fun c_5 => ?_)
        · exact absurd c_5 (by decide)
        · refine g_iload_n (pc9 := 41) C rfl 2 dX7_leastClusterAround_40 rfl rfl ?_
          refine g_iconst (pc9 := 42) C rfl ((-1)) dX7_leastClusterAround_41 rfl ?_
          refine g_icmp_eq (pc9 := 45) C rfl 61 dX7_leastClusterAround_42 rfl (fun c_6 => ?_) (fun c_6 => ?_)
          · have hst : lcaU (tC σ j) x (v + 1) = iA σ (67 + 5 * j) v := if_pos ⟨har, Or.inl c_6⟩
            refine g_aload_n (pc9 := 62) C rfl 3 dX7_leastClusterAround_61 rfl rfl ?_
            refine g_get (v := .ref (w.1 (67 + 5 * j))) (pc9 := 65) C rfl (64 + 5 * j) 2 dX7_leastClusterAround_62 (by omega) (ce_tree w (σ) (j)) hin_7 hl_18 rfl (by decide) rfl rfl ?_
            refine g_iload_n (pc9 := 66) C rfl 1 dX7_leastClusterAround_65 rfl rfl ?_
            refine g_iald (x := (iA σ (67 + 5 * j)) (v)) (pc9 := 67) C rfl (67 + 5 * j) (v) dX7_leastClusterAround_66 (by omega) (ce_cluster w (σ) (j)) rfl (by omega) (by decide) rfl ?_
            refine g_istore_n (pc9 := 68) C rfl [(2, .int ((iA σ (67 + 5 * j)) (v))), (4, .int (nI (1))), (3, .int (nI (v))), (0, .ref (w.1 (64 + 5 * j))), (1, .int (x))] dX7_leastClusterAround_67 rfl (by decide) rfl ?_
            refine g_iinc (pc9 := 71) C rfl [(3, .int (nI (v + 1))), (2, .int ((iA σ (67 + 5 * j)) (v))), (4, .int (nI (1))), (0, .ref (w.1 (64 + 5 * j))), (1, .int (x))] 2 (nI (v + 1)) dX7_leastClusterAround_68 rfl (nI_1 (v)) (by decide) rfl ?_
            refine g_goto C 4 dX7_leastClusterAround_71 rfl ?_
            refine g_sub [0, 1, 3, 4] [(3, .int (nI (v + 1))), (2, .int ((iA σ (67 + 5 * j)) (v))), (0, .ref (w.1 (64 + 5 * j))), (1, .int (x))] rfl ?_
            rw [← hst]
            exact ih (v + 1) ⟨by omega, fun h => absurd h hnx⟩ (by omega)
          · have hn1 := c_6
            refine g_aload_n (pc9 := 46) C rfl 3 dX7_leastClusterAround_45 rfl rfl ?_
            refine g_get (v := .ref (w.1 (67 + 5 * j))) (pc9 := 49) C rfl (64 + 5 * j) 2 dX7_leastClusterAround_46 (by omega) (ce_tree w (σ) (j)) hin_7 hl_18 rfl (by decide) rfl rfl ?_
            refine g_iload_n (pc9 := 50) C rfl 1 dX7_leastClusterAround_49 rfl rfl ?_
            refine g_iald (x := (iA σ (67 + 5 * j)) (v)) (pc9 := 51) C rfl (67 + 5 * j) (v) dX7_leastClusterAround_50 (by omega) (ce_cluster w (σ) (j)) rfl (by omega) (by decide) rfl ?_
            refine g_callSi (nn := 1) (rest := []) (pc9 := 54) C rfl [.int ((iA σ (67 + 5 * j)) (v))] rfl dX7_leastClusterAround_51 (m_bitCount l w _ ((iA σ (67 + 5 * j)) (v))) gX7_leastClusterAround_J6_bitCount_0f7a4 rfl rfl rfl (by decide +kernel) ⟨by decide, by decide⟩ rfl (Nat.le_of_ble_eq_true rfl) ⟨by decide, by decide⟩ (fun r_7 σ_7 q_7 => ?_)
            obtain ⟨qs_7, qr_7⟩ := q_7
            rw [qs_7, qr_7]
            clear qs_7 qr_7
            refine g_iload_n (pc9 := 55) C rfl 2 dX7_leastClusterAround_54 rfl rfl ?_
            refine g_callSi (nn := 1) (rest := [.int (bC ((iA σ (67 + 5 * j)) (v)))]) (pc9 := 58) C rfl [.int (lcaU (tC σ j) x v)] rfl dX7_leastClusterAround_55 (m_bitCount l w _ (lcaU (tC σ j) x v)) gX7_leastClusterAround_J6_bitCount_0f7a4 rfl rfl rfl (by decide +kernel) ⟨by decide, by decide⟩ rfl (Nat.le_of_ble_eq_true rfl) ⟨by decide, by decide⟩ (fun r_8 σ_8 q_8 => ?_)
            obtain ⟨qs_8, qr_8⟩ := q_8
            rw [qs_8, qr_8]
            clear qs_8 qr_8
            refine g_icmp_ge (pc9 := 61) C rfl 68 dX7_leastClusterAround_58 rfl (fun c_9 => ?_) (fun c_9 => ?_)
            · have hst : lcaU (tC σ j) x (v + 1) = lcaU (tC σ j) x v := if_neg (fun h => h.2.elim hn1 (Int32.not_lt.mpr c_9))
              refine g_iinc (pc9 := 71) C rfl [(3, .int (nI (v + 1))), (4, .int (nI (1))), (2, .int (lcaU (tC σ j) x v)), (0, .ref (w.1 (64 + 5 * j))), (1, .int (x))] 1 (nI (v + 1)) dX7_leastClusterAround_68 rfl (nI_1 (v)) (by decide) rfl ?_
              refine g_goto C 4 dX7_leastClusterAround_71 rfl ?_
              refine g_sub [0, 2, 3, 4] [(3, .int (nI (v + 1))), (2, .int (lcaU (tC σ j) x v)), (0, .ref (w.1 (64 + 5 * j))), (1, .int (x))] rfl ?_
              rw [← hst]
              exact ih (v + 1) ⟨by omega, fun h => absurd h hnx⟩ (by omega)
            · have hst : lcaU (tC σ j) x (v + 1) = iA σ (67 + 5 * j) v := if_pos ⟨har, Or.inr (Int32.not_le.mp c_9)⟩
              refine g_aload_n (pc9 := 62) C rfl 3 dX7_leastClusterAround_61 rfl rfl ?_
              refine g_get (v := .ref (w.1 (67 + 5 * j))) (pc9 := 65) C rfl (64 + 5 * j) 2 dX7_leastClusterAround_62 (by omega) (ce_tree w (σ) (j)) hin_7 hl_18 rfl (by decide) rfl rfl ?_
              refine g_iload_n (pc9 := 66) C rfl 1 dX7_leastClusterAround_65 rfl rfl ?_
              refine g_iald (x := (iA σ (67 + 5 * j)) (v)) (pc9 := 67) C rfl (67 + 5 * j) (v) dX7_leastClusterAround_66 (by omega) (ce_cluster w (σ) (j)) rfl (by omega) (by decide) rfl ?_
              refine g_istore_n (pc9 := 68) C rfl [(2, .int ((iA σ (67 + 5 * j)) (v))), (4, .int (nI (1))), (3, .int (nI (v))), (0, .ref (w.1 (64 + 5 * j))), (1, .int (x))] dX7_leastClusterAround_67 rfl (by decide) rfl ?_
              refine g_iinc (pc9 := 71) C rfl [(3, .int (nI (v + 1))), (2, .int ((iA σ (67 + 5 * j)) (v))), (4, .int (nI (1))), (0, .ref (w.1 (64 + 5 * j))), (1, .int (x))] 2 (nI (v + 1)) dX7_leastClusterAround_68 rfl (nI_1 (v)) (by decide) rfl ?_
              refine g_goto C 4 dX7_leastClusterAround_71 rfl ?_
              refine g_sub [0, 1, 3, 4] [(3, .int (nI (v + 1))), (2, .int ((iA σ (67 + 5 * j)) (v))), (0, .ref (w.1 (64 + 5 * j))), (1, .int (x))] rfl ?_
              rw [← hst]
              exact ih (v + 1) ⟨by omega, fun h => absurd h hnx⟩ (by omega)
def filF (f : Nat → Int32) (v : Nat) : Nat → Int32 := fun i => if i < v then -1 else f i
theorem filF_0 (f : Nat → Int32) : filF f 0 = f := by funext i; exact if_neg (by omega)
theorem filF_s (f : Nat → Int32) (v : Nat) : upd (filF f v) v (-1) = filF f (v + 1) := by
  funext i
  unfold upd filF
  by_cases h : i = v
  · rw [if_pos h, if_pos (by omega)]
  · rw [if_neg h]
    by_cases h2 : i < v
    · rw [if_pos h2, if_pos (by omega)]
    · rw [if_neg h2, if_neg (by omega)]
/-- first and second child of each node, from the last node down -/
def ftF (P : Nat → Nat) : Nat → (Nat → Int32) → (Nat → Int32) → (Nat → Int32) × (Nat → Int32)
  | 0, f, g => (f, g)
  | v + 1, f, g => ftF P v (upd f (P (v + 1)) (nI (v + 1))) (upd g (P (v + 1)) (f (P (v + 1))))
theorem ftF_s {P : Nat → Nat} {v : Nat} {f g : Nat → Int32} (h : 0 < v) : ftF P v f g = ftF P (v - 1) (upd f (P v) (nI v)) (upd g (P v) (f (P v))) := by
  obtain ⟨u, rfl⟩ : ∃ u, v = u + 1 := ⟨v - 1, by omega⟩
  rfl
abbrev ftO (P : Nat → Nat) (n : Nat) (f g : Nat → Int32) : (Nat → Int32) × (Nat → Int32) := ftF P (n - 1) (filF f n) (filF g n)
set_option maxRecDepth 100000 in
set_option maxHeartbeats 4000000 in
theorem m_X7_findTwo_60 (l : Launch) (w : Wd) (σ : St) (j : Nat) (hj : j < 9) (n : Nat) (hn : tN σ j = nI n) (h47 : n ≤ 47) (P : Nat → Nat) (hP : ∀ v, 0 < v → v < n → tP σ j v = nI (P v) ∧ P v < v) (h0 : 0 < n) : MV l yX7_findTwoChildren wsX7_findTwoChildren (rmL 1) w [.ref (w.1 (64 + 5 * j)), .ref (w.1 (60)), .ref (w.1 (61))] (σ) (fun σ9 => σ9 = sI (sI σ 60 (ftO P n (iA σ 60) (iA σ 61)).1) 61 (ftO P n (iA σ 60) (iA σ 61)).2) := by
  refine MV_of (cc := cX7_findTwoChildren) (maxL := 4) (by decide) rfl (Nat.le_of_ble_eq_true rfl) ?_
  intro p e s m args below meth c A C hr hlk
  have C : Cx p s m args c w A cX7_findTwoChildren RX7 4 wsX7_findTwoChildren := C
  have hin_7 : ∀ u ∈ wsX70, u ∈ wsX7_findTwoChildren := by decide +kernel
  have hl_9 : Cond.fieldLink RX7 9 "LineageBench$Tree" "parent" "[I" ∈ wsX7_findTwoChildren := by decide +kernel
  have hl_24 : Cond.fieldLink RX7 24 "LineageBench$Tree" "nodes" "I" ∈ wsX7_findTwoChildren := by decide +kernel
  refine g_st (σ9 := sI (sI σ (60) (filF (iA σ 60) 0)) (61) (filF (iA σ 61) 0)) (by rw [filF_0, filF_0, sI_self, sI_self]) ?_
  refine g_iconst (pc9 := 1) C rfl (nI (0)) dX7_findTwoChildren_0 rfl ?_
  refine g_istore_n (pc9 := 2) C rfl [(3, .int (nI (0))), (0, .ref (w.1 (64 + 5 * j))), (1, .ref (w.1 (60))), (2, .ref (w.1 (61)))] dX7_findTwoChildren_1 rfl (by decide) rfl ?_
  refine g_sub [0, 1, 2, 3] [(3, .int (nI (0))), (0, .ref (w.1 (64 + 5 * j))), (1, .ref (w.1 (60))), (2, .ref (w.1 (61)))] rfl ?_
  refine g_lp1 (α := Nat) (fun v => v ≤ n) (fun v => n - v) (fun v => G p l e _ s m args below meth c _ w A _ (sI (sI σ (60) (filF (iA σ 60) (v))) (61) (filF (iA σ 61) (v))) 0 0 2 [(3, .int (nI (v))), (0, .ref (w.1 (64 + 5 * j))), (1, .ref (w.1 (60))), (2, .ref (w.1 (61)))] []) (fun v hI ih => ?_) (0) (Nat.zero_le _)
  obtain hv := hI
  refine g_iload_n (pc9 := 3) C rfl 0 dX7_findTwoChildren_2 rfl rfl ?_
  refine g_aload_n (pc9 := 4) C rfl 1 dX7_findTwoChildren_3 rfl rfl ?_
  refine g_get (v := .int (nI (n))) (pc9 := 7) C rfl (64 + 5 * j) 4 dX7_findTwoChildren_4 (by omega) (ce_tree w (sI (sI σ (60) (filF (iA σ 60) (v))) (61) (filF (iA σ 61) (v))) (j)) hin_7 hl_24 rfl (by decide) rfl (congrArg (fun z => some (Value.int z)) (((nF_I).trans (nF_I)).trans hn)) ?_
  refine g_icmp_ge (pc9 := 10) C rfl 24 dX7_findTwoChildren_7 rfl (fun c_1 => ?_) (fun c_1 => ?_)
  · replace c_1 := (nI_leI (by omega) (by omega)).mp c_1
    refine g_aload_n (pc9 := 25) C rfl 1 dX7_findTwoChildren_24 rfl rfl ?_
    refine g_get (v := .int (nI (n))) (pc9 := 28) C rfl (64 + 5 * j) 4 dX7_findTwoChildren_25 (by omega) (ce_tree w (sI (sI σ (60) (filF (iA σ 60) (v))) (61) (filF (iA σ 61) (v))) (j)) hin_7 hl_24 rfl (by decide) rfl (congrArg (fun z => some (Value.int z)) (((nF_I).trans (nF_I)).trans hn)) ?_
    refine g_iconst (pc9 := 29) C rfl (nI (1)) dX7_findTwoChildren_28 rfl ?_
    refine g_isubN (pc9 := 30) C rfl dX7_findTwoChildren_29 (by omega) ?_
    refine g_istore_n (pc9 := 31) C rfl [(3, .int (nI (n - (1)))), (0, .ref (w.1 (64 + 5 * j))), (1, .ref (w.1 (60))), (2, .ref (w.1 (61)))] dX7_findTwoChildren_30 rfl (by decide) rfl ?_
    refine g_sub [0, 1, 2, 3] [(3, .int (nI (n - (1)))), (0, .ref (w.1 (64 + 5 * j))), (1, .ref (w.1 (60))), (2, .ref (w.1 (61)))] rfl ?_
    refine g_lp3 (α := Nat) (β := Nat → Int32) (γ := Nat → Int32) (fun v f g => v < n ∧ ftF P v f g = ftO P n (iA σ 60) (iA σ 61)) (fun v f g => v) (fun v f g => G p l e _ s m args below meth c _ w A _ (sI (sI σ (60) (f)) (61) (g)) 0 0 31 [(3, .int (nI (v))), (0, .ref (w.1 (64 + 5 * j))), (1, .ref (w.1 (60))), (2, .ref (w.1 (61)))] []) (fun v f g hI ih2 => ?_) (n - 1) (filF (iA σ 60) v) (filF (iA σ 61) v) ⟨by omega, by rw [show v = n by omega]⟩
    obtain ⟨hv2, hf⟩ := hI
    refine g_iload_n (pc9 := 32) C rfl 0 dX7_findTwoChildren_31 rfl rfl ?_
    refine g_if_le (pc9 := 35) C rfl 66 dX7_findTwoChildren_32 rfl (fun c_2 => ?_) (fun c_2 => ?_)
    · replace c_2 := (z_le (by omega)).mp c_2
      exact g_return C hr hlk dX7_findTwoChildren_66 (by rw [← hf, show v = 0 by omega]; rfl)
    · replace c_2 := (not_congr (z_le (by omega))).mp c_2
      have hPv := (hP v (by omega) (by omega)).2
      refine g_aload_n (pc9 := 36) C rfl 3 dX7_findTwoChildren_35 rfl rfl ?_
      refine g_aload_n (pc9 := 37) C rfl 1 dX7_findTwoChildren_36 rfl rfl ?_
      refine g_get (v := .ref (w.1 (65 + 5 * j))) (pc9 := 40) C rfl (64 + 5 * j) 0 dX7_findTwoChildren_37 (by omega) (ce_tree w (sI (sI σ (60) (f)) (61) (g)) (j)) hin_7 hl_9 rfl (by decide) rfl rfl ?_
      refine g_iload_n (pc9 := 41) C rfl 0 dX7_findTwoChildren_40 rfl rfl ?_
      refine g_iald (x := nI (P (v))) (pc9 := 42) C rfl (65 + 5 * j) (v) dX7_findTwoChildren_41 (by omega) (ce_parent w (sI (sI σ (60) (f)) (61) (g)) (j)) rfl (by omega) (by decide) ((congrFun ((iA_n (by omega)).trans (iA_n (by omega))) _).trans (hP (v) (by omega) (by omega)).1) ?_
      refine g_aload_n (pc9 := 43) C rfl 2 dX7_findTwoChildren_42 rfl rfl ?_
      refine g_aload_n (pc9 := 44) C rfl 1 dX7_findTwoChildren_43 rfl rfl ?_
      refine g_get (v := .ref (w.1 (65 + 5 * j))) (pc9 := 47) C rfl (64 + 5 * j) 0 dX7_findTwoChildren_44 (by omega) (ce_tree w (sI (sI σ (60) (f)) (61) (g)) (j)) hin_7 hl_9 rfl (by decide) rfl rfl ?_
      refine g_iload_n (pc9 := 48) C rfl 0 dX7_findTwoChildren_47 rfl rfl ?_
      refine g_iald (x := nI (P (v))) (pc9 := 49) C rfl (65 + 5 * j) (v) dX7_findTwoChildren_48 (by omega) (ce_parent w (sI (sI σ (60) (f)) (61) (g)) (j)) rfl (by omega) (by decide) ((congrFun ((iA_n (by omega)).trans (iA_n (by omega))) _).trans (hP (v) (by omega) (by omega)).1) ?_
      refine g_iald (x := f (P (v))) (pc9 := 50) C rfl (60) (P (v)) dX7_findTwoChildren_49 (by decide) (ce_60 w (sI (sI σ (60) (f)) (61) (g))) rfl (by omega) (by decide) (congrFun ((iA_n (by decide)).trans (iA_s)) _) ?_
      refine g_iast (pc9 := 51) C rfl (61) (P (v)) (g) dX7_findTwoChildren_50 (by decide) (fun _ => rfl) (ce_61 w (sI (sI σ (60) (f)) (61) (g))) rfl (by omega) (by decide) (iA_s) ?_
      rw [sI_sI (a := 61)]
      refine g_aload_n (pc9 := 52) C rfl 2 dX7_findTwoChildren_51 rfl rfl ?_
      refine g_aload_n (pc9 := 53) C rfl 1 dX7_findTwoChildren_52 rfl rfl ?_
      refine g_get (v := .ref (w.1 (65 + 5 * j))) (pc9 := 56) C rfl (64 + 5 * j) 0 dX7_findTwoChildren_53 (by omega) (ce_tree w (sI (sI σ (60) (f)) (61) (upd (g) (P (v)) (f (P (v))))) (j)) hin_7 hl_9 rfl (by decide) rfl rfl ?_
      refine g_iload_n (pc9 := 57) C rfl 0 dX7_findTwoChildren_56 rfl rfl ?_
      refine g_iald (x := nI (P (v))) (pc9 := 58) C rfl (65 + 5 * j) (v) dX7_findTwoChildren_57 (by omega) (ce_parent w (sI (sI σ (60) (f)) (61) (upd (g) (P (v)) (f (P (v))))) (j)) rfl (by omega) (by decide) ((congrFun ((iA_n (by omega)).trans (iA_n (by omega))) _).trans (hP (v) (by omega) (by omega)).1) ?_
      refine g_iload_n (pc9 := 59) C rfl 0 dX7_findTwoChildren_58 rfl rfl ?_
      refine g_iast (pc9 := 60) C rfl (60) (P (v)) (f) dX7_findTwoChildren_59 (by decide) (fun _ => rfl) (ce_60 w (sI (sI σ (60) (f)) (61) (upd (g) (P (v)) (f (P (v)))))) rfl (by omega) (by decide) ((iA_n (by decide)).trans (iA_s)) ?_
      rw [sI_cm (a := 61) (b := 60) (by decide), sI_sI (a := 60)]
      refine g_iinc (pc9 := 63) C rfl [(3, .int (nI (v - 1))), (0, .ref (w.1 (64 + 5 * j))), (1, .ref (w.1 (60))), (2, .ref (w.1 (61)))] 0 (nI (v - 1)) dX7_findTwoChildren_60 rfl (sb_m1 (by omega)) (by decide) rfl ?_
      refine g_goto C 31 dX7_findTwoChildren_63 rfl ?_
      exact ih2 (v - 1) (upd (f) (P (v)) (nI (v))) (upd (g) (P (v)) (f (P (v)))) ⟨by omega, (ftF_s (by omega)).symm.trans hf⟩ (by omega)
  · replace c_1 := (not_congr (nI_leI (by omega) (by omega))).mp c_1
    refine g_aload_n (pc9 := 11) C rfl 2 dX7_findTwoChildren_10 rfl rfl ?_
    refine g_iload_n (pc9 := 12) C rfl 0 dX7_findTwoChildren_11 rfl rfl ?_
    refine g_iconst (pc9 := 13) C rfl ((-1)) dX7_findTwoChildren_12 rfl ?_
    refine g_iast (pc9 := 14) C rfl (60) (v) (filF (iA σ 60) (v)) dX7_findTwoChildren_13 (by decide) (fun _ => rfl) (ce_60 w (sI (sI σ (60) (filF (iA σ 60) (v))) (61) (filF (iA σ 61) (v)))) rfl (by omega) (by decide) ((iA_n (by decide)).trans (iA_s)) ?_
    rw [sI_cm (a := 61) (b := 60) (by decide), sI_sI (a := 60)]
    rw [filF_s]
    refine g_aload_n (pc9 := 15) C rfl 3 dX7_findTwoChildren_14 rfl rfl ?_
    refine g_iload_n (pc9 := 16) C rfl 0 dX7_findTwoChildren_15 rfl rfl ?_
    refine g_iconst (pc9 := 17) C rfl ((-1)) dX7_findTwoChildren_16 rfl ?_
    refine g_iast (pc9 := 18) C rfl (61) (v) (filF (iA σ 61) (v)) dX7_findTwoChildren_17 (by decide) (fun _ => rfl) (ce_61 w (sI (sI σ (60) (filF (iA σ 60) (v + 1))) (61) (filF (iA σ 61) (v)))) rfl (by omega) (by decide) (iA_s) ?_
    rw [sI_sI (a := 61)]
    rw [filF_s]
    refine g_iinc (pc9 := 21) C rfl [(3, .int (nI (v + 1))), (0, .ref (w.1 (64 + 5 * j))), (1, .ref (w.1 (60))), (2, .ref (w.1 (61)))] 0 (nI (v + 1)) dX7_findTwoChildren_18 rfl (nI_1 (v)) (by decide) rfl ?_
    refine g_goto C 2 dX7_findTwoChildren_21 rfl ?_
    exact ih (v + 1) (by omega) (by omega)
set_option maxRecDepth 100000 in
set_option maxHeartbeats 4000000 in
theorem m_X7_findTwo_62 (l : Launch) (w : Wd) (σ : St) (j : Nat) (hj : j < 9) (n : Nat) (hn : tN σ j = nI n) (h47 : n ≤ 47) (P : Nat → Nat) (hP : ∀ v, 0 < v → v < n → tP σ j v = nI (P v) ∧ P v < v) (h0 : 0 < n) : MV l yX7_findTwoChildren wsX7_findTwoChildren (rmL 1) w [.ref (w.1 (64 + 5 * j)), .ref (w.1 (62)), .ref (w.1 (63))] (σ) (fun σ9 => σ9 = sI (sI σ 62 (ftO P n (iA σ 62) (iA σ 63)).1) 63 (ftO P n (iA σ 62) (iA σ 63)).2) := by
  refine MV_of (cc := cX7_findTwoChildren) (maxL := 4) (by decide) rfl (Nat.le_of_ble_eq_true rfl) ?_
  intro p e s m args below meth c A C hr hlk
  have C : Cx p s m args c w A cX7_findTwoChildren RX7 4 wsX7_findTwoChildren := C
  have hin_7 : ∀ u ∈ wsX70, u ∈ wsX7_findTwoChildren := by decide +kernel
  have hl_9 : Cond.fieldLink RX7 9 "LineageBench$Tree" "parent" "[I" ∈ wsX7_findTwoChildren := by decide +kernel
  have hl_24 : Cond.fieldLink RX7 24 "LineageBench$Tree" "nodes" "I" ∈ wsX7_findTwoChildren := by decide +kernel
  refine g_st (σ9 := sI (sI σ (62) (filF (iA σ 62) 0)) (63) (filF (iA σ 63) 0)) (by rw [filF_0, filF_0, sI_self, sI_self]) ?_
  refine g_iconst (pc9 := 1) C rfl (nI (0)) dX7_findTwoChildren_0 rfl ?_
  refine g_istore_n (pc9 := 2) C rfl [(3, .int (nI (0))), (0, .ref (w.1 (64 + 5 * j))), (1, .ref (w.1 (62))), (2, .ref (w.1 (63)))] dX7_findTwoChildren_1 rfl (by decide) rfl ?_
  refine g_sub [0, 1, 2, 3] [(3, .int (nI (0))), (0, .ref (w.1 (64 + 5 * j))), (1, .ref (w.1 (62))), (2, .ref (w.1 (63)))] rfl ?_
  refine g_lp1 (α := Nat) (fun v => v ≤ n) (fun v => n - v) (fun v => G p l e _ s m args below meth c _ w A _ (sI (sI σ (62) (filF (iA σ 62) (v))) (63) (filF (iA σ 63) (v))) 0 0 2 [(3, .int (nI (v))), (0, .ref (w.1 (64 + 5 * j))), (1, .ref (w.1 (62))), (2, .ref (w.1 (63)))] []) (fun v hI ih => ?_) (0) (Nat.zero_le _)
  obtain hv := hI
  refine g_iload_n (pc9 := 3) C rfl 0 dX7_findTwoChildren_2 rfl rfl ?_
  refine g_aload_n (pc9 := 4) C rfl 1 dX7_findTwoChildren_3 rfl rfl ?_
  refine g_get (v := .int (nI (n))) (pc9 := 7) C rfl (64 + 5 * j) 4 dX7_findTwoChildren_4 (by omega) (ce_tree w (sI (sI σ (62) (filF (iA σ 62) (v))) (63) (filF (iA σ 63) (v))) (j)) hin_7 hl_24 rfl (by decide) rfl (congrArg (fun z => some (Value.int z)) (((nF_I).trans (nF_I)).trans hn)) ?_
  refine g_icmp_ge (pc9 := 10) C rfl 24 dX7_findTwoChildren_7 rfl (fun c_1 => ?_) (fun c_1 => ?_)
  · replace c_1 := (nI_leI (by omega) (by omega)).mp c_1
    refine g_aload_n (pc9 := 25) C rfl 1 dX7_findTwoChildren_24 rfl rfl ?_
    refine g_get (v := .int (nI (n))) (pc9 := 28) C rfl (64 + 5 * j) 4 dX7_findTwoChildren_25 (by omega) (ce_tree w (sI (sI σ (62) (filF (iA σ 62) (v))) (63) (filF (iA σ 63) (v))) (j)) hin_7 hl_24 rfl (by decide) rfl (congrArg (fun z => some (Value.int z)) (((nF_I).trans (nF_I)).trans hn)) ?_
    refine g_iconst (pc9 := 29) C rfl (nI (1)) dX7_findTwoChildren_28 rfl ?_
    refine g_isubN (pc9 := 30) C rfl dX7_findTwoChildren_29 (by omega) ?_
    refine g_istore_n (pc9 := 31) C rfl [(3, .int (nI (n - (1)))), (0, .ref (w.1 (64 + 5 * j))), (1, .ref (w.1 (62))), (2, .ref (w.1 (63)))] dX7_findTwoChildren_30 rfl (by decide) rfl ?_
    refine g_sub [0, 1, 2, 3] [(3, .int (nI (n - (1)))), (0, .ref (w.1 (64 + 5 * j))), (1, .ref (w.1 (62))), (2, .ref (w.1 (63)))] rfl ?_
    refine g_lp3 (α := Nat) (β := Nat → Int32) (γ := Nat → Int32) (fun v f g => v < n ∧ ftF P v f g = ftO P n (iA σ 62) (iA σ 63)) (fun v f g => v) (fun v f g => G p l e _ s m args below meth c _ w A _ (sI (sI σ (62) (f)) (63) (g)) 0 0 31 [(3, .int (nI (v))), (0, .ref (w.1 (64 + 5 * j))), (1, .ref (w.1 (62))), (2, .ref (w.1 (63)))] []) (fun v f g hI ih2 => ?_) (n - 1) (filF (iA σ 62) v) (filF (iA σ 63) v) ⟨by omega, by rw [show v = n by omega]⟩
    obtain ⟨hv2, hf⟩ := hI
    refine g_iload_n (pc9 := 32) C rfl 0 dX7_findTwoChildren_31 rfl rfl ?_
    refine g_if_le (pc9 := 35) C rfl 66 dX7_findTwoChildren_32 rfl (fun c_2 => ?_) (fun c_2 => ?_)
    · replace c_2 := (z_le (by omega)).mp c_2
      exact g_return C hr hlk dX7_findTwoChildren_66 (by rw [← hf, show v = 0 by omega]; rfl)
    · replace c_2 := (not_congr (z_le (by omega))).mp c_2
      have hPv := (hP v (by omega) (by omega)).2
      refine g_aload_n (pc9 := 36) C rfl 3 dX7_findTwoChildren_35 rfl rfl ?_
      refine g_aload_n (pc9 := 37) C rfl 1 dX7_findTwoChildren_36 rfl rfl ?_
      refine g_get (v := .ref (w.1 (65 + 5 * j))) (pc9 := 40) C rfl (64 + 5 * j) 0 dX7_findTwoChildren_37 (by omega) (ce_tree w (sI (sI σ (62) (f)) (63) (g)) (j)) hin_7 hl_9 rfl (by decide) rfl rfl ?_
      refine g_iload_n (pc9 := 41) C rfl 0 dX7_findTwoChildren_40 rfl rfl ?_
      refine g_iald (x := nI (P (v))) (pc9 := 42) C rfl (65 + 5 * j) (v) dX7_findTwoChildren_41 (by omega) (ce_parent w (sI (sI σ (62) (f)) (63) (g)) (j)) rfl (by omega) (by decide) ((congrFun ((iA_n (by omega)).trans (iA_n (by omega))) _).trans (hP (v) (by omega) (by omega)).1) ?_
      refine g_aload_n (pc9 := 43) C rfl 2 dX7_findTwoChildren_42 rfl rfl ?_
      refine g_aload_n (pc9 := 44) C rfl 1 dX7_findTwoChildren_43 rfl rfl ?_
      refine g_get (v := .ref (w.1 (65 + 5 * j))) (pc9 := 47) C rfl (64 + 5 * j) 0 dX7_findTwoChildren_44 (by omega) (ce_tree w (sI (sI σ (62) (f)) (63) (g)) (j)) hin_7 hl_9 rfl (by decide) rfl rfl ?_
      refine g_iload_n (pc9 := 48) C rfl 0 dX7_findTwoChildren_47 rfl rfl ?_
      refine g_iald (x := nI (P (v))) (pc9 := 49) C rfl (65 + 5 * j) (v) dX7_findTwoChildren_48 (by omega) (ce_parent w (sI (sI σ (62) (f)) (63) (g)) (j)) rfl (by omega) (by decide) ((congrFun ((iA_n (by omega)).trans (iA_n (by omega))) _).trans (hP (v) (by omega) (by omega)).1) ?_
      refine g_iald (x := f (P (v))) (pc9 := 50) C rfl (62) (P (v)) dX7_findTwoChildren_49 (by decide) (ce_62 w (sI (sI σ (62) (f)) (63) (g))) rfl (by omega) (by decide) (congrFun ((iA_n (by decide)).trans (iA_s)) _) ?_
      refine g_iast (pc9 := 51) C rfl (63) (P (v)) (g) dX7_findTwoChildren_50 (by decide) (fun _ => rfl) (ce_63 w (sI (sI σ (62) (f)) (63) (g))) rfl (by omega) (by decide) (iA_s) ?_
      rw [sI_sI (a := 63)]
      refine g_aload_n (pc9 := 52) C rfl 2 dX7_findTwoChildren_51 rfl rfl ?_
      refine g_aload_n (pc9 := 53) C rfl 1 dX7_findTwoChildren_52 rfl rfl ?_
      refine g_get (v := .ref (w.1 (65 + 5 * j))) (pc9 := 56) C rfl (64 + 5 * j) 0 dX7_findTwoChildren_53 (by omega) (ce_tree w (sI (sI σ (62) (f)) (63) (upd (g) (P (v)) (f (P (v))))) (j)) hin_7 hl_9 rfl (by decide) rfl rfl ?_
      refine g_iload_n (pc9 := 57) C rfl 0 dX7_findTwoChildren_56 rfl rfl ?_
      refine g_iald (x := nI (P (v))) (pc9 := 58) C rfl (65 + 5 * j) (v) dX7_findTwoChildren_57 (by omega) (ce_parent w (sI (sI σ (62) (f)) (63) (upd (g) (P (v)) (f (P (v))))) (j)) rfl (by omega) (by decide) ((congrFun ((iA_n (by omega)).trans (iA_n (by omega))) _).trans (hP (v) (by omega) (by omega)).1) ?_
      refine g_iload_n (pc9 := 59) C rfl 0 dX7_findTwoChildren_58 rfl rfl ?_
      refine g_iast (pc9 := 60) C rfl (62) (P (v)) (f) dX7_findTwoChildren_59 (by decide) (fun _ => rfl) (ce_62 w (sI (sI σ (62) (f)) (63) (upd (g) (P (v)) (f (P (v)))))) rfl (by omega) (by decide) ((iA_n (by decide)).trans (iA_s)) ?_
      rw [sI_cm (a := 63) (b := 62) (by decide), sI_sI (a := 62)]
      refine g_iinc (pc9 := 63) C rfl [(3, .int (nI (v - 1))), (0, .ref (w.1 (64 + 5 * j))), (1, .ref (w.1 (62))), (2, .ref (w.1 (63)))] 0 (nI (v - 1)) dX7_findTwoChildren_60 rfl (sb_m1 (by omega)) (by decide) rfl ?_
      refine g_goto C 31 dX7_findTwoChildren_63 rfl ?_
      exact ih2 (v - 1) (upd (f) (P (v)) (nI (v))) (upd (g) (P (v)) (f (P (v)))) ⟨by omega, (ftF_s (by omega)).symm.trans hf⟩ (by omega)
  · replace c_1 := (not_congr (nI_leI (by omega) (by omega))).mp c_1
    refine g_aload_n (pc9 := 11) C rfl 2 dX7_findTwoChildren_10 rfl rfl ?_
    refine g_iload_n (pc9 := 12) C rfl 0 dX7_findTwoChildren_11 rfl rfl ?_
    refine g_iconst (pc9 := 13) C rfl ((-1)) dX7_findTwoChildren_12 rfl ?_
    refine g_iast (pc9 := 14) C rfl (62) (v) (filF (iA σ 62) (v)) dX7_findTwoChildren_13 (by decide) (fun _ => rfl) (ce_62 w (sI (sI σ (62) (filF (iA σ 62) (v))) (63) (filF (iA σ 63) (v)))) rfl (by omega) (by decide) ((iA_n (by decide)).trans (iA_s)) ?_
    rw [sI_cm (a := 63) (b := 62) (by decide), sI_sI (a := 62)]
    rw [filF_s]
    refine g_aload_n (pc9 := 15) C rfl 3 dX7_findTwoChildren_14 rfl rfl ?_
    refine g_iload_n (pc9 := 16) C rfl 0 dX7_findTwoChildren_15 rfl rfl ?_
    refine g_iconst (pc9 := 17) C rfl ((-1)) dX7_findTwoChildren_16 rfl ?_
    refine g_iast (pc9 := 18) C rfl (63) (v) (filF (iA σ 63) (v)) dX7_findTwoChildren_17 (by decide) (fun _ => rfl) (ce_63 w (sI (sI σ (62) (filF (iA σ 62) (v + 1))) (63) (filF (iA σ 63) (v)))) rfl (by omega) (by decide) (iA_s) ?_
    rw [sI_sI (a := 63)]
    rw [filF_s]
    refine g_iinc (pc9 := 21) C rfl [(3, .int (nI (v + 1))), (0, .ref (w.1 (64 + 5 * j))), (1, .ref (w.1 (62))), (2, .ref (w.1 (63)))] 0 (nI (v + 1)) dX7_findTwoChildren_18 rfl (nI_1 (v)) (by decide) rfl ?_
    refine g_goto C 2 dX7_findTwoChildren_21 rfl ?_
    exact ih (v + 1) (by omega) (by omega)

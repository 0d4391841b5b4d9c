/-! Tallies: orders -/
def oN (k : Int32) : Nat := if k = -1 then 1 else 0
theorem oN_y {k : Int32} (h : k = -1) : oN k = 1 := if_pos h
theorem oN_n {k : Int32} (h : ¬ k = -1) : oN k = 0 := if_neg h
theorem oN_le (k : Int32) : oN k ≤ 1 := by unfold oN; split <;> omega
def orD (P : Nat → Nat) (K : Nat → Int32) : Nat → (Nat → Int64) → (Nat → Nat) → (Nat → Int64)
  | 0, y, _ => y
  | v + 1, y, B => orD P K v (vp_updL y (P (v + 1)) (y (P (v + 1)) * (y (v + 1) * chU (B (P (v + 1)) + (B (v + 1) + oN (K (v + 1)))) (B (v + 1) + oN (K (v + 1))) (B (v + 1) + oN (K (v + 1)))))) (va_up B (P (v + 1)) (B (P (v + 1)) + (B (v + 1) + oN (K (v + 1)))))
theorem orD_s {P : Nat → Nat} {K : Nat → Int32} {v : Nat} {y : Nat → Int64} {B : Nat → Nat} (h : 0 < v) : orD P K v y B = orD P K (v - 1) (vp_updL y (P v) (y (P v) * (y v * chU (B (P v) + (B v + oN (K v))) (B v + oN (K v)) (B v + oN (K v))))) (va_up B (P v) (B (P v) + (B v + oN (K v)))) := by
  obtain ⟨u, rfl⟩ : ∃ u, v = u + 1 := ⟨v - 1, by omega⟩
  rfl
def sumN (B : Nat → Nat) : Nat → Nat
  | 0 => 0
  | k + 1 => sumN B k + B k
theorem sumN_0 : ∀ k, sumN (fun _ => 0) k = 0
  | 0 => rfl
  | k + 1 => by show sumN _ k + 0 = 0; rw [sumN_0 k]
theorem sumN_le {B : Nat → Nat} : ∀ (k u : Nat), u < k → B u ≤ sumN B k := by
  intro k
  induction k with
  | zero => intro u h; omega
  | succ k ih =>
    intro u h
    show B u ≤ sumN B k + B k
    by_cases q : u = k
    · rw [q]; omega
    · have := ih u (by omega); omega
theorem sumN_up {B : Nat → Nat} {a t : Nat} : ∀ (k : Nat), a < k → sumN (va_up B a t) k + B a = sumN B k + t := by
  intro k
  induction k with
  | zero => intro h; omega
  | succ k ih =>
    intro h
    show sumN (va_up B a t) k + va_up B a t k + B a = sumN B k + B k + t
    by_cases q : a = k
    · subst q
      rw [va_up_self]
      have : ∀ m, m ≤ a → sumN (va_up B a t) m = sumN B m := by
        intro m
        induction m with
        | zero => intro _; rfl
        | succ m ih2 =>
          intro hm
          show sumN (va_up B a t) m + va_up B a t m = sumN B m + B m
          rw [ih2 (by omega), va_up_ne _ _ (by omega)]
      rw [this a (Nat.le_refl _)]; omega
    · rw [va_up_ne _ _ (by omega)]
      have := ih (by omega)
      omega
set_option maxRecDepth 100000 in
set_option maxHeartbeats 4000000 in
theorem m_X5_ordersOf (l : Launch) (w : Wd) (σ : St) (j : Nat) (hj : j < 9) (n : Nat) (hn : tN σ j = nI n) (h47 : n ≤ 47) (h0 : 0 < n) (P : Nat → Nat) (hP : ∀ v, 0 < v → v < n → tP σ j v = nI (P v) ∧ P v < v) : ML l yX5_ordersOf wsX5_ordersOf (rmL 2) w [.ref (w.1 (49)), .ref (w.1 (64 + 5 * j))] (σ) (fun r σ9 => ∃ y g, σ9 = sI (sJ σ 51 y) 52 g ∧ r = orD P (tK σ j) (n - 1) (fillJ (fun _ => 1) (jA σ 51) n) (fun _ => 0) 0) := by
  refine ML_of (cc := cX5_ordersOf) (maxL := 6) (ret := .long) (by decide) rfl (Nat.le_of_ble_eq_true rfl) ?_
  intro p e s m args below meth c A C hr hlk
  have C : Cx p s m args c w A cX5_ordersOf RX5 6 wsX5_ordersOf := C
  have hin_5 : ∀ u ∈ wsX50, u ∈ wsX5_ordersOf := by decide +kernel
  have hin_7 : ∀ u ∈ wsX70, u ∈ wsX5_ordersOf := by decide +kernel
  have hl_15 : Cond.fieldLink RX5 15 "LineageBench$Tallies" "ways" "[J" ∈ wsX5_ordersOf := by decide +kernel
  have hl_19 : Cond.fieldLink RX5 19 "LineageBench$Tallies" "branchings" "[I" ∈ wsX5_ordersOf := by decide +kernel
  have hl_22 : Cond.fieldLink RX5 22 "LineageBench$Tree" "nodes" "I" ∈ wsX5_ordersOf := by decide +kernel
  have hl_28 : Cond.fieldLink RX5 28 "LineageBench$Tree" "kind" "[I" ∈ wsX5_ordersOf := by decide +kernel
  have hl_31 : Cond.fieldLink RX5 31 "LineageBench$Tree" "parent" "[I" ∈ wsX5_ordersOf := by decide +kernel
  refine g_st (σ9 := sI (sJ σ (51) (fillJ (fun _ => 1) (jA σ 51) (0))) (52) (fillG (fun _ => nI 0) (iA σ 52) (0))) (by rw [fillJ_0, fillG_0, sJ_self, sI_self]) ?_
  refine g_iconst (pc9 := 1) C rfl (nI (0)) dX5_ordersOf_0 rfl ?_
  refine g_istore_n (pc9 := 2) C rfl [(2, .int (nI (0))), (0, .ref (w.1 (49))), (1, .ref (w.1 (64 + 5 * j)))] dX5_ordersOf_1 rfl (by decide) rfl ?_
  refine g_sub [0, 1, 2] [(2, .int (nI (0))), (0, .ref (w.1 (49))), (1, .ref (w.1 (64 + 5 * j)))] rfl ?_
  refine g_lp1 (α := Nat) (fun v => v ≤ n) (fun v => n - v) (fun v => G p l e _ s m args below meth c _ w A _ (sI (sJ σ (51) (fillJ (fun _ => 1) (jA σ 51) (v))) (52) (fillG (fun _ => nI 0) (iA σ 52) (v))) 0 0 2 [(2, .int (nI (v))), (0, .ref (w.1 (49))), (1, .ref (w.1 (64 + 5 * j)))] []) (fun v hI ih => ?_) (0) (Nat.zero_le _)
  obtain hv := hI
  refine g_iload_n (pc9 := 3) C rfl 0 dX5_ordersOf_2 rfl rfl ?_
  refine g_aload_n (pc9 := 4) C rfl 2 dX5_ordersOf_3 rfl rfl ?_
  refine g_get (v := .int (nI (n))) (pc9 := 7) C rfl (64 + 5 * j) 4 dX5_ordersOf_4 (by omega) (ce_tree w (sI (sJ σ (51) (fillJ (fun _ => 1) (jA σ 51) (v))) (52) (fillG (fun _ => nI 0) (iA σ 52) (v))) (j)) hin_7 hl_22 rfl (by decide) rfl (congrArg (fun z => some (Value.int z)) (((nF_I).trans (nF_J)).trans hn)) ?_
  refine g_icmp_ge (pc9 := 10) C rfl 30 dX5_ordersOf_7 rfl (fun c_1 => ?_) (fun c_1 => ?_)
  · replace c_1 := (nI_leI (by omega) (by omega)).mp c_1
    refine g_aload_n (pc9 := 31) C rfl 2 dX5_ordersOf_30 rfl rfl ?_
    refine g_get (v := .int (nI (n))) (pc9 := 34) C rfl (64 + 5 * j) 4 dX5_ordersOf_31 (by omega) (ce_tree w (sI (sJ σ (51) (fillJ (fun _ => 1) (jA σ 51) (v))) (52) (fillG (fun _ => nI 0) (iA σ 52) (v))) (j)) hin_7 hl_22 rfl (by decide) rfl (congrArg (fun z => some (Value.int z)) (((nF_I).trans (nF_J)).trans hn)) ?_
    refine g_iconst (pc9 := 35) C rfl (nI (1)) dX5_ordersOf_34 rfl ?_
    refine g_isubN (pc9 := 36) C rfl dX5_ordersOf_35 (by omega) ?_
    refine g_istore_n (pc9 := 37) C rfl [(2, .int (nI (n - (1)))), (0, .ref (w.1 (49))), (1, .ref (w.1 (64 + 5 * j)))] dX5_ordersOf_36 rfl (by decide) rfl ?_
    refine g_sub [0, 1, 2] [(2, .int (nI (n - (1)))), (0, .ref (w.1 (49))), (1, .ref (w.1 (64 + 5 * j)))] rfl ?_
    refine g_lp4 (α := Nat) (β := Nat → Int64) (γ := Nat → Int32) (δ := Nat → Nat) (fun v y g B => v < n ∧ (∀ u, u ≤ v → g u = nI (B u)) ∧ sumN B (v + 1) ≤ n - 1 - v ∧ orD P (tK σ j) v y B = orD P (tK σ j) (n - 1) (fillJ (fun _ => 1) (jA σ 51) n) (fun _ => 0)) (fun v y g B => v) (fun v y g B => G p l e _ s m args below meth c _ w A _ (sI (sJ σ (51) (y)) (52) (g)) 0 0 37 [(2, .int (nI (v))), (0, .ref (w.1 (49))), (1, .ref (w.1 (64 + 5 * j)))] []) (fun v y g B hI ih2 => ?_) (n - 1) (fillJ (fun _ => 1) (jA σ 51) v) (fillG (fun _ => nI 0) (iA σ 52) v) (fun _ => 0) ⟨by omega, fun u h => if_pos (by omega), by rw [sumN_0]; omega, by rw [show v = n by omega]⟩
    obtain ⟨hv2, hB, hsm, hy⟩ := hI
    refine g_iload_n (pc9 := 38) C rfl 0 dX5_ordersOf_37 rfl rfl ?_
    refine g_if_le (pc9 := 41) C rfl 120 dX5_ordersOf_38 rfl (fun c_2 => ?_) (fun c_2 => ?_)
    · replace c_2 := (z_le (by omega)).mp c_2
      refine g_aload_n (pc9 := 121) C rfl 1 dX5_ordersOf_120 rfl rfl ?_
      refine g_get (v := .ref (w.1 (51))) (pc9 := 124) C rfl (49) 1 dX5_ordersOf_121 (by decide) (ce_49 w (sI (sJ σ (51) (y)) (52) (g))) hin_5 hl_15 rfl (by decide) rfl rfl ?_
      refine g_iconst (pc9 := 125) C rfl (nI (0)) dX5_ordersOf_124 rfl ?_
      refine g_lald (x := y (0)) (pc9 := 126) C rfl (51) (0) dX5_ordersOf_125 (by decide) (ce_51 w (sI (sJ σ (51) (y)) (52) (g))) rfl (by omega) (by decide) (congrFun ((jA_I).trans (jA_s)) _) ?_
      exact g_lreturn C hr hlk dX5_ordersOf_126 ⟨y, g, rfl, by rw [← hy, show v = 0 by omega]; rfl⟩
    · replace c_2 := (not_congr (z_le (by omega))).mp c_2
      have hPv := (hP v (by omega) (by omega)).2
      have hb1 := sumN_le (B := B) (v + 1) v (by omega)
      have hb2 := sumN_le (B := B) (v + 1) (P v) (by omega)
      have ho := oN_le (tK σ j v)
      refine g_aload_n (pc9 := 42) C rfl 2 dX5_ordersOf_41 rfl rfl ?_
      refine g_get (v := .ref (w.1 (65 + 5 * j))) (pc9 := 45) C rfl (64 + 5 * j) 0 dX5_ordersOf_42 (by omega) (ce_tree w (sI (sJ σ (51) (y)) (52) (g)) (j)) hin_7 hl_31 rfl (by decide) rfl rfl ?_
      refine g_iload_n (pc9 := 46) C rfl 0 dX5_ordersOf_45 rfl rfl ?_
      refine g_iald (x := nI (P (v))) (pc9 := 47) C rfl (65 + 5 * j) (v) dX5_ordersOf_46 (by omega) (ce_parent w (sI (sJ σ (51) (y)) (52) (g)) (j)) rfl (by omega) (by decide) ((congrFun ((iA_n (by omega)).trans (iA_J)) _).trans (hP (v) (by omega) (by omega)).1) ?_
      refine g_istore_n (pc9 := 48) C rfl [(3, .int (nI (P (v)))), (2, .int (nI (v))), (0, .ref (w.1 (49))), (1, .ref (w.1 (64 + 5 * j)))] dX5_ordersOf_47 rfl (by decide) rfl ?_
      refine g_aload_n (pc9 := 49) C rfl 2 dX5_ordersOf_48 rfl rfl ?_
      refine g_get (v := .ref (w.1 (52))) (pc9 := 52) C rfl (49) 2 dX5_ordersOf_49 (by decide) (ce_49 w (sI (sJ σ (51) (y)) (52) (g))) hin_5 hl_19 rfl (by decide) rfl rfl ?_
      refine g_iload_n (pc9 := 53) C rfl 1 dX5_ordersOf_52 rfl rfl ?_
      refine g_iald (x := nI (B (v))) (pc9 := 54) C rfl (52) (v) dX5_ordersOf_53 (by decide) (ce_52 w (sI (sJ σ (51) (y)) (52) (g))) rfl (by omega) (by decide) ((congrFun (iA_s) _).trans (hB (v) (by omega))) ?_
      refine g_aload_n (pc9 := 55) C rfl 3 dX5_ordersOf_54 rfl rfl ?_
      refine g_get (v := .ref (w.1 (66 + 5 * j))) (pc9 := 58) C rfl (64 + 5 * j) 1 dX5_ordersOf_55 (by omega) (ce_tree w (sI (sJ σ (51) (y)) (52) (g)) (j)) hin_7 hl_28 rfl (by decide) rfl rfl ?_
      refine g_iload_n (pc9 := 59) C rfl 1 dX5_ordersOf_58 rfl rfl ?_
      refine g_iald (x := (iA σ (66 + 5 * j)) (v)) (pc9 := 60) C rfl (66 + 5 * j) (v) dX5_ordersOf_59 (by omega) (ce_kind w (sI (sJ σ (51) (y)) (52) (g)) (j)) rfl (by omega) (by decide) (congrFun ((iA_n (by omega)).trans (iA_J)) _) ?_
      refine g_iconst (pc9 := 61) C rfl ((-1)) dX5_ordersOf_60 rfl ?_
      refine g_icmp_ne (pc9 := 64) C rfl 68 dX5_ordersOf_61 rfl (fun c_3 => ?_) (fun c_3 => ?_)
      · have hoo : oN (tK σ j v) = 0 := oN_n c_3
        refine g_iconst (pc9 := 69) C rfl (nI (0)) dX5_ordersOf_68 rfl ?_
        refine g_iaddN (pc9 := 70) C rfl dX5_ordersOf_69 ?_
        refine g_ti (nI (B v + oN (tK σ j v))) (by rw [hoo]) ?_
        refine g_istore (pc9 := 72) C rfl [(4, .int (nI (B v + oN (tK σ j v)))), (3, .int (nI (P (v)))), (2, .int (nI (v))), (0, .ref (w.1 (49))), (1, .ref (w.1 (64 + 5 * j)))] dX5_ordersOf_70 (by decide) rfl ?_
        refine g_aload_n (pc9 := 73) C rfl 3 dX5_ordersOf_72 rfl rfl ?_
        refine g_get (v := .ref (w.1 (52))) (pc9 := 76) C rfl (49) 2 dX5_ordersOf_73 (by decide) (ce_49 w (sI (sJ σ (51) (y)) (52) (g))) hin_5 hl_19 rfl (by decide) rfl rfl ?_
        refine g_iload_n (pc9 := 77) C rfl 1 dX5_ordersOf_76 rfl rfl ?_
        refine g_iald (x := nI (B (P (v)))) (pc9 := 78) C rfl (52) (P (v)) dX5_ordersOf_77 (by decide) (ce_52 w (sI (sJ σ (51) (y)) (52) (g))) rfl (by omega) (by decide) ((congrFun (iA_s) _).trans (hB (P (v)) (by omega))) ?_
        refine g_iload (pc9 := 80) C rfl 0 dX5_ordersOf_78 rfl ?_
        refine g_iaddN (pc9 := 81) C rfl dX5_ordersOf_80 ?_
        refine g_istore (pc9 := 83) C rfl [(5, .int (nI ((B (P (v))) + (B v + oN (tK σ j v))))), (4, .int (nI (B v + oN (tK σ j v)))), (3, .int (nI (P (v)))), (2, .int (nI (v))), (0, .ref (w.1 (49))), (1, .ref (w.1 (64 + 5 * j)))] dX5_ordersOf_81 (by decide) rfl ?_
        refine g_aload_n (pc9 := 84) C rfl 4 dX5_ordersOf_83 rfl rfl ?_
        refine g_get (v := .ref (w.1 (51))) (pc9 := 87) C rfl (49) 1 dX5_ordersOf_84 (by decide) (ce_49 w (sI (sJ σ (51) (y)) (52) (g))) hin_5 hl_15 rfl (by decide) rfl rfl ?_
        refine g_iload_n (pc9 := 88) C rfl 2 dX5_ordersOf_87 rfl rfl ?_
        refine g_dup2 (pc9 := 89) C rfl dX5_ordersOf_88 rfl rfl ?_
        refine g_lald (x := y (P (v))) (pc9 := 90) C rfl (51) (P (v)) dX5_ordersOf_89 (by decide) (ce_51 w (sI (sJ σ (51) (y)) (52) (g))) rfl (by omega) (by decide) (congrFun ((jA_I).trans (jA_s)) _) ?_
        refine g_aload_n (pc9 := 91) C rfl 4 dX5_ordersOf_90 rfl rfl ?_
        refine g_get (v := .ref (w.1 (51))) (pc9 := 94) C rfl (49) 1 dX5_ordersOf_91 (by decide) (ce_49 w (sI (sJ σ (51) (y)) (52) (g))) hin_5 hl_15 rfl (by decide) rfl rfl ?_
        refine g_iload_n (pc9 := 95) C rfl 3 dX5_ordersOf_94 rfl rfl ?_
        refine g_lald (x := y (v)) (pc9 := 96) C rfl (51) (v) dX5_ordersOf_95 (by decide) (ce_51 w (sI (sJ σ (51) (y)) (52) (g))) rfl (by omega) (by decide) (congrFun ((jA_I).trans (jA_s)) _) ?_
        refine g_iload (pc9 := 98) C rfl 0 dX5_ordersOf_96 rfl ?_
        refine g_iload (pc9 := 100) C rfl 1 dX5_ordersOf_98 rfl ?_
        refine g_callSl (nn := 2) (rest := [.long (y (v)), .long (y (P (v))), .int (nI (P (v))), .ref (w.1 (51))]) (pc9 := 103) C rfl [.int (nI ((B (P (v))) + (B v + oN (tK σ j v)))), .int (nI (B v + oN (tK σ j v)))] rfl dX5_ordersOf_100 (m_X5_choices l w (sI (sJ σ (51) (y)) (52) (g)) ((B (P (v))) + (B v + oN (tK σ j v))) (B v + oN (tK σ j v)) (by omega) (by omega)) gX5_ordersOf_X5_choices rfl rfl rfl (by decide +kernel) ⟨by decide, by decide⟩ rfl (Nat.le_of_ble_eq_true rfl) ⟨by decide, by decide⟩ (fun r_4 σ_4 q_4 => ?_)
        obtain ⟨qs_4, qr_4⟩ := q_4
        rw [qs_4, qr_4]
        clear qs_4 qr_4
        refine g_lmul (pc9 := 104) C rfl dX5_ordersOf_103 ?_
        refine g_lmul (pc9 := 105) C rfl dX5_ordersOf_104 ?_
        refine g_last (pc9 := 106) C rfl (51) (P (v)) (y) dX5_ordersOf_105 (by decide) (fun _ => rfl) (ce_51 w (sI (sJ σ (51) (y)) (52) (g))) rfl (by omega) (by decide) ((jA_I).trans (jA_s)) ?_
        rw [sJ_sI (a := 52) (b := 51), sJ_sJ (a := 51)]
        refine g_aload_n (pc9 := 107) C rfl 4 dX5_ordersOf_106 rfl rfl ?_
        refine g_get (v := .ref (w.1 (52))) (pc9 := 110) C rfl (49) 2 dX5_ordersOf_107 (by decide) (ce_49 w (sI (sJ σ (51) (vp_updL (y) (P (v)) ((y (P (v))) * ((y (v)) * (chU ((B (P (v))) + (B v + oN (tK σ j v))) (B v + oN (tK σ j v)) (B v + oN (tK σ j v))))))) (52) (g))) hin_5 hl_19 rfl (by decide) rfl rfl ?_
        refine g_iload_n (pc9 := 111) C rfl 2 dX5_ordersOf_110 rfl rfl ?_
        refine g_iload (pc9 := 113) C rfl 0 dX5_ordersOf_111 rfl ?_
        refine g_iast (pc9 := 114) C rfl (52) (P (v)) (g) dX5_ordersOf_113 (by decide) (fun _ => rfl) (ce_52 w (sI (sJ σ (51) (vp_updL (y) (P (v)) ((y (P (v))) * ((y (v)) * (chU ((B (P (v))) + (B v + oN (tK σ j v))) (B v + oN (tK σ j v)) (B v + oN (tK σ j v))))))) (52) (g))) rfl (by omega) (by decide) (iA_s) ?_
        rw [sI_sI (a := 52)]
        refine g_iinc (pc9 := 117) C rfl [(2, .int (nI (v - 1))), (5, .int (nI ((B (P (v))) + (B v + oN (tK σ j v))))), (4, .int (nI (B v + oN (tK σ j v)))), (3, .int (nI (P (v)))), (0, .ref (w.1 (49))), (1, .ref (w.1 (64 + 5 * j)))] 3 (nI (v - 1)) dX5_ordersOf_114 rfl (sb_m1 (by omega)) (by decide) rfl ?_
        refine g_goto C 37 dX5_ordersOf_117 rfl ?_
        refine g_sub [0, 4, 5] [(2, .int (nI (v - 1))), (0, .ref (w.1 (49))), (1, .ref (w.1 (64 + 5 * j)))] rfl ?_
        have hsu := sumN_up (B := B) (a := P v) (t := B (P v) + (B v + oN (tK σ j v))) v hPv
        refine ih2 (v - 1) _ _ (va_up B (P v) (B (P v) + (B v + oN (tK σ j v)))) ⟨by omega, fun u hu => ?_, ?_, (orD_s (by omega)).symm.trans hy⟩ (by omega)
        · by_cases hup : u = P v
          · subst hup; rw [pk_us, va_up_self]
          · rw [pk_un hup, va_up_ne _ _ hup]; exact hB u (by omega)
        · rw [show v - 1 + 1 = v by omega]
          have : sumN B (v + 1) = sumN B v + B v := rfl
          omega
      · have hoo : oN (tK σ j v) = 1 := oN_y c_3
        refine g_iconst (pc9 := 65) C rfl (nI (1)) dX5_ordersOf_64 rfl ?_
        refine g_goto C 69 dX5_ordersOf_65 rfl ?_
        refine g_iaddN (pc9 := 70) C rfl dX5_ordersOf_69 ?_
        refine g_ti (nI (B v + oN (tK σ j v))) (by rw [hoo]) ?_
        refine g_istore (pc9 := 72) C rfl [(4, .int (nI (B v + oN (tK σ j v)))), (3, .int (nI (P (v)))), (2, .int (nI (v))), (0, .ref (w.1 (49))), (1, .ref (w.1 (64 + 5 * j)))] dX5_ordersOf_70 (by decide) rfl ?_
        refine g_aload_n (pc9 := 73) C rfl 3 dX5_ordersOf_72 rfl rfl ?_
        refine g_get (v := .ref (w.1 (52))) (pc9 := 76) C rfl (49) 2 dX5_ordersOf_73 (by decide) (ce_49 w (sI (sJ σ (51) (y)) (52) (g))) hin_5 hl_19 rfl (by decide) rfl rfl ?_
        refine g_iload_n (pc9 := 77) C rfl 1 dX5_ordersOf_76 rfl rfl ?_
        refine g_iald (x := nI (B (P (v)))) (pc9 := 78) C rfl (52) (P (v)) dX5_ordersOf_77 (by decide) (ce_52 w (sI (sJ σ (51) (y)) (52) (g))) rfl (by omega) (by decide) ((congrFun (iA_s) _).trans (hB (P (v)) (by omega))) ?_
        refine g_iload (pc9 := 80) C rfl 0 dX5_ordersOf_78 rfl ?_
        refine g_iaddN (pc9 := 81) C rfl dX5_ordersOf_80 ?_
        refine g_istore (pc9 := 83) C rfl [(5, .int (nI ((B (P (v))) + (B v + oN (tK σ j v))))), (4, .int (nI (B v + oN (tK σ j v)))), (3, .int (nI (P (v)))), (2, .int (nI (v))), (0, .ref (w.1 (49))), (1, .ref (w.1 (64 + 5 * j)))] dX5_ordersOf_81 (by decide) rfl ?_
        refine g_aload_n (pc9 := 84) C rfl 4 dX5_ordersOf_83 rfl rfl ?_
        refine g_get (v := .ref (w.1 (51))) (pc9 := 87) C rfl (49) 1 dX5_ordersOf_84 (by decide) (ce_49 w (sI (sJ σ (51) (y)) (52) (g))) hin_5 hl_15 rfl (by decide) rfl rfl ?_
        refine g_iload_n (pc9 := 88) C rfl 2 dX5_ordersOf_87 rfl rfl ?_
        refine g_dup2 (pc9 := 89) C rfl dX5_ordersOf_88 rfl rfl ?_
        refine g_lald (x := y (P (v))) (pc9 := 90) C rfl (51) (P (v)) dX5_ordersOf_89 (by decide) (ce_51 w (sI (sJ σ (51) (y)) (52) (g))) rfl (by omega) (by decide) (congrFun ((jA_I).trans (jA_s)) _) ?_
        refine g_aload_n (pc9 := 91) C rfl 4 dX5_ordersOf_90 rfl rfl ?_
        refine g_get (v := .ref (w.1 (51))) (pc9 := 94) C rfl (49) 1 dX5_ordersOf_91 (by decide) (ce_49 w (sI (sJ σ (51) (y)) (52) (g))) hin_5 hl_15 rfl (by decide) rfl rfl ?_
        refine g_iload_n (pc9 := 95) C rfl 3 dX5_ordersOf_94 rfl rfl ?_
        refine g_lald (x := y (v)) (pc9 := 96) C rfl (51) (v) dX5_ordersOf_95 (by decide) (ce_51 w (sI (sJ σ (51) (y)) (52) (g))) rfl (by omega) (by decide) (congrFun ((jA_I).trans (jA_s)) _) ?_
        refine g_iload (pc9 := 98) C rfl 0 dX5_ordersOf_96 rfl ?_
        refine g_iload (pc9 := 100) C rfl 1 dX5_ordersOf_98 rfl ?_
        refine g_callSl (nn := 2) (rest := [.long (y (v)), .long (y (P (v))), .int (nI (P (v))), .ref (w.1 (51))]) (pc9 := 103) C rfl [.int (nI ((B (P (v))) + (B v + oN (tK σ j v)))), .int (nI (B v + oN (tK σ j v)))] rfl dX5_ordersOf_100 (m_X5_choices l w (sI (sJ σ (51) (y)) (52) (g)) ((B (P (v))) + (B v + oN (tK σ j v))) (B v + oN (tK σ j v)) (by omega) (by omega)) gX5_ordersOf_X5_choices rfl rfl rfl (by decide +kernel) ⟨by decide, by decide⟩ rfl (Nat.le_of_ble_eq_true rfl) ⟨by decide, by decide⟩ (fun r_5 σ_5 q_5 => ?_)
        obtain ⟨qs_5, qr_5⟩ := q_5
        rw [qs_5, qr_5]
        clear qs_5 qr_5
        refine g_lmul (pc9 := 104) C rfl dX5_ordersOf_103 ?_
        refine g_lmul (pc9 := 105) C rfl dX5_ordersOf_104 ?_
        refine g_last (pc9 := 106) C rfl (51) (P (v)) (y) dX5_ordersOf_105 (by decide) (fun _ => rfl) (ce_51 w (sI (sJ σ (51) (y)) (52) (g))) rfl (by omega) (by decide) ((jA_I).trans (jA_s)) ?_
        rw [sJ_sI (a := 52) (b := 51), sJ_sJ (a := 51)]
        refine g_aload_n (pc9 := 107) C rfl 4 dX5_ordersOf_106 rfl rfl ?_
        refine g_get (v := .ref (w.1 (52))) (pc9 := 110) C rfl (49) 2 dX5_ordersOf_107 (by decide) (ce_49 w (sI (sJ σ (51) (vp_updL (y) (P (v)) ((y (P (v))) * ((y (v)) * (chU ((B (P (v))) + (B v + oN (tK σ j v))) (B v + oN (tK σ j v)) (B v + oN (tK σ j v))))))) (52) (g))) hin_5 hl_19 rfl (by decide) rfl rfl ?_
        refine g_iload_n (pc9 := 111) C rfl 2 dX5_ordersOf_110 rfl rfl ?_
        refine g_iload (pc9 := 113) C rfl 0 dX5_ordersOf_111 rfl ?_
        refine g_iast (pc9 := 114) C rfl (52) (P (v)) (g) dX5_ordersOf_113 (by decide) (fun _ => rfl) (ce_52 w (sI (sJ σ (51) (vp_updL (y) (P (v)) ((y (P (v))) * ((y (v)) * (chU ((B (P (v))) + (B v + oN (tK σ j v))) (B v + oN (tK σ j v)) (B v + oN (tK σ j v))))))) (52) (g))) rfl (by omega) (by decide) (iA_s) ?_
        rw [sI_sI (a := 52)]
        refine g_iinc (pc9 := 117) C rfl [(2, .int (nI (v - 1))), (5, .int (nI ((B (P (v))) + (B v + oN (tK σ j v))))), (4, .int (nI (B v + oN (tK σ j v)))), (3, .int (nI (P (v)))), (0, .ref (w.1 (49))), (1, .ref (w.1 (64 + 5 * j)))] 3 (nI (v - 1)) dX5_ordersOf_114 rfl (sb_m1 (by omega)) (by decide) rfl ?_
        refine g_goto C 37 dX5_ordersOf_117 rfl ?_
        refine g_sub [0, 4, 5] [(2, .int (nI (v - 1))), (0, .ref (w.1 (49))), (1, .ref (w.1 (64 + 5 * j)))] rfl ?_
        have hsu := sumN_up (B := B) (a := P v) (t := B (P v) + (B v + oN (tK σ j v))) v hPv
        refine ih2 (v - 1) _ _ (va_up B (P v) (B (P v) + (B v + oN (tK σ j v)))) ⟨by omega, fun u hu => ?_, ?_, (orD_s (by omega)).symm.trans hy⟩ (by omega)
        · by_cases hup : u = P v
          · subst hup; rw [pk_us, va_up_self]
          · rw [pk_un hup, va_up_ne _ _ hup]; exact hB u (by omega)
        · rw [show v - 1 + 1 = v by omega]
          have : sumN B (v + 1) = sumN B v + B v := rfl
          omega
  · replace c_1 := (not_congr (nI_leI (by omega) (by omega))).mp c_1
    refine g_aload_n (pc9 := 11) C rfl 1 dX5_ordersOf_10 rfl rfl ?_
    refine g_get (v := .ref (w.1 (51))) (pc9 := 14) C rfl (49) 1 dX5_ordersOf_11 (by decide) (ce_49 w (sI (sJ σ (51) (fillJ (fun _ => 1) (jA σ 51) (v))) (52) (fillG (fun _ => nI 0) (iA σ 52) (v)))) hin_5 hl_15 rfl (by decide) rfl rfl ?_
    refine g_iload_n (pc9 := 15) C rfl 0 dX5_ordersOf_14 rfl rfl ?_
    refine g_lconst (pc9 := 16) C rfl (1) dX5_ordersOf_15 rfl ?_
    refine g_last (pc9 := 17) C rfl (51) (v) (fillJ (fun _ => 1) (jA σ 51) (v)) dX5_ordersOf_16 (by decide) (fun _ => rfl) (ce_51 w (sI (sJ σ (51) (fillJ (fun _ => 1) (jA σ 51) (v))) (52) (fillG (fun _ => nI 0) (iA σ 52) (v)))) rfl (by omega) (by decide) ((jA_I).trans (jA_s)) ?_
    rw [sJ_sI (a := 52) (b := 51), sJ_sJ (a := 51)]
    refine g_aload_n (pc9 := 18) C rfl 1 dX5_ordersOf_17 rfl rfl ?_
    refine g_get (v := .ref (w.1 (52))) (pc9 := 21) C rfl (49) 2 dX5_ordersOf_18 (by decide) (ce_49 w (sI (sJ σ (51) (vp_updL (fillJ (fun _ => 1) (jA σ 51) (v)) (v) ((1)))) (52) (fillG (fun _ => nI 0) (iA σ 52) (v)))) hin_5 hl_19 rfl (by decide) rfl rfl ?_
    refine g_iload_n (pc9 := 22) C rfl 0 dX5_ordersOf_21 rfl rfl ?_
    refine g_iconst (pc9 := 23) C rfl (nI (0)) dX5_ordersOf_22 rfl ?_
    refine g_iast (pc9 := 24) C rfl (52) (v) (fillG (fun _ => nI 0) (iA σ 52) (v)) dX5_ordersOf_23 (by decide) (fun _ => rfl) (ce_52 w (sI (sJ σ (51) (vp_updL (fillJ (fun _ => 1) (jA σ 51) (v)) (v) ((1)))) (52) (fillG (fun _ => nI 0) (iA σ 52) (v)))) rfl (by omega) (by decide) (iA_s) ?_
    rw [sI_sI (a := 52)]
    refine g_st (σ9 := sI (sJ σ (51) (fillJ (fun _ => 1) (jA σ 51) (v + 1))) (52) (fillG (fun _ => nI 0) (iA σ 52) (v + 1))) (by rw [← fillJ_s, ← fillG_s]) ?_
    refine g_iinc (pc9 := 27) C rfl [(2, .int (nI (v + 1))), (0, .ref (w.1 (49))), (1, .ref (w.1 (64 + 5 * j)))] 0 (nI (v + 1)) dX5_ordersOf_24 rfl (nI_1 (v)) (by decide) rfl ?_
    refine g_goto C 2 dX5_ordersOf_27 rfl ?_
    exact ih (v + 1) (by omega) (by omega)

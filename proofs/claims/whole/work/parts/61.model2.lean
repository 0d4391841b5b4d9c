/-! The reference: rows of nodes, sets -/
/-- k rows of shelf i are h, the rest g -/
def put47 (h g : Nat → Int32) (i k : Nat) : Nat → Int32 := fun q => if 47 * i ≤ q ∧ q < 47 * i + k then h (q - 47 * i) else g q
theorem put47_0 (h g : Nat → Int32) (i : Nat) : put47 h g i 0 = g := by funext q; exact if_neg (by omega)
theorem put47_s (h g : Nat → Int32) (i k : Nat) : upd (put47 h g i k) (47 * i + k) (h k) = put47 h g i (k + 1) := by
  funext q
  unfold upd put47
  by_cases e : q = 47 * i + k
  · rw [if_pos e, if_pos (by omega), e, show 47 * i + k - 47 * i = k by omega]
  · rw [if_neg e]
    by_cases e2 : 47 * i ≤ q ∧ q < 47 * i + k
    · rw [if_pos e2, if_pos (by omega)]
    · rw [if_neg e2, if_neg (by omega)]
theorem put47_hi {h g : Nat → Int32} {i k q : Nat} (hi : i < 8) (hk : k ≤ 47) (hq : 376 ≤ q) : put47 h g i k q = g q := if_neg (by omega)
theorem put47_in {h g : Nat → Int32} {i k v : Nat} (hv : v < k) : put47 h g i k (47 * i + v) = h v := by
  unfold put47
  rw [if_pos (by omega), show 47 * i + v - 47 * i = v by omega]
theorem put47_out {h g : Nat → Int32} {i j k v : Nat} (hij : j ≠ i) (hk : k ≤ 47) (hv : v < 47) : put47 h g i k (47 * j + v) = g (47 * j + v) := by
  unfold put47
  refine if_neg (fun q => ?_)
  rcases Nat.lt_or_ge j i with h1 | h1
  · have : 47 * (j + 1) ≤ 47 * i := Nat.mul_le_mul_left 47 h1
    omega
  · have : 47 * (i + 1) ≤ 47 * j := Nat.mul_le_mul_left 47 (by omega)
    omega
set_option maxRecDepth 100000 in
set_option maxHeartbeats 4000000 in
theorem m_X11_copies (l : Launch) (w : Wd) (σ : St) (i : Nat) (hi : i < 8) (n : Nat) (hn : iA σ 2 8 = nI n) (h47 : n ≤ 47) : MV l yX11_copies wsX11_copies (rmL 1) w [.ref (w.1 (0)), .int (nI (8)), .int (nI (i))] (σ) (fun σ9 => σ9 = sI (sI (sI σ (3) (put47 (fun u => iA σ 3 (47 * 8 + u)) (iA σ 3) i n)) (4) (put47 (fun u => iA σ 4 (47 * 8 + u)) (iA σ 4) i n)) 2 (upd (iA σ 2) i (nI n))) := by
  refine MV_of (cc := cX11_copies) (maxL := 4) (by decide) rfl (Nat.le_of_ble_eq_true rfl) ?_
  intro p e s m args below meth c A C hr hlk
  have C : Cx p s m args c w A cX11_copies RX11 4 wsX11_copies := C
  have hin_11 : ∀ u ∈ wsX110, u ∈ wsX11_copies := by decide +kernel
  have hl_17 : Cond.fieldLink RX11 17 "LineageBenchModel" "many" "[I" ∈ wsX11_copies := by decide +kernel
  have hl_21 : Cond.fieldLink RX11 21 "LineageBenchModel" "parent" "[I" ∈ wsX11_copies := by decide +kernel
  have hl_24 : Cond.fieldLink RX11 24 "LineageBenchModel" "kind" "[I" ∈ wsX11_copies := by decide +kernel
  refine g_st (σ9 := sI (sI σ (3) (put47 (fun u => iA σ 3 (47 * 8 + u)) (iA σ 3) i 0)) (4) (put47 (fun u => iA σ 4 (47 * 8 + u)) (iA σ 4) i 0)) (by rw [put47_0, put47_0, sI_self, show sI σ 4 (iA σ 4) = σ from sI_self]) ?_
  refine g_iconst (pc9 := 1) C rfl (nI (0)) dX11_copies_0 rfl ?_
  refine g_istore_n (pc9 := 2) C rfl [(3, .int (nI (0))), (0, .ref (w.1 (0))), (1, .int (nI (8))), (2, .int (nI (i)))] dX11_copies_1 rfl (by decide) rfl ?_
  refine g_sub [0, 1, 2, 3] [(3, .int (nI (0))), (0, .ref (w.1 (0))), (1, .int (nI (8))), (2, .int (nI (i)))] rfl ?_
  refine g_lp1 (α := Nat) (fun v => v ≤ n) (fun v => n - v) (fun v => G p l e _ s m args below meth c _ w A _ (sI (sI σ (3) (put47 (fun u => iA σ 3 (47 * 8 + u)) (iA σ 3) i v)) (4) (put47 (fun u => iA σ 4 (47 * 8 + u)) (iA σ 4) i v)) 0 0 2 [(3, .int (nI (v))), (0, .ref (w.1 (0))), (1, .int (nI (8))), (2, .int (nI (i)))] []) (fun v hI ih => ?_) (0) (Nat.zero_le _)
  obtain hv := hI
  refine g_iload_n (pc9 := 3) C rfl 0 dX11_copies_2 rfl rfl ?_
  refine g_aload_n (pc9 := 4) C rfl 1 dX11_copies_3 rfl rfl ?_
  refine g_get (v := .ref (w.1 (2))) (pc9 := 7) C rfl (0) 5 dX11_copies_4 (by decide) (ce_0 w (sI (sI σ (3) (put47 (fun u => iA σ 3 (47 * 8 + u)) (iA σ 3) i v)) (4) (put47 (fun u => iA σ 4 (47 * 8 + u)) (iA σ 4) i v))) hin_11 hl_17 rfl (by decide) rfl rfl ?_
  refine g_iload_n (pc9 := 8) C rfl 2 dX11_copies_7 rfl rfl ?_
  refine g_iald (x := nI (n)) (pc9 := 9) C rfl (2) (8) dX11_copies_8 (by decide) (ce_2 w (sI (sI σ (3) (put47 (fun u => iA σ 3 (47 * 8 + u)) (iA σ 3) i v)) (4) (put47 (fun u => iA σ 4 (47 * 8 + u)) (iA σ 4) i v))) rfl (by omega) (by decide) ((congrFun ((iA_n (by decide)).trans (iA_n (by decide))) _).trans hn) ?_
  refine g_icmp_ge (pc9 := 12) C rfl 62 dX11_copies_9 rfl (fun c_1 => ?_) (fun c_1 => ?_)
  · replace c_1 := (nI_leI (by omega) (by omega)).mp c_1
    refine g_aload_n (pc9 := 63) C rfl 1 dX11_copies_62 rfl rfl ?_
    refine g_get (v := .ref (w.1 (2))) (pc9 := 66) C rfl (0) 5 dX11_copies_63 (by decide) (ce_0 w (sI (sI σ (3) (put47 (fun u => iA σ 3 (47 * 8 + u)) (iA σ 3) i v)) (4) (put47 (fun u => iA σ 4 (47 * 8 + u)) (iA σ 4) i v))) hin_11 hl_17 rfl (by decide) rfl rfl ?_
    refine g_iload_n (pc9 := 67) C rfl 3 dX11_copies_66 rfl rfl ?_
    refine g_aload_n (pc9 := 68) C rfl 1 dX11_copies_67 rfl rfl ?_
    refine g_get (v := .ref (w.1 (2))) (pc9 := 71) C rfl (0) 5 dX11_copies_68 (by decide) (ce_0 w (sI (sI σ (3) (put47 (fun u => iA σ 3 (47 * 8 + u)) (iA σ 3) i v)) (4) (put47 (fun u => iA σ 4 (47 * 8 + u)) (iA σ 4) i v))) hin_11 hl_17 rfl (by decide) rfl rfl ?_
    refine g_iload_n (pc9 := 72) C rfl 2 dX11_copies_71 rfl rfl ?_
    refine g_iald (x := nI (n)) (pc9 := 73) C rfl (2) (8) dX11_copies_72 (by decide) (ce_2 w (sI (sI σ (3) (put47 (fun u => iA σ 3 (47 * 8 + u)) (iA σ 3) i v)) (4) (put47 (fun u => iA σ 4 (47 * 8 + u)) (iA σ 4) i v))) rfl (by omega) (by decide) ((congrFun ((iA_n (by decide)).trans (iA_n (by decide))) _).trans hn) ?_
    refine g_iast (pc9 := 74) C rfl (2) (i) (iA σ (2)) dX11_copies_73 (by decide) (fun _ => rfl) (ce_2 w (sI (sI σ (3) (put47 (fun u => iA σ 3 (47 * 8 + u)) (iA σ 3) i v)) (4) (put47 (fun u => iA σ 4 (47 * 8 + u)) (iA σ 4) i v))) rfl (by omega) (by decide) ((iA_n (by decide)).trans (iA_n (by decide))) ?_
    exact g_return C hr hlk dX11_copies_74 (by rw [show v = n by omega])
  · replace c_1 := (not_congr (nI_leI (by omega) (by omega))).mp c_1
    refine g_aload_n (pc9 := 13) C rfl 1 dX11_copies_12 rfl rfl ?_
    refine g_get (v := .ref (w.1 (3))) (pc9 := 16) C rfl (0) 6 dX11_copies_13 (by decide) (ce_0 w (sI (sI σ (3) (put47 (fun u => iA σ 3 (47 * 8 + u)) (iA σ 3) i v)) (4) (put47 (fun u => iA σ 4 (47 * 8 + u)) (iA σ 4) i v))) hin_11 hl_21 rfl (by decide) rfl rfl ?_
    refine g_bipush (pc9 := 18) C rfl (nI (47)) dX11_copies_16 rfl ?_
    refine g_iload_n (pc9 := 19) C rfl 3 dX11_copies_18 rfl rfl ?_
    refine g_imulN (pc9 := 20) C rfl dX11_copies_19 ?_
    refine g_iload_n (pc9 := 21) C rfl 0 dX11_copies_20 rfl rfl ?_
    refine g_iaddN (pc9 := 22) C rfl dX11_copies_21 ?_
    refine g_aload_n (pc9 := 23) C rfl 1 dX11_copies_22 rfl rfl ?_
    refine g_get (v := .ref (w.1 (3))) (pc9 := 26) C rfl (0) 6 dX11_copies_23 (by decide) (ce_0 w (sI (sI σ (3) (put47 (fun u => iA σ 3 (47 * 8 + u)) (iA σ 3) i v)) (4) (put47 (fun u => iA σ 4 (47 * 8 + u)) (iA σ 4) i v))) hin_11 hl_21 rfl (by decide) rfl rfl ?_
    refine g_bipush (pc9 := 28) C rfl (nI (47)) dX11_copies_26 rfl ?_
    refine g_iload_n (pc9 := 29) C rfl 2 dX11_copies_28 rfl rfl ?_
    refine g_imulN (pc9 := 30) C rfl dX11_copies_29 ?_
    refine g_iload_n (pc9 := 31) C rfl 0 dX11_copies_30 rfl rfl ?_
    refine g_iaddN (pc9 := 32) C rfl dX11_copies_31 ?_
    refine g_iald (x := iA σ 3 (47 * 8 + v)) (pc9 := 33) C rfl (3) ((47 * 8) + v) dX11_copies_32 (by decide) (ce_3 w (sI (sI σ (3) (put47 (fun u => iA σ 3 (47 * 8 + u)) (iA σ 3) i v)) (4) (put47 (fun u => iA σ 4 (47 * 8 + u)) (iA σ 4) i v))) rfl (by omega) (by decide) ((congrFun ((iA_n (by decide)).trans (iA_s)) _).trans (put47_hi hi (by omega) (by omega))) ?_
    refine g_iast (pc9 := 34) C rfl (3) ((47 * i) + v) (put47 (fun u => iA σ 3 (47 * 8 + u)) (iA σ 3) i v) dX11_copies_33 (by decide) (fun _ => rfl) (ce_3 w (sI (sI σ (3) (put47 (fun u => iA σ 3 (47 * 8 + u)) (iA σ 3) i v)) (4) (put47 (fun u => iA σ 4 (47 * 8 + u)) (iA σ 4) i v))) rfl (by omega) (by decide) ((iA_n (by decide)).trans (iA_s)) ?_
    rw [sI_cm (a := 4) (b := 3) (by decide), sI_sI (a := 3)]
    refine g_aload_n (pc9 := 35) C rfl 1 dX11_copies_34 rfl rfl ?_
    refine g_get (v := .ref (w.1 (4))) (pc9 := 38) C rfl (0) 7 dX11_copies_35 (by decide) (ce_0 w (sI (sI σ (3) (upd (put47 (fun u => iA σ 3 (47 * 8 + u)) (iA σ 3) i v) ((47 * i) + v) (iA σ 3 (47 * 8 + v)))) (4) (put47 (fun u => iA σ 4 (47 * 8 + u)) (iA σ 4) i v))) hin_11 hl_24 rfl (by decide) rfl rfl ?_
    refine g_bipush (pc9 := 40) C rfl (nI (47)) dX11_copies_38 rfl ?_
    refine g_iload_n (pc9 := 41) C rfl 3 dX11_copies_40 rfl rfl ?_
    refine g_imulN (pc9 := 42) C rfl dX11_copies_41 ?_
    refine g_iload_n (pc9 := 43) C rfl 0 dX11_copies_42 rfl rfl ?_
    refine g_iaddN (pc9 := 44) C rfl dX11_copies_43 ?_
    refine g_aload_n (pc9 := 45) C rfl 1 dX11_copies_44 rfl rfl ?_
    refine g_get (v := .ref (w.1 (4))) (pc9 := 48) C rfl (0) 7 dX11_copies_45 (by decide) (ce_0 w (sI (sI σ (3) (upd (put47 (fun u => iA σ 3 (47 * 8 + u)) (iA σ 3) i v) ((47 * i) + v) (iA σ 3 (47 * 8 + v)))) (4) (put47 (fun u => iA σ 4 (47 * 8 + u)) (iA σ 4) i v))) hin_11 hl_24 rfl (by decide) rfl rfl ?_
    refine g_bipush (pc9 := 50) C rfl (nI (47)) dX11_copies_48 rfl ?_
    refine g_iload_n (pc9 := 51) C rfl 2 dX11_copies_50 rfl rfl ?_
    refine g_imulN (pc9 := 52) C rfl dX11_copies_51 ?_
    refine g_iload_n (pc9 := 53) C rfl 0 dX11_copies_52 rfl rfl ?_
    refine g_iaddN (pc9 := 54) C rfl dX11_copies_53 ?_
    refine g_iald (x := iA σ 4 (47 * 8 + v)) (pc9 := 55) C rfl (4) ((47 * 8) + v) dX11_copies_54 (by decide) (ce_4 w (sI (sI σ (3) (upd (put47 (fun u => iA σ 3 (47 * 8 + u)) (iA σ 3) i v) ((47 * i) + v) (iA σ 3 (47 * 8 + v)))) (4) (put47 (fun u => iA σ 4 (47 * 8 + u)) (iA σ 4) i v))) rfl (by omega) (by decide) ((congrFun (iA_s) _).trans (put47_hi hi (by omega) (by omega))) ?_
    refine g_iast (pc9 := 56) C rfl (4) ((47 * i) + v) (put47 (fun u => iA σ 4 (47 * 8 + u)) (iA σ 4) i v) dX11_copies_55 (by decide) (fun _ => rfl) (ce_4 w (sI (sI σ (3) (upd (put47 (fun u => iA σ 3 (47 * 8 + u)) (iA σ 3) i v) ((47 * i) + v) (iA σ 3 (47 * 8 + v)))) (4) (put47 (fun u => iA σ 4 (47 * 8 + u)) (iA σ 4) i v))) rfl (by omega) (by decide) (iA_s) ?_
    rw [sI_sI (a := 4)]
    refine g_iinc (pc9 := 59) C rfl [(3, .int (nI (v + 1))), (0, .ref (w.1 (0))), (1, .int (nI (8))), (2, .int (nI (i)))] 0 (nI (v + 1)) dX11_copies_56 rfl (nI_1 (v)) (by decide) rfl ?_
    refine g_goto C 2 dX11_copies_59 rfl ?_
    refine g_sub [0, 1, 2, 3] [(3, .int (nI (v + 1))), (0, .ref (w.1 (0))), (1, .int (nI (8))), (2, .int (nI (i)))] rfl ?_
    refine g_st (σ9 := sI (sI σ (3) (put47 (fun u => iA σ 3 (47 * 8 + u)) (iA σ 3) i (v + 1))) (4) (put47 (fun u => iA σ 4 (47 * 8 + u)) (iA σ 4) i (v + 1))) (by rw [← put47_s, ← put47_s]) ?_
    exact ih (v + 1) (by omega) (by omega)
def drS (σ : St) (k : Nat) (a b : Int32) : St := sI (sI (sI σ 3 (upd (iA σ 3) (376 + k) a)) 4 (upd (iA σ 4) (376 + k) b)) 2 (upd (iA σ 2) 8 (nI (k + 1)))
set_option maxRecDepth 100000 in
set_option maxHeartbeats 4000000 in
theorem m_X11_draft (l : Launch) (w : Wd) (σ : St) (k : Nat) (hk : iA σ 2 8 = nI k) (h80 : k < 80) (a b : Int32) : MI l yX11_draft wsX11_draft (rmL 1) w [.ref (w.1 (0)), .int (a), .int (b)] (σ) (fun r σ9 => σ9 = drS σ k a b ∧ r = nI k) := by
  refine MI_of (cc := cX11_draft) (maxL := 4) (ret := .int) (by decide) rfl (Nat.le_of_ble_eq_true rfl) ?_
  intro p e s m args below meth c A C hr hlk
  have C : Cx p s m args c w A cX11_draft RX11 4 wsX11_draft := C
  have hin_11 : ∀ u ∈ wsX110, u ∈ wsX11_draft := by decide +kernel
  have hl_17 : Cond.fieldLink RX11 17 "LineageBenchModel" "many" "[I" ∈ wsX11_draft := by decide +kernel
  have hl_21 : Cond.fieldLink RX11 21 "LineageBenchModel" "parent" "[I" ∈ wsX11_draft := by decide +kernel
  have hl_24 : Cond.fieldLink RX11 24 "LineageBenchModel" "kind" "[I" ∈ wsX11_draft := by decide +kernel
  refine g_aload_n (pc9 := 1) C rfl 0 dX11_draft_0 rfl rfl ?_
  refine g_get (v := .ref (w.1 (2))) (pc9 := 4) C rfl (0) 5 dX11_draft_1 (by decide) (ce_0 w (σ)) hin_11 hl_17 rfl (by decide) rfl rfl ?_
  refine g_bipush (pc9 := 6) C rfl (nI (8)) dX11_draft_4 rfl ?_
  refine g_iald (x := nI (k)) (pc9 := 7) C rfl (2) (8) dX11_draft_6 (by decide) (ce_2 w (σ)) rfl (by omega) (by decide) hk ?_
  refine g_istore_n (pc9 := 8) C rfl [(3, .int (nI (k))), (0, .ref (w.1 (0))), (1, .int (a)), (2, .int (b))] dX11_draft_7 rfl (by decide) rfl ?_
  refine g_aload_n (pc9 := 9) C rfl 1 dX11_draft_8 rfl rfl ?_
  refine g_get (v := .ref (w.1 (3))) (pc9 := 12) C rfl (0) 6 dX11_draft_9 (by decide) (ce_0 w (σ)) hin_11 hl_21 rfl (by decide) rfl rfl ?_
  refine g_sipush (pc9 := 15) C rfl (nI (376)) dX11_draft_12 rfl ?_
  refine g_iload_n (pc9 := 16) C rfl 0 dX11_draft_15 rfl rfl ?_
  refine g_iaddN (pc9 := 17) C rfl dX11_draft_16 ?_
  refine g_iload_n (pc9 := 18) C rfl 2 dX11_draft_17 rfl rfl ?_
  refine g_iast (pc9 := 19) C rfl (3) (376 + k) (iA σ (3)) dX11_draft_18 (by decide) (fun _ => rfl) (ce_3 w (σ)) rfl (by omega) (by decide) rfl ?_
  refine g_aload_n (pc9 := 20) C rfl 1 dX11_draft_19 rfl rfl ?_
  refine g_get (v := .ref (w.1 (4))) (pc9 := 23) C rfl (0) 7 dX11_draft_20 (by decide) (ce_0 w (sI σ (3) (upd (iA σ (3)) (376 + k) (a)))) hin_11 hl_24 rfl (by decide) rfl rfl ?_
  refine g_sipush (pc9 := 26) C rfl (nI (376)) dX11_draft_23 rfl ?_
  refine g_iload_n (pc9 := 27) C rfl 0 dX11_draft_26 rfl rfl ?_
  refine g_iaddN (pc9 := 28) C rfl dX11_draft_27 ?_
  refine g_iload_n (pc9 := 29) C rfl 3 dX11_draft_28 rfl rfl ?_
  refine g_iast (pc9 := 30) C rfl (4) (376 + k) (iA σ (4)) dX11_draft_29 (by decide) (fun _ => rfl) (ce_4 w (sI σ (3) (upd (iA σ (3)) (376 + k) (a)))) rfl (by omega) (by decide) (iA_n (by decide)) ?_
  refine g_aload_n (pc9 := 31) C rfl 1 dX11_draft_30 rfl rfl ?_
  refine g_get (v := .ref (w.1 (2))) (pc9 := 34) C rfl (0) 5 dX11_draft_31 (by decide) (ce_0 w (sI (sI σ (3) (upd (iA σ (3)) (376 + k) (a))) (4) (upd (iA σ (4)) (376 + k) (b)))) hin_11 hl_17 rfl (by decide) rfl rfl ?_
  refine g_bipush (pc9 := 36) C rfl (nI (8)) dX11_draft_34 rfl ?_
  refine g_dup2 (pc9 := 37) C rfl dX11_draft_36 rfl rfl ?_
  refine g_iald (x := nI (k)) (pc9 := 38) C rfl (2) (8) dX11_draft_37 (by decide) (ce_2 w (sI (sI σ (3) (upd (iA σ (3)) (376 + k) (a))) (4) (upd (iA σ (4)) (376 + k) (b)))) rfl (by omega) (by decide) ((congrFun ((iA_n (by decide)).trans (iA_n (by decide))) _).trans hk) ?_
  refine g_iconst (pc9 := 39) C rfl (nI (1)) dX11_draft_38 rfl ?_
  refine g_iaddN (pc9 := 40) C rfl dX11_draft_39 ?_
  refine g_iast (pc9 := 41) C rfl (2) (8) (iA σ (2)) dX11_draft_40 (by decide) (fun _ => rfl) (ce_2 w (sI (sI σ (3) (upd (iA σ (3)) (376 + k) (a))) (4) (upd (iA σ (4)) (376 + k) (b)))) rfl (by omega) (by decide) ((iA_n (by decide)).trans (iA_n (by decide))) ?_
  refine g_iload_n (pc9 := 42) C rfl 0 dX11_draft_41 rfl rfl ?_
  exact g_ireturn C hr hlk dX11_draft_42 ⟨rfl, rfl⟩
abbrev mHc (σ : St) (i : Nat) (x : Int32) : Prop := ∃ v, v < mN σ i ∧ mC σ i v = x
set_option maxRecDepth 100000 in
set_option maxHeartbeats 4000000 in
theorem m_X11_hasCluster (l : Launch) (w : Wd) (σ : St) (i : Nat) (hi : i < 8) (hm : mtOk σ i) (h0 : 0 < mN σ i) (x : Int32) : MI l yX11_hasCluster wsX11_hasCluster (rmL 2) w [.ref (w.1 (0)), .int (nI (i)), .int (x)] (σ) (fun r σ9 => σ9 = sI σ 12 (mC σ i) ∧ r = pI (mHc σ i x)) := by
  refine MI_of (cc := cX11_hasCluster) (maxL := 5) (ret := .boolean) (by decide) rfl (Nat.le_of_ble_eq_true rfl) ?_
  intro p e s m args below meth c A C hr hlk
  have C : Cx p s m args c w A cX11_hasCluster RX11 5 wsX11_hasCluster := C
  have hin_11 : ∀ u ∈ wsX110, u ∈ wsX11_hasCluster := by decide +kernel
  have hl_17 : Cond.fieldLink RX11 17 "LineageBenchModel" "many" "[I" ∈ wsX11_hasCluster := by decide +kernel
  have hl_51 : Cond.fieldLink RX11 51 "LineageBenchModel" "clusters" "[I" ∈ wsX11_hasCluster := by decide +kernel
  have h47 := hm.2.1
  refine g_aload_n (pc9 := 1) C rfl 0 dX11_hasCluster_0 rfl rfl ?_
  refine g_iload_n (pc9 := 2) C rfl 1 dX11_hasCluster_1 rfl rfl ?_
  refine g_callVv (nn := 1) (rest := []) (pc9 := 5) C rfl (0) [.int (nI (i))] rfl dX11_hasCluster_2 (m_X11_clusters l w σ i hi hm h0) gX11_hasCluster_X11_clusters (by decide) (ce_0 w (σ)) rfl rfl rfl rfl rfl (by decide +kernel) ⟨by decide, by decide⟩ rfl (Nat.le_of_ble_eq_true rfl) ⟨by decide, by decide⟩ (fun σ_1 q_1 => ?_)
  replace q_1 : σ_1 = sI σ (12) (mC σ i) := q_1
  rw [q_1]
  clear q_1
  refine g_iconst (pc9 := 6) C rfl (nI (0)) dX11_hasCluster_5 rfl ?_
  refine g_istore_n (pc9 := 7) C rfl [(3, .int (nI (0))), (0, .ref (w.1 (0))), (1, .int (nI (i))), (2, .int (x))] dX11_hasCluster_6 rfl (by decide) rfl ?_
  refine g_iconst (pc9 := 8) C rfl (nI (0)) dX11_hasCluster_7 rfl ?_
  refine g_istore (pc9 := 10) C rfl [(4, .int (nI (0))), (3, .int (nI (0))), (0, .ref (w.1 (0))), (1, .int (nI (i))), (2, .int (x))] dX11_hasCluster_8 (by decide) rfl ?_
  refine g_sub [0, 1, 2, 3, 4] [(4, .int (nI (0))), (3, .int (nI (0))), (0, .ref (w.1 (0))), (1, .int (nI (i))), (2, .int (x))] rfl ?_
  refine g_l2 (x9 := pI (∃ u, u < 0 ∧ mC σ i u = x)) (pI_f (fun h => by obtain ⟨u, h1, _⟩ := h; omega)).symm ?_
  refine g_lp1 (α := Nat) (fun v => v ≤ mN σ i) (fun v => mN σ i - v) (fun v => G p l e _ s m args below meth c _ w A _ (sI σ (12) (mC σ i)) 0 0 10 [(4, .int (nI (v))), (3, .int (pI (∃ u, u < v ∧ mC σ i u = x))), (0, .ref (w.1 (0))), (1, .int (nI (i))), (2, .int (x))] []) (fun v hI ih => ?_) (0) (Nat.zero_le _)
  obtain hv := hI
  refine g_iload (pc9 := 12) C rfl 0 dX11_hasCluster_10 rfl ?_
  refine g_aload_n (pc9 := 13) C rfl 2 dX11_hasCluster_12 rfl rfl ?_
  refine g_get (v := .ref (w.1 (2))) (pc9 := 16) C rfl (0) 5 dX11_hasCluster_13 (by decide) (ce_0 w (sI σ (12) (mC σ i))) hin_11 hl_17 rfl (by decide) rfl rfl ?_
  refine g_iload_n (pc9 := 17) C rfl 3 dX11_hasCluster_16 rfl rfl ?_
  refine g_iald (x := nI (mN σ (i))) (pc9 := 18) C rfl (2) (i) dX11_hasCluster_17 (by decide) (ce_2 w (sI σ (12) (mC σ i))) rfl (by omega) (by decide) ((congrFun (iA_n (by decide)) _).trans hm.1) ?_
  refine g_icmp_ge (pc9 := 21) C rfl 48 dX11_hasCluster_18 rfl (fun c_2 => ?_) (fun c_2 => ?_)
  · replace c_2 := (nI_leI (by omega) (by omega)).mp c_2
    refine g_iload_n (pc9 := 49) C rfl 1 dX11_hasCluster_48 rfl rfl ?_
    exact g_zreturn C hr hlk dX11_hasCluster_49 (pI_01 _) ⟨rfl, by rw [show v = mN σ i by omega]⟩
  · replace c_2 := (not_congr (nI_leI (by omega) (by omega))).mp c_2
    refine g_iload_n (pc9 := 22) C rfl 1 dX11_hasCluster_21 rfl rfl ?_
    refine g_if_ne (pc9 := 25) C rfl 36 dX11_hasCluster_22 rfl (fun c_3 => ?_) (fun c_3 => ?_)
    · have hs : pI (∃ u, u < v + 1 ∧ mC σ i u = x) = nI 1 := pI_t (by obtain ⟨u, h1, h2⟩ := pI_ye c_3; exact ⟨u, by omega, h2⟩)
      refine g_iconst (pc9 := 37) C rfl (nI (1)) dX11_hasCluster_36 rfl ?_
      refine g_goto C 41 dX11_hasCluster_37 rfl ?_
      refine g_istore_n (pc9 := 42) C rfl [(3, .int (nI (1))), (4, .int (nI (v))), (0, .ref (w.1 (0))), (1, .int (nI (i))), (2, .int (x))] dX11_hasCluster_41 rfl (by decide) rfl ?_
      refine g_iinc (pc9 := 45) C rfl [(4, .int (nI (v + 1))), (3, .int (nI (1))), (0, .ref (w.1 (0))), (1, .int (nI (i))), (2, .int (x))] 1 (nI (v + 1)) dX11_hasCluster_42 rfl (nI_1 (v)) (by decide) rfl ?_
      refine g_goto C 10 dX11_hasCluster_45 rfl ?_
      refine g_sub [0, 1, 2, 3, 4] [(4, .int (nI (v + 1))), (3, .int (nI (1))), (0, .ref (w.1 (0))), (1, .int (nI (i))), (2, .int (x))] rfl ?_
      refine g_l2 hs.symm ?_
      exact ih (v + 1) (by omega) (by omega)
    · have hno := pI_no c_3
      refine g_aload_n (pc9 := 26) C rfl 2 dX11_hasCluster_25 rfl rfl ?_
      refine g_get (v := .ref (w.1 (12))) (pc9 := 29) C rfl (0) 19 dX11_hasCluster_26 (by decide) (ce_0 w (sI σ (12) (mC σ i))) hin_11 hl_51 rfl (by decide) rfl rfl ?_
      refine g_iload (pc9 := 31) C rfl 0 dX11_hasCluster_29 rfl ?_
      refine g_iald (x := (mC σ i) (v)) (pc9 := 32) C rfl (12) (v) dX11_hasCluster_31 (by decide) (ce_12 w (sI σ (12) (mC σ i))) rfl (by omega) (by decide) (congrFun (iA_s) _) ?_
      refine g_iload_n (pc9 := 33) C rfl 4 dX11_hasCluster_32 rfl rfl ?_
      refine g_icmp_ne (pc9 := 36) C rfl 40 dX11_hasCluster_33 rfl (fun c_4 => ?_) (fun c_4 => ?_)
      · have hs : pI (∃ u, u < v + 1 ∧ mC σ i u = x) = nI 0 := pI_f (fun h => by obtain ⟨u, h1, h2⟩ := h; by_cases e : u = v; (rw [e] at h2; exact c_4 h2); exact hno ⟨u, by omega, h2⟩)
        refine g_iconst (pc9 := 41) C rfl (nI (0)) dX11_hasCluster_40 rfl ?_
        refine g_istore_n (pc9 := 42) C rfl [(3, .int (nI (0))), (4, .int (nI (v))), (0, .ref (w.1 (0))), (1, .int (nI (i))), (2, .int (x))] dX11_hasCluster_41 rfl (by decide) rfl ?_
        refine g_iinc (pc9 := 45) C rfl [(4, .int (nI (v + 1))), (3, .int (nI (0))), (0, .ref (w.1 (0))), (1, .int (nI (i))), (2, .int (x))] 1 (nI (v + 1)) dX11_hasCluster_42 rfl (nI_1 (v)) (by decide) rfl ?_
        refine g_goto C 10 dX11_hasCluster_45 rfl ?_
        refine g_sub [0, 1, 2, 3, 4] [(4, .int (nI (v + 1))), (3, .int (nI (0))), (0, .ref (w.1 (0))), (1, .int (nI (i))), (2, .int (x))] rfl ?_
        refine g_l2 hs.symm ?_
        exact ih (v + 1) (by omega) (by omega)
      · have hs : pI (∃ u, u < v + 1 ∧ mC σ i u = x) = nI 1 := pI_t ⟨v, by omega, c_4⟩
        refine g_iconst (pc9 := 37) C rfl (nI (1)) dX11_hasCluster_36 rfl ?_
        refine g_goto C 41 dX11_hasCluster_37 rfl ?_
        refine g_istore_n (pc9 := 42) C rfl [(3, .int (nI (1))), (4, .int (nI (v))), (0, .ref (w.1 (0))), (1, .int (nI (i))), (2, .int (x))] dX11_hasCluster_41 rfl (by decide) rfl ?_
        refine g_iinc (pc9 := 45) C rfl [(4, .int (nI (v + 1))), (3, .int (nI (1))), (0, .ref (w.1 (0))), (1, .int (nI (i))), (2, .int (x))] 1 (nI (v + 1)) dX11_hasCluster_42 rfl (nI_1 (v)) (by decide) rfl ?_
        refine g_goto C 10 dX11_hasCluster_45 rfl ?_
        refine g_sub [0, 1, 2, 3, 4] [(4, .int (nI (v + 1))), (3, .int (nI (1))), (0, .ref (w.1 (0))), (1, .int (nI (i))), (2, .int (x))] rfl ?_
        refine g_l2 hs.symm ?_
        exact ih (v + 1) (by omega) (by omega)
abbrev msSt (σ : St) (F : Fam) : St := sN (sI σ 13 F.2) 0 21 (nI F.1)
def maOld (F : Fam) (x : Int32) : Prop := x = 0 ∨ ∃ v, v < F.1 ∧ F.2 v = x
noncomputable def maA (F : Fam) (x : Int32) : Fam := cI (maOld F x) F (F.1 + 1, upd F.2 F.1 x)
noncomputable def maUp (q : Nat → Int32) (F : Fam) : Nat → Fam
  | 0 => F
  | k + 1 => maA (maUp q F k) (q k)
theorem maA_le {F : Fam} {x : Int32} : (maA F x).1 ≤ F.1 + 1 := by
  unfold maA
  by_cases h : maOld F x
  · rw [cI_t h]; omega
  · rw [cI_f h]; exact Nat.le_refl _
theorem maUp_le {q : Nat → Int32} {F : Fam} : ∀ k, (maUp q F k).1 ≤ F.1 + k
  | 0 => Nat.le_refl _
  | k + 1 => by
    have h1 := maUp_le (q := q) (F := F) k
    have h2 := maA_le (F := maUp q F k) (x := q k)
    show (maA (maUp q F k) (q k)).1 ≤ _
    omega
set_option maxRecDepth 100000 in
set_option maxHeartbeats 4000000 in
theorem m_X11_adds (l : Launch) (w : Wd) (σ : St) (F : Fam) (hF : F.1 < 400) (x : Int32) : MV l yX11_adds wsX11_adds (rmL 1) w [.ref (w.1 (0)), .int (x)] (sN (sI σ (13) ((F).2)) (0) 21 (nI ((F).1))) (fun σ9 => σ9 = msSt σ (maA F x)) := by
  refine MV_of (cc := cX11_adds) (maxL := 4) (by decide) rfl (Nat.le_of_ble_eq_true rfl) ?_
  intro p e s m args below meth c A C hr hlk
  have C : Cx p s m args c w A cX11_adds RX11 4 wsX11_adds := C
  have hin_11 : ∀ u ∈ wsX110, u ∈ wsX11_adds := by decide +kernel
  have hl_54 : Cond.fieldLink RX11 54 "LineageBenchModel" "sets" "[I" ∈ wsX11_adds := by decide +kernel
  have hl_129 : Cond.fieldLink RX11 129 "LineageBenchModel" "setMany" "I" ∈ wsX11_adds := by decide +kernel
  refine g_iload_n (pc9 := 1) C rfl 1 dX11_adds_0 rfl rfl ?_
  refine g_if_ne (pc9 := 4) C rfl 8 dX11_adds_1 rfl (fun c_1 => ?_) (fun c_1 => ?_)
  · have hx0 : ¬ x = 0 := c_1
    refine g_iconst (pc9 := 9) C rfl (nI (0)) dX11_adds_8 rfl ?_
    refine g_istore_n (pc9 := 10) C rfl [(2, .int (nI (0))), (0, .ref (w.1 (0))), (1, .int (x))] dX11_adds_9 rfl (by decide) rfl ?_
    refine g_iconst (pc9 := 11) C rfl (nI (0)) dX11_adds_10 rfl ?_
    refine g_istore_n (pc9 := 12) C rfl [(3, .int (nI (0))), (2, .int (nI (0))), (0, .ref (w.1 (0))), (1, .int (x))] dX11_adds_11 rfl (by decide) rfl ?_
    refine g_sub [0, 1, 2, 3] [(3, .int (nI (0))), (2, .int (nI (0))), (0, .ref (w.1 (0))), (1, .int (x))] rfl ?_
    refine g_l2 (x9 := pI (x = 0 ∨ ∃ u, u < 0 ∧ F.2 u = x)) (by exact (pI_f (fun h => by rcases h with h | ⟨u, h1, _⟩; exact hx0 h; omega)).symm) ?_
    refine g_lp1 (α := Nat) (fun v => v ≤ F.1) (fun v => F.1 - v) (fun v => G p l e _ s m args below meth c _ w A _ (sN (sI σ (13) ((F).2)) (0) 21 (nI ((F).1))) 0 0 12 [(3, .int (nI (v))), (2, .int (pI (x = 0 ∨ ∃ u, u < v ∧ F.2 u = x))), (0, .ref (w.1 (0))), (1, .int (x))] []) (fun v hI ih => ?_) (0) (Nat.zero_le _)
    obtain hv := hI
    refine g_iload_n (pc9 := 13) C rfl 0 dX11_adds_12 rfl rfl ?_
    refine g_aload_n (pc9 := 14) C rfl 2 dX11_adds_13 rfl rfl ?_
    refine g_get (v := .int (nI ((F).1))) (pc9 := 17) C rfl (0) 21 dX11_adds_14 (by decide) (ce_0 w (sN (sI σ (13) ((F).2)) (0) 21 (nI ((F).1)))) hin_11 hl_129 rfl (by decide) rfl (congrArg (fun z => some (Value.int z)) (nF_s)) ?_
    refine g_icmp_ge (pc9 := 20) C rfl 46 dX11_adds_17 rfl (fun c_2 => ?_) (fun c_2 => ?_)
    · replace c_2 := (nI_leI (by omega) (by omega)).mp c_2
      have hvz : v = F.1 := by omega
      refine g_iload_n (pc9 := 47) C rfl 1 dX11_adds_46 rfl rfl ?_
      refine g_if_eq (pc9 := 50) C rfl 51 dX11_adds_47 rfl (fun c_3 => ?_) (fun c_3 => ?_)
      · have hnv := pI_no c_3
        have hvz9 : v = F.1 := by first | omega | exact absurd hye hnv
        have hyo : ¬ maOld F x := fun h => hnv (by rcases h with h | ⟨u, h1, h2⟩; exact Or.inl h; exact Or.inr ⟨u, by omega, h2⟩)
        refine g_aload_n (pc9 := 52) C rfl 2 dX11_adds_51 rfl rfl ?_
        refine g_get (v := .ref (w.1 (13))) (pc9 := 55) C rfl (0) 20 dX11_adds_52 (by decide) (ce_0 w (sN (sI σ (13) ((F).2)) (0) 21 (nI ((F).1)))) hin_11 hl_54 rfl (by decide) rfl rfl ?_
        refine g_aload_n (pc9 := 56) C rfl 2 dX11_adds_55 rfl rfl ?_
        refine g_get (v := .int (nI ((F).1))) (pc9 := 59) C rfl (0) 21 dX11_adds_56 (by decide) (ce_0 w (sN (sI σ (13) ((F).2)) (0) 21 (nI ((F).1)))) hin_11 hl_129 rfl (by decide) rfl (congrArg (fun z => some (Value.int z)) (nF_s)) ?_
        refine g_iload_n (pc9 := 60) C rfl 3 dX11_adds_59 rfl rfl ?_
        refine g_iast (pc9 := 61) C rfl (13) ((F).1) ((F).2) dX11_adds_60 (by decide) (fun _ => rfl) (ce_13 w (sN (sI σ (13) ((F).2)) (0) 21 (nI ((F).1)))) rfl (by omega) (by decide) ((iA_N).trans (iA_s)) ?_
        rw [sI_sN (a := 0) (k := 21) (b := 13), sI_sI (a := 13)]
        refine g_aload_n (pc9 := 62) C rfl 2 dX11_adds_61 rfl rfl ?_
        refine g_dup (pc9 := 63) C rfl dX11_adds_62 rfl ?_
        refine g_get (v := .int (nI ((F).1))) (pc9 := 66) C rfl (0) 21 dX11_adds_63 (by decide) (ce_0 w (sN (sI σ (13) (upd ((F).2) ((F).1) (x))) (0) 21 (nI ((F).1)))) hin_11 hl_129 rfl (by decide) rfl (congrArg (fun z => some (Value.int z)) (nF_s)) ?_
        refine g_iconst (pc9 := 67) C rfl (nI (1)) dX11_adds_66 rfl ?_
        refine g_iaddN (pc9 := 68) C rfl dX11_adds_67 ?_
        refine g_put (pc9 := 71) C rfl (0) 21 dX11_adds_68 (by decide) (ce_0 w (sN (sI σ (13) (upd ((F).2) ((F).1) (x))) (0) 21 (nI ((F).1)))) (rfl) hin_11 hl_129 tyX11 tyX11_ok nmX11 rfl (by decide) rfl rfl rfl (Nat.le_of_ble_eq_true rfl) ?_
        rw [sN_sN]
        exact g_return C hr hlk dX11_adds_71 (by show _ = msSt σ (maA F x); rw [maA, cI_f hyo])
      · have hyo : maOld F x := by rcases pI_ye c_3 with h | ⟨u, h1, h2⟩; exact Or.inl h; exact Or.inr ⟨u, by omega, h2⟩
        exact g_return C hr hlk dX11_adds_50 (by show _ = msSt σ (maA F x); rw [maA, cI_t hyo])
    · replace c_2 := (not_congr (nI_leI (by omega) (by omega))).mp c_2
      refine g_iload_n (pc9 := 21) C rfl 1 dX11_adds_20 rfl rfl ?_
      refine g_if_ne (pc9 := 24) C rfl 46 dX11_adds_21 rfl (fun c_4 => ?_) (fun c_4 => ?_)
      · have hye := pI_ye c_4
        refine g_iload_n (pc9 := 47) C rfl 1 dX11_adds_46 rfl rfl ?_
        refine g_if_eq (pc9 := 50) C rfl 51 dX11_adds_47 rfl (fun c_5 => ?_) (fun c_5 => ?_)
        · exact absurd c_5 c_4
        · have hyo : maOld F x := by rcases pI_ye c_5 with h | ⟨u, h1, h2⟩; exact Or.inl h; exact Or.inr ⟨u, by omega, h2⟩
          exact g_return C hr hlk dX11_adds_50 (by show _ = msSt σ (maA F x); rw [maA, cI_t hyo])
      · have hno := pI_no c_4
        refine g_aload_n (pc9 := 25) C rfl 2 dX11_adds_24 rfl rfl ?_
        refine g_get (v := .ref (w.1 (13))) (pc9 := 28) C rfl (0) 20 dX11_adds_25 (by decide) (ce_0 w (sN (sI σ (13) ((F).2)) (0) 21 (nI ((F).1)))) hin_11 hl_54 rfl (by decide) rfl rfl ?_
        refine g_iload_n (pc9 := 29) C rfl 0 dX11_adds_28 rfl rfl ?_
        refine g_iald (x := ((F).2) (v)) (pc9 := 30) C rfl (13) (v) dX11_adds_29 (by decide) (ce_13 w (sN (sI σ (13) ((F).2)) (0) 21 (nI ((F).1)))) rfl (by omega) (by decide) (congrFun ((iA_N).trans (iA_s)) _) ?_
        refine g_iload_n (pc9 := 31) C rfl 3 dX11_adds_30 rfl rfl ?_
        refine g_icmp_ne (pc9 := 34) C rfl 38 dX11_adds_31 rfl (fun c_6 => ?_) (fun c_6 => ?_)
        · have hs : pI (x = 0 ∨ ∃ u, u < v + 1 ∧ F.2 u = x) = nI 0 := pI_f (fun h => by rcases h with h | ⟨u, h1, h2⟩; exact hno (Or.inl h); by_cases e : u = v; (rw [e] at h2; exact c_6 h2); exact hno (Or.inr ⟨u, by omega, h2⟩))
          refine g_iconst (pc9 := 39) C rfl (nI (0)) dX11_adds_38 rfl ?_
          refine g_istore_n (pc9 := 40) C rfl [(2, .int (nI (0))), (3, .int (nI (v))), (0, .ref (w.1 (0))), (1, .int (x))] dX11_adds_39 rfl (by decide) rfl ?_
          refine g_iinc (pc9 := 43) C rfl [(3, .int (nI (v + 1))), (2, .int (nI (0))), (0, .ref (w.1 (0))), (1, .int (x))] 1 (nI (v + 1)) dX11_adds_40 rfl (nI_1 (v)) (by decide) rfl ?_
          refine g_goto C 12 dX11_adds_43 rfl ?_
          refine g_sub [0, 1, 2, 3] [(3, .int (nI (v + 1))), (2, .int (nI (0))), (0, .ref (w.1 (0))), (1, .int (x))] rfl ?_
          refine g_l2 hs.symm ?_
          exact ih (v + 1) (by omega) (by omega)
        · have hs : pI (x = 0 ∨ ∃ u, u < v + 1 ∧ F.2 u = x) = nI 1 := pI_t (Or.inr ⟨v, by omega, c_6⟩)
          refine g_iconst (pc9 := 35) C rfl (nI (1)) dX11_adds_34 rfl ?_
          refine g_goto C 39 dX11_adds_35 rfl ?_
          refine g_istore_n (pc9 := 40) C rfl [(2, .int (nI (1))), (3, .int (nI (v))), (0, .ref (w.1 (0))), (1, .int (x))] dX11_adds_39 rfl (by decide) rfl ?_
          refine g_iinc (pc9 := 43) C rfl [(3, .int (nI (v + 1))), (2, .int (nI (1))), (0, .ref (w.1 (0))), (1, .int (x))] 1 (nI (v + 1)) dX11_adds_40 rfl (nI_1 (v)) (by decide) rfl ?_
          refine g_goto C 12 dX11_adds_43 rfl ?_
          refine g_sub [0, 1, 2, 3] [(3, .int (nI (v + 1))), (2, .int (nI (1))), (0, .ref (w.1 (0))), (1, .int (x))] rfl ?_
          refine g_l2 hs.symm ?_
          exact ih (v + 1) (by omega) (by omega)
  · have hx0 : x = 0 := c_1
    refine g_iconst (pc9 := 5) C rfl (nI (1)) dX11_adds_4 rfl ?_
    refine g_goto C 9 dX11_adds_5 rfl ?_
    refine g_istore_n (pc9 := 10) C rfl [(2, .int (nI (1))), (0, .ref (w.1 (0))), (1, .int (x))] dX11_adds_9 rfl (by decide) rfl ?_
    refine g_iconst (pc9 := 11) C rfl (nI (0)) dX11_adds_10 rfl ?_
    refine g_istore_n (pc9 := 12) C rfl [(3, .int (nI (0))), (2, .int (nI (1))), (0, .ref (w.1 (0))), (1, .int (x))] dX11_adds_11 rfl (by decide) rfl ?_
    refine g_sub [0, 1, 2, 3] [(3, .int (nI (0))), (2, .int (nI (1))), (0, .ref (w.1 (0))), (1, .int (x))] rfl ?_
    refine g_l2 (x9 := pI (x = 0 ∨ ∃ u, u < 0 ∧ F.2 u = x)) (by exact (pI_t (Or.inl hx0)).symm) ?_
    refine g_lp1 (α := Nat) (fun v => v ≤ F.1) (fun v => F.1 - v) (fun v => G p l e _ s m args below meth c _ w A _ (sN (sI σ (13) ((F).2)) (0) 21 (nI ((F).1))) 0 0 12 [(3, .int (nI (v))), (2, .int (pI (x = 0 ∨ ∃ u, u < v ∧ F.2 u = x))), (0, .ref (w.1 (0))), (1, .int (x))] []) (fun v hI ih => ?_) (0) (Nat.zero_le _)
    obtain hv := hI
    refine g_iload_n (pc9 := 13) C rfl 0 dX11_adds_12 rfl rfl ?_
    refine g_aload_n (pc9 := 14) C rfl 2 dX11_adds_13 rfl rfl ?_
    refine g_get (v := .int (nI ((F).1))) (pc9 := 17) C rfl (0) 21 dX11_adds_14 (by decide) (ce_0 w (sN (sI σ (13) ((F).2)) (0) 21 (nI ((F).1)))) hin_11 hl_129 rfl (by decide) rfl (congrArg (fun z => some (Value.int z)) (nF_s)) ?_
    refine g_icmp_ge (pc9 := 20) C rfl 46 dX11_adds_17 rfl (fun c_7 => ?_) (fun c_7 => ?_)
    · replace c_7 := (nI_leI (by omega) (by omega)).mp c_7
      have hvz : v = F.1 := by omega
      refine g_iload_n (pc9 := 47) C rfl 1 dX11_adds_46 rfl rfl ?_
      refine g_if_eq (pc9 := 50) C rfl 51 dX11_adds_47 rfl (fun c_8 => ?_) (fun c_8 => ?_)
      · have hnv := pI_no c_8
        have hvz9 : v = F.1 := by first | omega | exact absurd hye hnv
        have hyo : ¬ maOld F x := fun h => hnv (by rcases h with h | ⟨u, h1, h2⟩; exact Or.inl h; exact Or.inr ⟨u, by omega, h2⟩)
        refine g_aload_n (pc9 := 52) C rfl 2 dX11_adds_51 rfl rfl ?_
        refine g_get (v := .ref (w.1 (13))) (pc9 := 55) C rfl (0) 20 dX11_adds_52 (by decide) (ce_0 w (sN (sI σ (13) ((F).2)) (0) 21 (nI ((F).1)))) hin_11 hl_54 rfl (by decide) rfl rfl ?_
        refine g_aload_n (pc9 := 56) C rfl 2 dX11_adds_55 rfl rfl ?_
        refine g_get (v := .int (nI ((F).1))) (pc9 := 59) C rfl (0) 21 dX11_adds_56 (by decide) (ce_0 w (sN (sI σ (13) ((F).2)) (0) 21 (nI ((F).1)))) hin_11 hl_129 rfl (by decide) rfl (congrArg (fun z => some (Value.int z)) (nF_s)) ?_
        refine g_iload_n (pc9 := 60) C rfl 3 dX11_adds_59 rfl rfl ?_
        refine g_iast (pc9 := 61) C rfl (13) ((F).1) ((F).2) dX11_adds_60 (by decide) (fun _ => rfl) (ce_13 w (sN (sI σ (13) ((F).2)) (0) 21 (nI ((F).1)))) rfl (by omega) (by decide) ((iA_N).trans (iA_s)) ?_
        rw [sI_sN (a := 0) (k := 21) (b := 13), sI_sI (a := 13)]
        refine g_aload_n (pc9 := 62) C rfl 2 dX11_adds_61 rfl rfl ?_
        refine g_dup (pc9 := 63) C rfl dX11_adds_62 rfl ?_
        refine g_get (v := .int (nI ((F).1))) (pc9 := 66) C rfl (0) 21 dX11_adds_63 (by decide) (ce_0 w (sN (sI σ (13) (upd ((F).2) ((F).1) (x))) (0) 21 (nI ((F).1)))) hin_11 hl_129 rfl (by decide) rfl (congrArg (fun z => some (Value.int z)) (nF_s)) ?_
        refine g_iconst (pc9 := 67) C rfl (nI (1)) dX11_adds_66 rfl ?_
        refine g_iaddN (pc9 := 68) C rfl dX11_adds_67 ?_
        refine g_put (pc9 := 71) C rfl (0) 21 dX11_adds_68 (by decide) (ce_0 w (sN (sI σ (13) (upd ((F).2) ((F).1) (x))) (0) 21 (nI ((F).1)))) (rfl) hin_11 hl_129 tyX11 tyX11_ok nmX11 rfl (by decide) rfl rfl rfl (Nat.le_of_ble_eq_true rfl) ?_
        rw [sN_sN]
        exact g_return C hr hlk dX11_adds_71 (by show _ = msSt σ (maA F x); rw [maA, cI_f hyo])
      · have hyo : maOld F x := by rcases pI_ye c_8 with h | ⟨u, h1, h2⟩; exact Or.inl h; exact Or.inr ⟨u, by omega, h2⟩
        exact g_return C hr hlk dX11_adds_50 (by show _ = msSt σ (maA F x); rw [maA, cI_t hyo])
    · replace c_7 := (not_congr (nI_leI (by omega) (by omega))).mp c_7
      refine g_iload_n (pc9 := 21) C rfl 1 dX11_adds_20 rfl rfl ?_
      refine g_if_ne (pc9 := 24) C rfl 46 dX11_adds_21 rfl (fun c_9 => ?_) (fun c_9 => ?_)
      · have hye := pI_ye c_9
        refine g_iload_n (pc9 := 47) C rfl 1 dX11_adds_46 rfl rfl ?_
        refine g_if_eq (pc9 := 50) C rfl 51 dX11_adds_47 rfl (fun c_10 => ?_) (fun c_10 => ?_)
        · exact absurd c_10 c_9
        · have hyo : maOld F x := by rcases pI_ye c_10 with h | ⟨u, h1, h2⟩; exact Or.inl h; exact Or.inr ⟨u, by omega, h2⟩
          exact g_return C hr hlk dX11_adds_50 (by show _ = msSt σ (maA F x); rw [maA, cI_t hyo])
      · have hno := pI_no c_9
        refine g_aload_n (pc9 := 25) C rfl 2 dX11_adds_24 rfl rfl ?_
        refine g_get (v := .ref (w.1 (13))) (pc9 := 28) C rfl (0) 20 dX11_adds_25 (by decide) (ce_0 w (sN (sI σ (13) ((F).2)) (0) 21 (nI ((F).1)))) hin_11 hl_54 rfl (by decide) rfl rfl ?_
        refine g_iload_n (pc9 := 29) C rfl 0 dX11_adds_28 rfl rfl ?_
        refine g_iald (x := ((F).2) (v)) (pc9 := 30) C rfl (13) (v) dX11_adds_29 (by decide) (ce_13 w (sN (sI σ (13) ((F).2)) (0) 21 (nI ((F).1)))) rfl (by omega) (by decide) (congrFun ((iA_N).trans (iA_s)) _) ?_
        refine g_iload_n (pc9 := 31) C rfl 3 dX11_adds_30 rfl rfl ?_
        refine g_icmp_ne (pc9 := 34) C rfl 38 dX11_adds_31 rfl (fun c_11 => ?_) (fun c_11 => ?_)
        · have hs : pI (x = 0 ∨ ∃ u, u < v + 1 ∧ F.2 u = x) = nI 0 := pI_f (fun h => by rcases h with h | ⟨u, h1, h2⟩; exact hno (Or.inl h); by_cases e : u = v; (rw [e] at h2; exact c_11 h2); exact hno (Or.inr ⟨u, by omega, h2⟩))
          refine g_iconst (pc9 := 39) C rfl (nI (0)) dX11_adds_38 rfl ?_
          refine g_istore_n (pc9 := 40) C rfl [(2, .int (nI (0))), (3, .int (nI (v))), (0, .ref (w.1 (0))), (1, .int (x))] dX11_adds_39 rfl (by decide) rfl ?_
          refine g_iinc (pc9 := 43) C rfl [(3, .int (nI (v + 1))), (2, .int (nI (0))), (0, .ref (w.1 (0))), (1, .int (x))] 1 (nI (v + 1)) dX11_adds_40 rfl (nI_1 (v)) (by decide) rfl ?_
          refine g_goto C 12 dX11_adds_43 rfl ?_
          refine g_sub [0, 1, 2, 3] [(3, .int (nI (v + 1))), (2, .int (nI (0))), (0, .ref (w.1 (0))), (1, .int (x))] rfl ?_
          refine g_l2 hs.symm ?_
          exact ih (v + 1) (by omega) (by omega)
        · have hs : pI (x = 0 ∨ ∃ u, u < v + 1 ∧ F.2 u = x) = nI 1 := pI_t (Or.inr ⟨v, by omega, c_11⟩)
          refine g_iconst (pc9 := 35) C rfl (nI (1)) dX11_adds_34 rfl ?_
          refine g_goto C 39 dX11_adds_35 rfl ?_
          refine g_istore_n (pc9 := 40) C rfl [(2, .int (nI (1))), (3, .int (nI (v))), (0, .ref (w.1 (0))), (1, .int (x))] dX11_adds_39 rfl (by decide) rfl ?_
          refine g_iinc (pc9 := 43) C rfl [(3, .int (nI (v + 1))), (2, .int (nI (1))), (0, .ref (w.1 (0))), (1, .int (x))] 1 (nI (v + 1)) dX11_adds_40 rfl (nI_1 (v)) (by decide) rfl ?_
          refine g_goto C 12 dX11_adds_43 rfl ?_
          refine g_sub [0, 1, 2, 3] [(3, .int (nI (v + 1))), (2, .int (nI (1))), (0, .ref (w.1 (0))), (1, .int (x))] rfl ?_
          refine g_l2 hs.symm ?_
          exact ih (v + 1) (by omega) (by omega)
noncomputable abbrev maK (F : Fam) (x : Int32) : Fam := maUp (fun k => x &&& bitI k) (maA F x) 12
set_option maxRecDepth 100000 in
set_option maxHeartbeats 4000000 in
theorem m_X11_addsKinds (l : Launch) (w : Wd) (σ : St) (F : Fam) (hF : F.1 < 380) (x : Int32) : MV l yX11_addsKinds wsX11_addsKinds (rmL 2) w [.ref (w.1 (0)), .int (x)] (sN (sI σ (13) ((F).2)) (0) 21 (nI ((F).1))) (fun σ9 => σ9 = msSt σ (maK F x)) := by
  refine MV_of (cc := cX11_addsKinds) (maxL := 3) (by decide) rfl (Nat.le_of_ble_eq_true rfl) ?_
  intro p e s m args below meth c A C hr hlk
  have C : Cx p s m args c w A cX11_addsKinds RX11 3 wsX11_addsKinds := C
  refine g_aload_n (pc9 := 1) C rfl 0 dX11_addsKinds_0 rfl rfl ?_
  refine g_iload_n (pc9 := 2) C rfl 1 dX11_addsKinds_1 rfl rfl ?_
  refine g_callVv (nn := 1) (rest := []) (pc9 := 5) C rfl (0) [.int (x)] rfl dX11_addsKinds_2 (m_X11_adds l w σ F (by omega) x) gX11_addsKinds_X11_adds (by decide) (ce_0 w (sN (sI σ (13) ((F).2)) (0) 21 (nI ((F).1)))) rfl rfl rfl rfl rfl (by decide +kernel) ⟨by decide, by decide⟩ rfl (Nat.le_of_ble_eq_true rfl) ⟨by decide, by decide⟩ (fun σ_1 q_1 => ?_)
  replace q_1 : σ_1 = sN (sI σ (13) ((maUp (fun k => x &&& bitI k) (maA F x) 0).2)) (0) 21 (nI ((maUp (fun k => x &&& bitI k) (maA F x) 0).1)) := q_1
  rw [q_1]
  clear q_1
  refine g_iconst (pc9 := 6) C rfl (nI (0)) dX11_addsKinds_5 rfl ?_
  refine g_istore_n (pc9 := 7) C rfl [(2, .int (nI (0))), (0, .ref (w.1 (0))), (1, .int (x))] dX11_addsKinds_6 rfl (by decide) rfl ?_
  refine g_sub [0, 1, 2] [(2, .int (nI (0))), (0, .ref (w.1 (0))), (1, .int (x))] rfl ?_
  refine g_lp1 (α := Nat) (fun v => v ≤ 12) (fun v => 12 - v) (fun v => G p l e _ s m args below meth c _ w A _ (sN (sI σ (13) ((maUp (fun k => x &&& bitI k) (maA F x) (v)).2)) (0) 21 (nI ((maUp (fun k => x &&& bitI k) (maA F x) (v)).1))) 0 0 7 [(2, .int (nI (v))), (0, .ref (w.1 (0))), (1, .int (x))] []) (fun v hI ih => ?_) (0) (Nat.zero_le _)
  obtain hv := hI
  refine g_iload_n (pc9 := 8) C rfl 0 dX11_addsKinds_7 rfl rfl ?_
  refine g_bipush (pc9 := 10) C rfl (nI (12)) dX11_addsKinds_8 rfl ?_
  refine g_icmp_ge (pc9 := 13) C rfl 28 dX11_addsKinds_10 rfl (fun c_2 => ?_) (fun c_2 => ?_)
  · replace c_2 := (nI_leI (by omega) (by omega)).mp c_2
    exact g_return C hr hlk dX11_addsKinds_28 (by rw [show v = 12 by omega])
  · replace c_2 := (not_congr (nI_leI (by omega) (by omega))).mp c_2
    refine g_aload_n (pc9 := 14) C rfl 1 dX11_addsKinds_13 rfl rfl ?_
    refine g_iload_n (pc9 := 15) C rfl 2 dX11_addsKinds_14 rfl rfl ?_
    refine g_iconst (pc9 := 16) C rfl (nI (1)) dX11_addsKinds_15 rfl ?_
    refine g_iload_n (pc9 := 17) C rfl 0 dX11_addsKinds_16 rfl rfl ?_
    refine g_ishl (pc9 := 18) C rfl dX11_addsKinds_17 ?_
    refine g_iand (pc9 := 19) C rfl dX11_addsKinds_18 ?_
    refine g_callVv (nn := 1) (rest := []) (pc9 := 22) C rfl (0) [.int ((x) &&& ((nI (1)) <<< ((nI (v)) &&& 31)))] rfl dX11_addsKinds_19 (m_X11_adds l w σ (maUp (fun k => x &&& bitI k) (maA F x) (v)) (by have h1 := maUp_le (q := fun k => x &&& bitI k) (F := maA F x) v; have h2 := maA_le (F := F) (x := x); omega) ((x) &&& ((nI (1)) <<< ((nI (v)) &&& 31)))) gX11_addsKinds_X11_adds (by decide) (ce_0 w (sN (sI σ (13) ((maUp (fun k => x &&& bitI k) (maA F x) (v)).2)) (0) 21 (nI ((maUp (fun k => x &&& bitI k) (maA F x) (v)).1)))) rfl rfl rfl rfl rfl (by decide +kernel) ⟨by decide, by decide⟩ rfl (Nat.le_of_ble_eq_true rfl) ⟨by decide, by decide⟩ (fun σ_3 q_3 => ?_)
    replace q_3 : σ_3 = sN (sI σ (13) ((maUp (fun k => x &&& bitI k) (maA F x) (v + 1)).2)) (0) 21 (nI ((maUp (fun k => x &&& bitI k) (maA F x) (v + 1)).1)) := q_3
    rw [q_3]
    clear q_3
    refine g_iinc (pc9 := 25) C rfl [(2, .int (nI (v + 1))), (0, .ref (w.1 (0))), (1, .int (x))] 0 (nI (v + 1)) dX11_addsKinds_22 rfl (nI_1 (v)) (by decide) rfl ?_
    refine g_goto C 7 dX11_addsKinds_25 rfl ?_
    exact ih (v + 1) (by omega) (by omega)
def nz1 (x : Int32) : Int32 := (x ^^^ (-1)) &&& (x - nI 1)
def nz2 (q : Int32 × Nat) (b : Int32) (k : Nat) : Int32 × Nat := if q.1 ≤ b then q else (((q.1).toUInt32 >>> ((nI k).toUInt32 &&& Int32.toUInt32 31)).toInt32, q.2 + k)
def nz3 (q : Int32 × Nat) : Int32 := nI q.2 + ((q.1).toUInt32 >>> ((nI (1)).toUInt32 &&& Int32.toUInt32 31)).toInt32
def ntz (x : Int32) : Int32 := if 0 < nz1 x then nz3 (nz2 (nz2 (nz2 (nz2 (nz1 x, 1) 65536 16) (nI 256) 8) (nI 16) 4) (nI 4) 2) else nz1 x &&& nI 32
set_option maxRecDepth 100000 in
set_option maxHeartbeats 4000000 in
theorem m_ntz (l : Launch) (w : Wd) (σ : St) (x : Int32) : MI l yJ6_numberOfTrailingZeros_0f7a4 wsJ6_numberOfTrailingZeros_0f7a4 (rmL 1) w [.int (x)] (σ) (fun r σ9 => σ9 = σ ∧ r = ntz x) := by
  refine MI_of (cc := cJ6_numberOfTrailingZeros_0f7a4) (maxL := 2) (ret := .int) (by decide) rfl (Nat.le_of_ble_eq_true rfl) ?_
  intro p e s m args below meth c A C hr hlk
  have C : Cx p s m args c w A cJ6_numberOfTrailingZeros_0f7a4 RJ6 2 wsJ6_numberOfTrailingZeros_0f7a4 := C
  refine g_iload_n (pc9 := 1) C rfl 0 dJ6_numberOfTrailingZeros_0f7a4_0 rfl rfl ?_
  refine g_iconst (pc9 := 2) C rfl ((-1)) dJ6_numberOfTrailingZeros_0f7a4_1 rfl ?_
  refine g_ixor (pc9 := 3) C rfl dJ6_numberOfTrailingZeros_0f7a4_2 ?_
  refine g_iload_n (pc9 := 4) C rfl 0 dJ6_numberOfTrailingZeros_0f7a4_3 rfl rfl ?_
  refine g_iconst (pc9 := 5) C rfl (nI (1)) dJ6_numberOfTrailingZeros_0f7a4_4 rfl ?_
  refine g_isub (pc9 := 6) C rfl dJ6_numberOfTrailingZeros_0f7a4_5 ?_
  refine g_iand (pc9 := 7) C rfl dJ6_numberOfTrailingZeros_0f7a4_6 ?_
  refine g_istore_n (pc9 := 8) C rfl [(0, .int (((x) ^^^ ((-1))) &&& ((x) - (nI (1)))))] dJ6_numberOfTrailingZeros_0f7a4_7 rfl (by decide) rfl ?_
  refine g_iload_n (pc9 := 9) C rfl 0 dJ6_numberOfTrailingZeros_0f7a4_8 rfl rfl ?_
  have hN : ntz x = if 0 < (x ^^^ (-1)) &&& (x - nI 1) then nz3 (nz2 (nz2 (nz2 (nz2 ((x ^^^ (-1)) &&& (x - nI 1), 1) 65536 16) (nI 256) 8) (nI 16) 4) (nI 4) 2) else ((x ^^^ (-1)) &&& (x - nI 1)) &&& nI 32 := rfl
  refine g_if_gt (pc9 := 12) C rfl 17 dJ6_numberOfTrailingZeros_0f7a4_9 rfl (fun c_1 => ?_) (fun c_1 => ?_)
  · rw [if_pos c_1] at hN
    refine g_iconst (pc9 := 18) C rfl (nI (1)) dJ6_numberOfTrailingZeros_0f7a4_17 rfl ?_
    refine g_istore_n (pc9 := 19) C rfl [(1, .int (nI (1))), (0, .int (((x) ^^^ ((-1))) &&& ((x) - (nI (1)))))] dJ6_numberOfTrailingZeros_0f7a4_18 rfl (by decide) rfl ?_
    refine g_iload_n (pc9 := 20) C rfl 1 dJ6_numberOfTrailingZeros_0f7a4_19 rfl rfl ?_
    refine g_ldc_w (pc9 := 23) C rfl (65536) dJ6_numberOfTrailingZeros_0f7a4_20 (by decide +kernel) ?_
    rw [show nz2 ((((x) ^^^ ((-1))) &&& ((x) - (nI (1)))), 1) (65536) 16 = if ((x) ^^^ ((-1))) &&& ((x) - (nI (1))) ≤ 65536 then ((((x) ^^^ ((-1))) &&& ((x) - (nI (1)))), 1) else (((((x) ^^^ ((-1))) &&& ((x) - (nI (1)))).toUInt32 >>> ((nI (16)).toUInt32 &&& Int32.toUInt32 31)).toInt32, 1 + 16) from rfl] at hN
    refine g_icmp_le (pc9 := 26) C rfl 34 dJ6_numberOfTrailingZeros_0f7a4_23 rfl (fun c_2 => ?_) (fun c_2 => ?_)
    · rw [if_pos c_2] at hN
      refine g_iload_n (pc9 := 35) C rfl 1 dJ6_numberOfTrailingZeros_0f7a4_34 rfl rfl ?_
      refine g_sipush (pc9 := 38) C rfl (nI (256)) dJ6_numberOfTrailingZeros_0f7a4_35 rfl ?_
      rw [show nz2 ((((x) ^^^ ((-1))) &&& ((x) - (nI (1)))), 1) (nI 256) 8 = if ((x) ^^^ ((-1))) &&& ((x) - (nI (1))) ≤ nI 256 then ((((x) ^^^ ((-1))) &&& ((x) - (nI (1)))), 1) else (((((x) ^^^ ((-1))) &&& ((x) - (nI (1)))).toUInt32 >>> ((nI (8)).toUInt32 &&& Int32.toUInt32 31)).toInt32, 1 + 8) from rfl] at hN
      refine g_icmp_le (pc9 := 41) C rfl 49 dJ6_numberOfTrailingZeros_0f7a4_38 rfl (fun c_3 => ?_) (fun c_3 => ?_)
      · rw [if_pos c_3] at hN
        refine g_iload_n (pc9 := 50) C rfl 1 dJ6_numberOfTrailingZeros_0f7a4_49 rfl rfl ?_
        refine g_bipush (pc9 := 52) C rfl (nI (16)) dJ6_numberOfTrailingZeros_0f7a4_50 rfl ?_
        rw [show nz2 ((((x) ^^^ ((-1))) &&& ((x) - (nI (1)))), 1) (nI 16) 4 = if ((x) ^^^ ((-1))) &&& ((x) - (nI (1))) ≤ nI 16 then ((((x) ^^^ ((-1))) &&& ((x) - (nI (1)))), 1) else (((((x) ^^^ ((-1))) &&& ((x) - (nI (1)))).toUInt32 >>> ((nI (4)).toUInt32 &&& Int32.toUInt32 31)).toInt32, 1 + 4) from rfl] at hN
        refine g_icmp_le (pc9 := 55) C rfl 62 dJ6_numberOfTrailingZeros_0f7a4_52 rfl (fun c_4 => ?_) (fun c_4 => ?_)
        · rw [if_pos c_4] at hN
          refine g_iload_n (pc9 := 63) C rfl 1 dJ6_numberOfTrailingZeros_0f7a4_62 rfl rfl ?_
          refine g_iconst (pc9 := 64) C rfl (nI (4)) dJ6_numberOfTrailingZeros_0f7a4_63 rfl ?_
          rw [show nz2 ((((x) ^^^ ((-1))) &&& ((x) - (nI (1)))), 1) (nI 4) 2 = if ((x) ^^^ ((-1))) &&& ((x) - (nI (1))) ≤ nI 4 then ((((x) ^^^ ((-1))) &&& ((x) - (nI (1)))), 1) else (((((x) ^^^ ((-1))) &&& ((x) - (nI (1)))).toUInt32 >>> ((nI (2)).toUInt32 &&& Int32.toUInt32 31)).toInt32, 1 + 2) from rfl] at hN
          refine g_icmp_le (pc9 := 67) C rfl 74 dJ6_numberOfTrailingZeros_0f7a4_64 rfl (fun c_5 => ?_) (fun c_5 => ?_)
          · rw [if_pos c_5] at hN
            refine g_iload_n (pc9 := 75) C rfl 0 dJ6_numberOfTrailingZeros_0f7a4_74 rfl rfl ?_
            refine g_iload_n (pc9 := 76) C rfl 1 dJ6_numberOfTrailingZeros_0f7a4_75 rfl rfl ?_
            refine g_iconst (pc9 := 77) C rfl (nI (1)) dJ6_numberOfTrailingZeros_0f7a4_76 rfl ?_
            refine g_iushr (pc9 := 78) C rfl (((((x) ^^^ ((-1))) &&& ((x) - (nI (1)))).toUInt32 >>> ((nI (1)).toUInt32 &&& Int32.toUInt32 31)).toInt32) dJ6_numberOfTrailingZeros_0f7a4_77 rfl ?_
            refine g_iadd (pc9 := 79) C rfl dJ6_numberOfTrailingZeros_0f7a4_78 ?_
            exact g_ireturn C hr hlk dJ6_numberOfTrailingZeros_0f7a4_79 ⟨rfl, hN.symm⟩
          · rw [if_neg c_5] at hN
            refine g_iinc (pc9 := 70) C rfl [(1, .int (nI (1 + 2))), (0, .int (((x) ^^^ ((-1))) &&& ((x) - (nI (1)))))] 0 (nI (1 + 2)) dJ6_numberOfTrailingZeros_0f7a4_67 rfl (nI_add (1) 2) (by decide) rfl ?_
            refine g_iload_n (pc9 := 71) C rfl 1 dJ6_numberOfTrailingZeros_0f7a4_70 rfl rfl ?_
            refine g_iconst (pc9 := 72) C rfl (nI (2)) dJ6_numberOfTrailingZeros_0f7a4_71 rfl ?_
            refine g_iushr (pc9 := 73) C rfl (((((x) ^^^ ((-1))) &&& ((x) - (nI (1)))).toUInt32 >>> ((nI (2)).toUInt32 &&& Int32.toUInt32 31)).toInt32) dJ6_numberOfTrailingZeros_0f7a4_72 rfl ?_
            refine g_istore_n (pc9 := 74) C rfl [(0, .int (((((x) ^^^ ((-1))) &&& ((x) - (nI (1)))).toUInt32 >>> ((nI (2)).toUInt32 &&& Int32.toUInt32 31)).toInt32)), (1, .int (nI (1 + 2)))] dJ6_numberOfTrailingZeros_0f7a4_73 rfl (by decide) rfl ?_
            refine g_iload_n (pc9 := 75) C rfl 1 dJ6_numberOfTrailingZeros_0f7a4_74 rfl rfl ?_
            refine g_iload_n (pc9 := 76) C rfl 0 dJ6_numberOfTrailingZeros_0f7a4_75 rfl rfl ?_
            refine g_iconst (pc9 := 77) C rfl (nI (1)) dJ6_numberOfTrailingZeros_0f7a4_76 rfl ?_
            refine g_iushr (pc9 := 78) C rfl (((((((x) ^^^ ((-1))) &&& ((x) - (nI (1)))).toUInt32 >>> ((nI (2)).toUInt32 &&& Int32.toUInt32 31)).toInt32).toUInt32 >>> ((nI (1)).toUInt32 &&& Int32.toUInt32 31)).toInt32) dJ6_numberOfTrailingZeros_0f7a4_77 rfl ?_
            refine g_iadd (pc9 := 79) C rfl dJ6_numberOfTrailingZeros_0f7a4_78 ?_
            exact g_ireturn C hr hlk dJ6_numberOfTrailingZeros_0f7a4_79 ⟨rfl, hN.symm⟩
        · rw [if_neg c_4] at hN
          refine g_iinc (pc9 := 58) C rfl [(1, .int (nI (1 + 4))), (0, .int (((x) ^^^ ((-1))) &&& ((x) - (nI (1)))))] 0 (nI (1 + 4)) dJ6_numberOfTrailingZeros_0f7a4_55 rfl (nI_add (1) 4) (by decide) rfl ?_
          refine g_iload_n (pc9 := 59) C rfl 1 dJ6_numberOfTrailingZeros_0f7a4_58 rfl rfl ?_
          refine g_iconst (pc9 := 60) C rfl (nI (4)) dJ6_numberOfTrailingZeros_0f7a4_59 rfl ?_
          refine g_iushr (pc9 := 61) C rfl (((((x) ^^^ ((-1))) &&& ((x) - (nI (1)))).toUInt32 >>> ((nI (4)).toUInt32 &&& Int32.toUInt32 31)).toInt32) dJ6_numberOfTrailingZeros_0f7a4_60 rfl ?_
          refine g_istore_n (pc9 := 62) C rfl [(0, .int (((((x) ^^^ ((-1))) &&& ((x) - (nI (1)))).toUInt32 >>> ((nI (4)).toUInt32 &&& Int32.toUInt32 31)).toInt32)), (1, .int (nI (1 + 4)))] dJ6_numberOfTrailingZeros_0f7a4_61 rfl (by decide) rfl ?_
          refine g_iload_n (pc9 := 63) C rfl 0 dJ6_numberOfTrailingZeros_0f7a4_62 rfl rfl ?_
          refine g_iconst (pc9 := 64) C rfl (nI (4)) dJ6_numberOfTrailingZeros_0f7a4_63 rfl ?_
          rw [show nz2 ((((((x) ^^^ ((-1))) &&& ((x) - (nI (1)))).toUInt32 >>> ((nI (4)).toUInt32 &&& Int32.toUInt32 31)).toInt32), 1 + 4) (nI 4) 2 = if ((((x) ^^^ ((-1))) &&& ((x) - (nI (1)))).toUInt32 >>> ((nI (4)).toUInt32 &&& Int32.toUInt32 31)).toInt32 ≤ nI 4 then ((((((x) ^^^ ((-1))) &&& ((x) - (nI (1)))).toUInt32 >>> ((nI (4)).toUInt32 &&& Int32.toUInt32 31)).toInt32), 1 + 4) else (((((((x) ^^^ ((-1))) &&& ((x) - (nI (1)))).toUInt32 >>> ((nI (4)).toUInt32 &&& Int32.toUInt32 31)).toInt32).toUInt32 >>> ((nI (2)).toUInt32 &&& Int32.toUInt32 31)).toInt32, 1 + 4 + 2) from rfl] at hN
          refine g_icmp_le (pc9 := 67) C rfl 74 dJ6_numberOfTrailingZeros_0f7a4_64 rfl (fun c_6 => ?_) (fun c_6 => ?_)
          · rw [if_pos c_6] at hN
            refine g_iload_n (pc9 := 75) C rfl 1 dJ6_numberOfTrailingZeros_0f7a4_74 rfl rfl ?_
            refine g_iload_n (pc9 := 76) C rfl 0 dJ6_numberOfTrailingZeros_0f7a4_75 rfl rfl ?_
            refine g_iconst (pc9 := 77) C rfl (nI (1)) dJ6_numberOfTrailingZeros_0f7a4_76 rfl ?_
            refine g_iushr (pc9 := 78) C rfl (((((((x) ^^^ ((-1))) &&& ((x) - (nI (1)))).toUInt32 >>> ((nI (4)).toUInt32 &&& Int32.toUInt32 31)).toInt32).toUInt32 >>> ((nI (1)).toUInt32 &&& Int32.toUInt32 31)).toInt32) dJ6_numberOfTrailingZeros_0f7a4_77 rfl ?_
            refine g_iadd (pc9 := 79) C rfl dJ6_numberOfTrailingZeros_0f7a4_78 ?_
            exact g_ireturn C hr hlk dJ6_numberOfTrailingZeros_0f7a4_79 ⟨rfl, hN.symm⟩
          · rw [if_neg c_6] at hN
            refine g_iinc (pc9 := 70) C rfl [(1, .int (nI (1 + 4 + 2))), (0, .int (((((x) ^^^ ((-1))) &&& ((x) - (nI (1)))).toUInt32 >>> ((nI (4)).toUInt32 &&& Int32.toUInt32 31)).toInt32))] 1 (nI (1 + 4 + 2)) dJ6_numberOfTrailingZeros_0f7a4_67 rfl (nI_add (1 + 4) 2) (by decide) rfl ?_
            refine g_iload_n (pc9 := 71) C rfl 1 dJ6_numberOfTrailingZeros_0f7a4_70 rfl rfl ?_
            refine g_iconst (pc9 := 72) C rfl (nI (2)) dJ6_numberOfTrailingZeros_0f7a4_71 rfl ?_
            refine g_iushr (pc9 := 73) C rfl (((((((x) ^^^ ((-1))) &&& ((x) - (nI (1)))).toUInt32 >>> ((nI (4)).toUInt32 &&& Int32.toUInt32 31)).toInt32).toUInt32 >>> ((nI (2)).toUInt32 &&& Int32.toUInt32 31)).toInt32) dJ6_numberOfTrailingZeros_0f7a4_72 rfl ?_
            refine g_istore_n (pc9 := 74) C rfl [(0, .int (((((((x) ^^^ ((-1))) &&& ((x) - (nI (1)))).toUInt32 >>> ((nI (4)).toUInt32 &&& Int32.toUInt32 31)).toInt32).toUInt32 >>> ((nI (2)).toUInt32 &&& Int32.toUInt32 31)).toInt32)), (1, .int (nI (1 + 4 + 2)))] dJ6_numberOfTrailingZeros_0f7a4_73 rfl (by decide) rfl ?_
            refine g_iload_n (pc9 := 75) C rfl 1 dJ6_numberOfTrailingZeros_0f7a4_74 rfl rfl ?_
            refine g_iload_n (pc9 := 76) C rfl 0 dJ6_numberOfTrailingZeros_0f7a4_75 rfl rfl ?_
            refine g_iconst (pc9 := 77) C rfl (nI (1)) dJ6_numberOfTrailingZeros_0f7a4_76 rfl ?_
            refine g_iushr (pc9 := 78) C rfl (((((((((x) ^^^ ((-1))) &&& ((x) - (nI (1)))).toUInt32 >>> ((nI (4)).toUInt32 &&& Int32.toUInt32 31)).toInt32).toUInt32 >>> ((nI (2)).toUInt32 &&& Int32.toUInt32 31)).toInt32).toUInt32 >>> ((nI (1)).toUInt32 &&& Int32.toUInt32 31)).toInt32) dJ6_numberOfTrailingZeros_0f7a4_77 rfl ?_
            refine g_iadd (pc9 := 79) C rfl dJ6_numberOfTrailingZeros_0f7a4_78 ?_
            exact g_ireturn C hr hlk dJ6_numberOfTrailingZeros_0f7a4_79 ⟨rfl, hN.symm⟩
      · rw [if_neg c_3] at hN
        refine g_iinc (pc9 := 44) C rfl [(1, .int (nI (1 + 8))), (0, .int (((x) ^^^ ((-1))) &&& ((x) - (nI (1)))))] 0 (nI (1 + 8)) dJ6_numberOfTrailingZeros_0f7a4_41 rfl (nI_add (1) 8) (by decide) rfl ?_
        refine g_iload_n (pc9 := 45) C rfl 1 dJ6_numberOfTrailingZeros_0f7a4_44 rfl rfl ?_
        refine g_bipush (pc9 := 47) C rfl (nI (8)) dJ6_numberOfTrailingZeros_0f7a4_45 rfl ?_
        refine g_iushr (pc9 := 48) C rfl (((((x) ^^^ ((-1))) &&& ((x) - (nI (1)))).toUInt32 >>> ((nI (8)).toUInt32 &&& Int32.toUInt32 31)).toInt32) dJ6_numberOfTrailingZeros_0f7a4_47 rfl ?_
        refine g_istore_n (pc9 := 49) C rfl [(0, .int (((((x) ^^^ ((-1))) &&& ((x) - (nI (1)))).toUInt32 >>> ((nI (8)).toUInt32 &&& Int32.toUInt32 31)).toInt32)), (1, .int (nI (1 + 8)))] dJ6_numberOfTrailingZeros_0f7a4_48 rfl (by decide) rfl ?_
        refine g_iload_n (pc9 := 50) C rfl 0 dJ6_numberOfTrailingZeros_0f7a4_49 rfl rfl ?_
        refine g_bipush (pc9 := 52) C rfl (nI (16)) dJ6_numberOfTrailingZeros_0f7a4_50 rfl ?_
        rw [show nz2 ((((((x) ^^^ ((-1))) &&& ((x) - (nI (1)))).toUInt32 >>> ((nI (8)).toUInt32 &&& Int32.toUInt32 31)).toInt32), 1 + 8) (nI 16) 4 = if ((((x) ^^^ ((-1))) &&& ((x) - (nI (1)))).toUInt32 >>> ((nI (8)).toUInt32 &&& Int32.toUInt32 31)).toInt32 ≤ nI 16 then ((((((x) ^^^ ((-1))) &&& ((x) - (nI (1)))).toUInt32 >>> ((nI (8)).toUInt32 &&& Int32.toUInt32 31)).toInt32), 1 + 8) else (((((((x) ^^^ ((-1))) &&& ((x) - (nI (1)))).toUInt32 >>> ((nI (8)).toUInt32 &&& Int32.toUInt32 31)).toInt32).toUInt32 >>> ((nI (4)).toUInt32 &&& Int32.toUInt32 31)).toInt32, 1 + 8 + 4) from rfl] at hN
        refine g_icmp_le (pc9 := 55) C rfl 62 dJ6_numberOfTrailingZeros_0f7a4_52 rfl (fun c_7 => ?_) (fun c_7 => ?_)
        · rw [if_pos c_7] at hN
          refine g_iload_n (pc9 := 63) C rfl 0 dJ6_numberOfTrailingZeros_0f7a4_62 rfl rfl ?_
          refine g_iconst (pc9 := 64) C rfl (nI (4)) dJ6_numberOfTrailingZeros_0f7a4_63 rfl ?_
          rw [show nz2 ((((((x) ^^^ ((-1))) &&& ((x) - (nI (1)))).toUInt32 >>> ((nI (8)).toUInt32 &&& Int32.toUInt32 31)).toInt32), 1 + 8) (nI 4) 2 = if ((((x) ^^^ ((-1))) &&& ((x) - (nI (1)))).toUInt32 >>> ((nI (8)).toUInt32 &&& Int32.toUInt32 31)).toInt32 ≤ nI 4 then ((((((x) ^^^ ((-1))) &&& ((x) - (nI (1)))).toUInt32 >>> ((nI (8)).toUInt32 &&& Int32.toUInt32 31)).toInt32), 1 + 8) else (((((((x) ^^^ ((-1))) &&& ((x) - (nI (1)))).toUInt32 >>> ((nI (8)).toUInt32 &&& Int32.toUInt32 31)).toInt32).toUInt32 >>> ((nI (2)).toUInt32 &&& Int32.toUInt32 31)).toInt32, 1 + 8 + 2) from rfl] at hN
          refine g_icmp_le (pc9 := 67) C rfl 74 dJ6_numberOfTrailingZeros_0f7a4_64 rfl (fun c_8 => ?_) (fun c_8 => ?_)
          · rw [if_pos c_8] at hN
            refine g_iload_n (pc9 := 75) C rfl 1 dJ6_numberOfTrailingZeros_0f7a4_74 rfl rfl ?_
            refine g_iload_n (pc9 := 76) C rfl 0 dJ6_numberOfTrailingZeros_0f7a4_75 rfl rfl ?_
            refine g_iconst (pc9 := 77) C rfl (nI (1)) dJ6_numberOfTrailingZeros_0f7a4_76 rfl ?_
            refine g_iushr (pc9 := 78) C rfl (((((((x) ^^^ ((-1))) &&& ((x) - (nI (1)))).toUInt32 >>> ((nI (8)).toUInt32 &&& Int32.toUInt32 31)).toInt32).toUInt32 >>> ((nI (1)).toUInt32 &&& Int32.toUInt32 31)).toInt32) dJ6_numberOfTrailingZeros_0f7a4_77 rfl ?_
            refine g_iadd (pc9 := 79) C rfl dJ6_numberOfTrailingZeros_0f7a4_78 ?_
            exact g_ireturn C hr hlk dJ6_numberOfTrailingZeros_0f7a4_79 ⟨rfl, hN.symm⟩
          · rw [if_neg c_8] at hN
            refine g_iinc (pc9 := 70) C rfl [(1, .int (nI (1 + 8 + 2))), (0, .int (((((x) ^^^ ((-1))) &&& ((x) - (nI (1)))).toUInt32 >>> ((nI (8)).toUInt32 &&& Int32.toUInt32 31)).toInt32))] 1 (nI (1 + 8 + 2)) dJ6_numberOfTrailingZeros_0f7a4_67 rfl (nI_add (1 + 8) 2) (by decide) rfl ?_
            refine g_iload_n (pc9 := 71) C rfl 1 dJ6_numberOfTrailingZeros_0f7a4_70 rfl rfl ?_
            refine g_iconst (pc9 := 72) C rfl (nI (2)) dJ6_numberOfTrailingZeros_0f7a4_71 rfl ?_
            refine g_iushr (pc9 := 73) C rfl (((((((x) ^^^ ((-1))) &&& ((x) - (nI (1)))).toUInt32 >>> ((nI (8)).toUInt32 &&& Int32.toUInt32 31)).toInt32).toUInt32 >>> ((nI (2)).toUInt32 &&& Int32.toUInt32 31)).toInt32) dJ6_numberOfTrailingZeros_0f7a4_72 rfl ?_
            refine g_istore_n (pc9 := 74) C rfl [(0, .int (((((((x) ^^^ ((-1))) &&& ((x) - (nI (1)))).toUInt32 >>> ((nI (8)).toUInt32 &&& Int32.toUInt32 31)).toInt32).toUInt32 >>> ((nI (2)).toUInt32 &&& Int32.toUInt32 31)).toInt32)), (1, .int (nI (1 + 8 + 2)))] dJ6_numberOfTrailingZeros_0f7a4_73 rfl (by decide) rfl ?_
            refine g_iload_n (pc9 := 75) C rfl 1 dJ6_numberOfTrailingZeros_0f7a4_74 rfl rfl ?_
            refine g_iload_n (pc9 := 76) C rfl 0 dJ6_numberOfTrailingZeros_0f7a4_75 rfl rfl ?_
            refine g_iconst (pc9 := 77) C rfl (nI (1)) dJ6_numberOfTrailingZeros_0f7a4_76 rfl ?_
            refine g_iushr (pc9 := 78) C rfl (((((((((x) ^^^ ((-1))) &&& ((x) - (nI (1)))).toUInt32 >>> ((nI (8)).toUInt32 &&& Int32.toUInt32 31)).toInt32).toUInt32 >>> ((nI (2)).toUInt32 &&& Int32.toUInt32 31)).toInt32).toUInt32 >>> ((nI (1)).toUInt32 &&& Int32.toUInt32 31)).toInt32) dJ6_numberOfTrailingZeros_0f7a4_77 rfl ?_
            refine g_iadd (pc9 := 79) C rfl dJ6_numberOfTrailingZeros_0f7a4_78 ?_
            exact g_ireturn C hr hlk dJ6_numberOfTrailingZeros_0f7a4_79 ⟨rfl, hN.symm⟩
        · rw [if_neg c_7] at hN
          refine g_iinc (pc9 := 58) C rfl [(1, .int (nI (1 + 8 + 4))), (0, .int (((((x) ^^^ ((-1))) &&& ((x) - (nI (1)))).toUInt32 >>> ((nI (8)).toUInt32 &&& Int32.toUInt32 31)).toInt32))] 1 (nI (1 + 8 + 4)) dJ6_numberOfTrailingZeros_0f7a4_55 rfl (nI_add (1 + 8) 4) (by decide) rfl ?_
          refine g_iload_n (pc9 := 59) C rfl 1 dJ6_numberOfTrailingZeros_0f7a4_58 rfl rfl ?_
          refine g_iconst (pc9 := 60) C rfl (nI (4)) dJ6_numberOfTrailingZeros_0f7a4_59 rfl ?_
          refine g_iushr (pc9 := 61) C rfl (((((((x) ^^^ ((-1))) &&& ((x) - (nI (1)))).toUInt32 >>> ((nI (8)).toUInt32 &&& Int32.toUInt32 31)).toInt32).toUInt32 >>> ((nI (4)).toUInt32 &&& Int32.toUInt32 31)).toInt32) dJ6_numberOfTrailingZeros_0f7a4_60 rfl ?_
          refine g_istore_n (pc9 := 62) C rfl [(0, .int (((((((x) ^^^ ((-1))) &&& ((x) - (nI (1)))).toUInt32 >>> ((nI (8)).toUInt32 &&& Int32.toUInt32 31)).toInt32).toUInt32 >>> ((nI (4)).toUInt32 &&& Int32.toUInt32 31)).toInt32)), (1, .int (nI (1 + 8 + 4)))] dJ6_numberOfTrailingZeros_0f7a4_61 rfl (by decide) rfl ?_
          refine g_iload_n (pc9 := 63) C rfl 0 dJ6_numberOfTrailingZeros_0f7a4_62 rfl rfl ?_
          refine g_iconst (pc9 := 64) C rfl (nI (4)) dJ6_numberOfTrailingZeros_0f7a4_63 rfl ?_
          rw [show nz2 ((((((((x) ^^^ ((-1))) &&& ((x) - (nI (1)))).toUInt32 >>> ((nI (8)).toUInt32 &&& Int32.toUInt32 31)).toInt32).toUInt32 >>> ((nI (4)).toUInt32 &&& Int32.toUInt32 31)).toInt32), 1 + 8 + 4) (nI 4) 2 = if ((((((x) ^^^ ((-1))) &&& ((x) - (nI (1)))).toUInt32 >>> ((nI (8)).toUInt32 &&& Int32.toUInt32 31)).toInt32).toUInt32 >>> ((nI (4)).toUInt32 &&& Int32.toUInt32 31)).toInt32 ≤ nI 4 then ((((((((x) ^^^ ((-1))) &&& ((x) - (nI (1)))).toUInt32 >>> ((nI (8)).toUInt32 &&& Int32.toUInt32 31)).toInt32).toUInt32 >>> ((nI (4)).toUInt32 &&& Int32.toUInt32 31)).toInt32), 1 + 8 + 4) else (((((((((x) ^^^ ((-1))) &&& ((x) - (nI (1)))).toUInt32 >>> ((nI (8)).toUInt32 &&& Int32.toUInt32 31)).toInt32).toUInt32 >>> ((nI (4)).toUInt32 &&& Int32.toUInt32 31)).toInt32).toUInt32 >>> ((nI (2)).toUInt32 &&& Int32.toUInt32 31)).toInt32, 1 + 8 + 4 + 2) from rfl] at hN
          refine g_icmp_le (pc9 := 67) C rfl 74 dJ6_numberOfTrailingZeros_0f7a4_64 rfl (fun c_9 => ?_) (fun c_9 => ?_)
          · rw [if_pos c_9] at hN
            refine g_iload_n (pc9 := 75) C rfl 1 dJ6_numberOfTrailingZeros_0f7a4_74 rfl rfl ?_
            refine g_iload_n (pc9 := 76) C rfl 0 dJ6_numberOfTrailingZeros_0f7a4_75 rfl rfl ?_
            refine g_iconst (pc9 := 77) C rfl (nI (1)) dJ6_numberOfTrailingZeros_0f7a4_76 rfl ?_
            refine g_iushr (pc9 := 78) C rfl (((((((((x) ^^^ ((-1))) &&& ((x) - (nI (1)))).toUInt32 >>> ((nI (8)).toUInt32 &&& Int32.toUInt32 31)).toInt32).toUInt32 >>> ((nI (4)).toUInt32 &&& Int32.toUInt32 31)).toInt32).toUInt32 >>> ((nI (1)).toUInt32 &&& Int32.toUInt32 31)).toInt32) dJ6_numberOfTrailingZeros_0f7a4_77 rfl ?_
            refine g_iadd (pc9 := 79) C rfl dJ6_numberOfTrailingZeros_0f7a4_78 ?_
            exact g_ireturn C hr hlk dJ6_numberOfTrailingZeros_0f7a4_79 ⟨rfl, hN.symm⟩
          · rw [if_neg c_9] at hN
            refine g_iinc (pc9 := 70) C rfl [(1, .int (nI (1 + 8 + 4 + 2))), (0, .int (((((((x) ^^^ ((-1))) &&& ((x) - (nI (1)))).toUInt32 >>> ((nI (8)).toUInt32 &&& Int32.toUInt32 31)).toInt32).toUInt32 >>> ((nI (4)).toUInt32 &&& Int32.toUInt32 31)).toInt32))] 1 (nI (1 + 8 + 4 + 2)) dJ6_numberOfTrailingZeros_0f7a4_67 rfl (nI_add (1 + 8 + 4) 2) (by decide) rfl ?_
            refine g_iload_n (pc9 := 71) C rfl 1 dJ6_numberOfTrailingZeros_0f7a4_70 rfl rfl ?_
            refine g_iconst (pc9 := 72) C rfl (nI (2)) dJ6_numberOfTrailingZeros_0f7a4_71 rfl ?_
            refine g_iushr (pc9 := 73) C rfl (((((((((x) ^^^ ((-1))) &&& ((x) - (nI (1)))).toUInt32 >>> ((nI (8)).toUInt32 &&& Int32.toUInt32 31)).toInt32).toUInt32 >>> ((nI (4)).toUInt32 &&& Int32.toUInt32 31)).toInt32).toUInt32 >>> ((nI (2)).toUInt32 &&& Int32.toUInt32 31)).toInt32) dJ6_numberOfTrailingZeros_0f7a4_72 rfl ?_
            refine g_istore_n (pc9 := 74) C rfl [(0, .int (((((((((x) ^^^ ((-1))) &&& ((x) - (nI (1)))).toUInt32 >>> ((nI (8)).toUInt32 &&& Int32.toUInt32 31)).toInt32).toUInt32 >>> ((nI (4)).toUInt32 &&& Int32.toUInt32 31)).toInt32).toUInt32 >>> ((nI (2)).toUInt32 &&& Int32.toUInt32 31)).toInt32)), (1, .int (nI (1 + 8 + 4 + 2)))] dJ6_numberOfTrailingZeros_0f7a4_73 rfl (by decide) rfl ?_
            refine g_iload_n (pc9 := 75) C rfl 1 dJ6_numberOfTrailingZeros_0f7a4_74 rfl rfl ?_
            refine g_iload_n (pc9 := 76) C rfl 0 dJ6_numberOfTrailingZeros_0f7a4_75 rfl rfl ?_
            refine g_iconst (pc9 := 77) C rfl (nI (1)) dJ6_numberOfTrailingZeros_0f7a4_76 rfl ?_
            refine g_iushr (pc9 := 78) C rfl (((((((((((x) ^^^ ((-1))) &&& ((x) - (nI (1)))).toUInt32 >>> ((nI (8)).toUInt32 &&& Int32.toUInt32 31)).toInt32).toUInt32 >>> ((nI (4)).toUInt32 &&& Int32.toUInt32 31)).toInt32).toUInt32 >>> ((nI (2)).toUInt32 &&& Int32.toUInt32 31)).toInt32).toUInt32 >>> ((nI (1)).toUInt32 &&& Int32.toUInt32 31)).toInt32) dJ6_numberOfTrailingZeros_0f7a4_77 rfl ?_
            refine g_iadd (pc9 := 79) C rfl dJ6_numberOfTrailingZeros_0f7a4_78 ?_
            exact g_ireturn C hr hlk dJ6_numberOfTrailingZeros_0f7a4_79 ⟨rfl, hN.symm⟩
    · rw [if_neg c_2] at hN
      refine g_iinc (pc9 := 29) C rfl [(1, .int (nI (1 + 16))), (0, .int (((x) ^^^ ((-1))) &&& ((x) - (nI (1)))))] 0 (nI (1 + 16)) dJ6_numberOfTrailingZeros_0f7a4_26 rfl (nI_add (1) 16) (by decide) rfl ?_
      refine g_iload_n (pc9 := 30) C rfl 1 dJ6_numberOfTrailingZeros_0f7a4_29 rfl rfl ?_
      refine g_bipush (pc9 := 32) C rfl (nI (16)) dJ6_numberOfTrailingZeros_0f7a4_30 rfl ?_
      refine g_iushr (pc9 := 33) C rfl (((((x) ^^^ ((-1))) &&& ((x) - (nI (1)))).toUInt32 >>> ((nI (16)).toUInt32 &&& Int32.toUInt32 31)).toInt32) dJ6_numberOfTrailingZeros_0f7a4_32 rfl ?_
      refine g_istore_n (pc9 := 34) C rfl [(0, .int (((((x) ^^^ ((-1))) &&& ((x) - (nI (1)))).toUInt32 >>> ((nI (16)).toUInt32 &&& Int32.toUInt32 31)).toInt32)), (1, .int (nI (1 + 16)))] dJ6_numberOfTrailingZeros_0f7a4_33 rfl (by decide) rfl ?_
      refine g_iload_n (pc9 := 35) C rfl 0 dJ6_numberOfTrailingZeros_0f7a4_34 rfl rfl ?_
      refine g_sipush (pc9 := 38) C rfl (nI (256)) dJ6_numberOfTrailingZeros_0f7a4_35 rfl ?_
      rw [show nz2 ((((((x) ^^^ ((-1))) &&& ((x) - (nI (1)))).toUInt32 >>> ((nI (16)).toUInt32 &&& Int32.toUInt32 31)).toInt32), 1 + 16) (nI 256) 8 = if ((((x) ^^^ ((-1))) &&& ((x) - (nI (1)))).toUInt32 >>> ((nI (16)).toUInt32 &&& Int32.toUInt32 31)).toInt32 ≤ nI 256 then ((((((x) ^^^ ((-1))) &&& ((x) - (nI (1)))).toUInt32 >>> ((nI (16)).toUInt32 &&& Int32.toUInt32 31)).toInt32), 1 + 16) else (((((((x) ^^^ ((-1))) &&& ((x) - (nI (1)))).toUInt32 >>> ((nI (16)).toUInt32 &&& Int32.toUInt32 31)).toInt32).toUInt32 >>> ((nI (8)).toUInt32 &&& Int32.toUInt32 31)).toInt32, 1 + 16 + 8) from rfl] at hN
      refine g_icmp_le (pc9 := 41) C rfl 49 dJ6_numberOfTrailingZeros_0f7a4_38 rfl (fun c_10 => ?_) (fun c_10 => ?_)
      · rw [if_pos c_10] at hN
        refine g_iload_n (pc9 := 50) C rfl 0 dJ6_numberOfTrailingZeros_0f7a4_49 rfl rfl ?_
        refine g_bipush (pc9 := 52) C rfl (nI (16)) dJ6_numberOfTrailingZeros_0f7a4_50 rfl ?_
        rw [show nz2 ((((((x) ^^^ ((-1))) &&& ((x) - (nI (1)))).toUInt32 >>> ((nI (16)).toUInt32 &&& Int32.toUInt32 31)).toInt32), 1 + 16) (nI 16) 4 = if ((((x) ^^^ ((-1))) &&& ((x) - (nI (1)))).toUInt32 >>> ((nI (16)).toUInt32 &&& Int32.toUInt32 31)).toInt32 ≤ nI 16 then ((((((x) ^^^ ((-1))) &&& ((x) - (nI (1)))).toUInt32 >>> ((nI (16)).toUInt32 &&& Int32.toUInt32 31)).toInt32), 1 + 16) else (((((((x) ^^^ ((-1))) &&& ((x) - (nI (1)))).toUInt32 >>> ((nI (16)).toUInt32 &&& Int32.toUInt32 31)).toInt32).toUInt32 >>> ((nI (4)).toUInt32 &&& Int32.toUInt32 31)).toInt32, 1 + 16 + 4) from rfl] at hN
        refine g_icmp_le (pc9 := 55) C rfl 62 dJ6_numberOfTrailingZeros_0f7a4_52 rfl (fun c_11 => ?_) (fun c_11 => ?_)
        · rw [if_pos c_11] at hN
          refine g_iload_n (pc9 := 63) C rfl 0 dJ6_numberOfTrailingZeros_0f7a4_62 rfl rfl ?_
          refine g_iconst (pc9 := 64) C rfl (nI (4)) dJ6_numberOfTrailingZeros_0f7a4_63 rfl ?_
          rw [show nz2 ((((((x) ^^^ ((-1))) &&& ((x) - (nI (1)))).toUInt32 >>> ((nI (16)).toUInt32 &&& Int32.toUInt32 31)).toInt32), 1 + 16) (nI 4) 2 = if ((((x) ^^^ ((-1))) &&& ((x) - (nI (1)))).toUInt32 >>> ((nI (16)).toUInt32 &&& Int32.toUInt32 31)).toInt32 ≤ nI 4 then ((((((x) ^^^ ((-1))) &&& ((x) - (nI (1)))).toUInt32 >>> ((nI (16)).toUInt32 &&& Int32.toUInt32 31)).toInt32), 1 + 16) else (((((((x) ^^^ ((-1))) &&& ((x) - (nI (1)))).toUInt32 >>> ((nI (16)).toUInt32 &&& Int32.toUInt32 31)).toInt32).toUInt32 >>> ((nI (2)).toUInt32 &&& Int32.toUInt32 31)).toInt32, 1 + 16 + 2) from rfl] at hN
          refine g_icmp_le (pc9 := 67) C rfl 74 dJ6_numberOfTrailingZeros_0f7a4_64 rfl (fun c_12 => ?_) (fun c_12 => ?_)
          · rw [if_pos c_12] at hN
            refine g_iload_n (pc9 := 75) C rfl 1 dJ6_numberOfTrailingZeros_0f7a4_74 rfl rfl ?_
            refine g_iload_n (pc9 := 76) C rfl 0 dJ6_numberOfTrailingZeros_0f7a4_75 rfl rfl ?_
            refine g_iconst (pc9 := 77) C rfl (nI (1)) dJ6_numberOfTrailingZeros_0f7a4_76 rfl ?_
            refine g_iushr (pc9 := 78) C rfl (((((((x) ^^^ ((-1))) &&& ((x) - (nI (1)))).toUInt32 >>> ((nI (16)).toUInt32 &&& Int32.toUInt32 31)).toInt32).toUInt32 >>> ((nI (1)).toUInt32 &&& Int32.toUInt32 31)).toInt32) dJ6_numberOfTrailingZeros_0f7a4_77 rfl ?_
            refine g_iadd (pc9 := 79) C rfl dJ6_numberOfTrailingZeros_0f7a4_78 ?_
            exact g_ireturn C hr hlk dJ6_numberOfTrailingZeros_0f7a4_79 ⟨rfl, hN.symm⟩
          · rw [if_neg c_12] at hN
            refine g_iinc (pc9 := 70) C rfl [(1, .int (nI (1 + 16 + 2))), (0, .int (((((x) ^^^ ((-1))) &&& ((x) - (nI (1)))).toUInt32 >>> ((nI (16)).toUInt32 &&& Int32.toUInt32 31)).toInt32))] 1 (nI (1 + 16 + 2)) dJ6_numberOfTrailingZeros_0f7a4_67 rfl (nI_add (1 + 16) 2) (by decide) rfl ?_
            refine g_iload_n (pc9 := 71) C rfl 1 dJ6_numberOfTrailingZeros_0f7a4_70 rfl rfl ?_
            refine g_iconst (pc9 := 72) C rfl (nI (2)) dJ6_numberOfTrailingZeros_0f7a4_71 rfl ?_
            refine g_iushr (pc9 := 73) C rfl (((((((x) ^^^ ((-1))) &&& ((x) - (nI (1)))).toUInt32 >>> ((nI (16)).toUInt32 &&& Int32.toUInt32 31)).toInt32).toUInt32 >>> ((nI (2)).toUInt32 &&& Int32.toUInt32 31)).toInt32) dJ6_numberOfTrailingZeros_0f7a4_72 rfl ?_
            refine g_istore_n (pc9 := 74) C rfl [(0, .int (((((((x) ^^^ ((-1))) &&& ((x) - (nI (1)))).toUInt32 >>> ((nI (16)).toUInt32 &&& Int32.toUInt32 31)).toInt32).toUInt32 >>> ((nI (2)).toUInt32 &&& Int32.toUInt32 31)).toInt32)), (1, .int (nI (1 + 16 + 2)))] dJ6_numberOfTrailingZeros_0f7a4_73 rfl (by decide) rfl ?_
            refine g_iload_n (pc9 := 75) C rfl 1 dJ6_numberOfTrailingZeros_0f7a4_74 rfl rfl ?_
            refine g_iload_n (pc9 := 76) C rfl 0 dJ6_numberOfTrailingZeros_0f7a4_75 rfl rfl ?_
            refine g_iconst (pc9 := 77) C rfl (nI (1)) dJ6_numberOfTrailingZeros_0f7a4_76 rfl ?_
            refine g_iushr (pc9 := 78) C rfl (((((((((x) ^^^ ((-1))) &&& ((x) - (nI (1)))).toUInt32 >>> ((nI (16)).toUInt32 &&& Int32.toUInt32 31)).toInt32).toUInt32 >>> ((nI (2)).toUInt32 &&& Int32.toUInt32 31)).toInt32).toUInt32 >>> ((nI (1)).toUInt32 &&& Int32.toUInt32 31)).toInt32) dJ6_numberOfTrailingZeros_0f7a4_77 rfl ?_
            refine g_iadd (pc9 := 79) C rfl dJ6_numberOfTrailingZeros_0f7a4_78 ?_
            exact g_ireturn C hr hlk dJ6_numberOfTrailingZeros_0f7a4_79 ⟨rfl, hN.symm⟩
        · rw [if_neg c_11] at hN
          refine g_iinc (pc9 := 58) C rfl [(1, .int (nI (1 + 16 + 4))), (0, .int (((((x) ^^^ ((-1))) &&& ((x) - (nI (1)))).toUInt32 >>> ((nI (16)).toUInt32 &&& Int32.toUInt32 31)).toInt32))] 1 (nI (1 + 16 + 4)) dJ6_numberOfTrailingZeros_0f7a4_55 rfl (nI_add (1 + 16) 4) (by decide) rfl ?_
          refine g_iload_n (pc9 := 59) C rfl 1 dJ6_numberOfTrailingZeros_0f7a4_58 rfl rfl ?_
          refine g_iconst (pc9 := 60) C rfl (nI (4)) dJ6_numberOfTrailingZeros_0f7a4_59 rfl ?_
          refine g_iushr (pc9 := 61) C rfl (((((((x) ^^^ ((-1))) &&& ((x) - (nI (1)))).toUInt32 >>> ((nI (16)).toUInt32 &&& Int32.toUInt32 31)).toInt32).toUInt32 >>> ((nI (4)).toUInt32 &&& Int32.toUInt32 31)).toInt32) dJ6_numberOfTrailingZeros_0f7a4_60 rfl ?_
          refine g_istore_n (pc9 := 62) C rfl [(0, .int (((((((x) ^^^ ((-1))) &&& ((x) - (nI (1)))).toUInt32 >>> ((nI (16)).toUInt32 &&& Int32.toUInt32 31)).toInt32).toUInt32 >>> ((nI (4)).toUInt32 &&& Int32.toUInt32 31)).toInt32)), (1, .int (nI (1 + 16 + 4)))] dJ6_numberOfTrailingZeros_0f7a4_61 rfl (by decide) rfl ?_
          refine g_iload_n (pc9 := 63) C rfl 0 dJ6_numberOfTrailingZeros_0f7a4_62 rfl rfl ?_
          refine g_iconst (pc9 := 64) C rfl (nI (4)) dJ6_numberOfTrailingZeros_0f7a4_63 rfl ?_
          rw [show nz2 ((((((((x) ^^^ ((-1))) &&& ((x) - (nI (1)))).toUInt32 >>> ((nI (16)).toUInt32 &&& Int32.toUInt32 31)).toInt32).toUInt32 >>> ((nI (4)).toUInt32 &&& Int32.toUInt32 31)).toInt32), 1 + 16 + 4) (nI 4) 2 = if ((((((x) ^^^ ((-1))) &&& ((x) - (nI (1)))).toUInt32 >>> ((nI (16)).toUInt32 &&& Int32.toUInt32 31)).toInt32).toUInt32 >>> ((nI (4)).toUInt32 &&& Int32.toUInt32 31)).toInt32 ≤ nI 4 then ((((((((x) ^^^ ((-1))) &&& ((x) - (nI (1)))).toUInt32 >>> ((nI (16)).toUInt32 &&& Int32.toUInt32 31)).toInt32).toUInt32 >>> ((nI (4)).toUInt32 &&& Int32.toUInt32 31)).toInt32), 1 + 16 + 4) else (((((((((x) ^^^ ((-1))) &&& ((x) - (nI (1)))).toUInt32 >>> ((nI (16)).toUInt32 &&& Int32.toUInt32 31)).toInt32).toUInt32 >>> ((nI (4)).toUInt32 &&& Int32.toUInt32 31)).toInt32).toUInt32 >>> ((nI (2)).toUInt32 &&& Int32.toUInt32 31)).toInt32, 1 + 16 + 4 + 2) from rfl] at hN
          refine g_icmp_le (pc9 := 67) C rfl 74 dJ6_numberOfTrailingZeros_0f7a4_64 rfl (fun c_13 => ?_) (fun c_13 => ?_)
          · rw [if_pos c_13] at hN
            refine g_iload_n (pc9 := 75) C rfl 1 dJ6_numberOfTrailingZeros_0f7a4_74 rfl rfl ?_
            refine g_iload_n (pc9 := 76) C rfl 0 dJ6_numberOfTrailingZeros_0f7a4_75 rfl rfl ?_
            refine g_iconst (pc9 := 77) C rfl (nI (1)) dJ6_numberOfTrailingZeros_0f7a4_76 rfl ?_
            refine g_iushr (pc9 := 78) C rfl (((((((((x) ^^^ ((-1))) &&& ((x) - (nI (1)))).toUInt32 >>> ((nI (16)).toUInt32 &&& Int32.toUInt32 31)).toInt32).toUInt32 >>> ((nI (4)).toUInt32 &&& Int32.toUInt32 31)).toInt32).toUInt32 >>> ((nI (1)).toUInt32 &&& Int32.toUInt32 31)).toInt32) dJ6_numberOfTrailingZeros_0f7a4_77 rfl ?_
            refine g_iadd (pc9 := 79) C rfl dJ6_numberOfTrailingZeros_0f7a4_78 ?_
            exact g_ireturn C hr hlk dJ6_numberOfTrailingZeros_0f7a4_79 ⟨rfl, hN.symm⟩
          · rw [if_neg c_13] at hN
            refine g_iinc (pc9 := 70) C rfl [(1, .int (nI (1 + 16 + 4 + 2))), (0, .int (((((((x) ^^^ ((-1))) &&& ((x) - (nI (1)))).toUInt32 >>> ((nI (16)).toUInt32 &&& Int32.toUInt32 31)).toInt32).toUInt32 >>> ((nI (4)).toUInt32 &&& Int32.toUInt32 31)).toInt32))] 1 (nI (1 + 16 + 4 + 2)) dJ6_numberOfTrailingZeros_0f7a4_67 rfl (nI_add (1 + 16 + 4) 2) (by decide) rfl ?_
            refine g_iload_n (pc9 := 71) C rfl 1 dJ6_numberOfTrailingZeros_0f7a4_70 rfl rfl ?_
            refine g_iconst (pc9 := 72) C rfl (nI (2)) dJ6_numberOfTrailingZeros_0f7a4_71 rfl ?_
            refine g_iushr (pc9 := 73) C rfl (((((((((x) ^^^ ((-1))) &&& ((x) - (nI (1)))).toUInt32 >>> ((nI (16)).toUInt32 &&& Int32.toUInt32 31)).toInt32).toUInt32 >>> ((nI (4)).toUInt32 &&& Int32.toUInt32 31)).toInt32).toUInt32 >>> ((nI (2)).toUInt32 &&& Int32.toUInt32 31)).toInt32) dJ6_numberOfTrailingZeros_0f7a4_72 rfl ?_
            refine g_istore_n (pc9 := 74) C rfl [(0, .int (((((((((x) ^^^ ((-1))) &&& ((x) - (nI (1)))).toUInt32 >>> ((nI (16)).toUInt32 &&& Int32.toUInt32 31)).toInt32).toUInt32 >>> ((nI (4)).toUInt32 &&& Int32.toUInt32 31)).toInt32).toUInt32 >>> ((nI (2)).toUInt32 &&& Int32.toUInt32 31)).toInt32)), (1, .int (nI (1 + 16 + 4 + 2)))] dJ6_numberOfTrailingZeros_0f7a4_73 rfl (by decide) rfl ?_
            refine g_iload_n (pc9 := 75) C rfl 1 dJ6_numberOfTrailingZeros_0f7a4_74 rfl rfl ?_
            refine g_iload_n (pc9 := 76) C rfl 0 dJ6_numberOfTrailingZeros_0f7a4_75 rfl rfl ?_
            refine g_iconst (pc9 := 77) C rfl (nI (1)) dJ6_numberOfTrailingZeros_0f7a4_76 rfl ?_
            refine g_iushr (pc9 := 78) C rfl (((((((((((x) ^^^ ((-1))) &&& ((x) - (nI (1)))).toUInt32 >>> ((nI (16)).toUInt32 &&& Int32.toUInt32 31)).toInt32).toUInt32 >>> ((nI (4)).toUInt32 &&& Int32.toUInt32 31)).toInt32).toUInt32 >>> ((nI (2)).toUInt32 &&& Int32.toUInt32 31)).toInt32).toUInt32 >>> ((nI (1)).toUInt32 &&& Int32.toUInt32 31)).toInt32) dJ6_numberOfTrailingZeros_0f7a4_77 rfl ?_
            refine g_iadd (pc9 := 79) C rfl dJ6_numberOfTrailingZeros_0f7a4_78 ?_
            exact g_ireturn C hr hlk dJ6_numberOfTrailingZeros_0f7a4_79 ⟨rfl, hN.symm⟩
      · rw [if_neg c_10] at hN
        refine g_iinc (pc9 := 44) C rfl [(1, .int (nI (1 + 16 + 8))), (0, .int (((((x) ^^^ ((-1))) &&& ((x) - (nI (1)))).toUInt32 >>> ((nI (16)).toUInt32 &&& Int32.toUInt32 31)).toInt32))] 1 (nI (1 + 16 + 8)) dJ6_numberOfTrailingZeros_0f7a4_41 rfl (nI_add (1 + 16) 8) (by decide) rfl ?_
        refine g_iload_n (pc9 := 45) C rfl 1 dJ6_numberOfTrailingZeros_0f7a4_44 rfl rfl ?_
        refine g_bipush (pc9 := 47) C rfl (nI (8)) dJ6_numberOfTrailingZeros_0f7a4_45 rfl ?_
        refine g_iushr (pc9 := 48) C rfl (((((((x) ^^^ ((-1))) &&& ((x) - (nI (1)))).toUInt32 >>> ((nI (16)).toUInt32 &&& Int32.toUInt32 31)).toInt32).toUInt32 >>> ((nI (8)).toUInt32 &&& Int32.toUInt32 31)).toInt32) dJ6_numberOfTrailingZeros_0f7a4_47 rfl ?_
        refine g_istore_n (pc9 := 49) C rfl [(0, .int (((((((x) ^^^ ((-1))) &&& ((x) - (nI (1)))).toUInt32 >>> ((nI (16)).toUInt32 &&& Int32.toUInt32 31)).toInt32).toUInt32 >>> ((nI (8)).toUInt32 &&& Int32.toUInt32 31)).toInt32)), (1, .int (nI (1 + 16 + 8)))] dJ6_numberOfTrailingZeros_0f7a4_48 rfl (by decide) rfl ?_
        refine g_iload_n (pc9 := 50) C rfl 0 dJ6_numberOfTrailingZeros_0f7a4_49 rfl rfl ?_
        refine g_bipush (pc9 := 52) C rfl (nI (16)) dJ6_numberOfTrailingZeros_0f7a4_50 rfl ?_
        rw [show nz2 ((((((((x) ^^^ ((-1))) &&& ((x) - (nI (1)))).toUInt32 >>> ((nI (16)).toUInt32 &&& Int32.toUInt32 31)).toInt32).toUInt32 >>> ((nI (8)).toUInt32 &&& Int32.toUInt32 31)).toInt32), 1 + 16 + 8) (nI 16) 4 = if ((((((x) ^^^ ((-1))) &&& ((x) - (nI (1)))).toUInt32 >>> ((nI (16)).toUInt32 &&& Int32.toUInt32 31)).toInt32).toUInt32 >>> ((nI (8)).toUInt32 &&& Int32.toUInt32 31)).toInt32 ≤ nI 16 then ((((((((x) ^^^ ((-1))) &&& ((x) - (nI (1)))).toUInt32 >>> ((nI (16)).toUInt32 &&& Int32.toUInt32 31)).toInt32).toUInt32 >>> ((nI (8)).toUInt32 &&& Int32.toUInt32 31)).toInt32), 1 + 16 + 8) else (((((((((x) ^^^ ((-1))) &&& ((x) - (nI (1)))).toUInt32 >>> ((nI (16)).toUInt32 &&& Int32.toUInt32 31)).toInt32).toUInt32 >>> ((nI (8)).toUInt32 &&& Int32.toUInt32 31)).toInt32).toUInt32 >>> ((nI (4)).toUInt32 &&& Int32.toUInt32 31)).toInt32, 1 + 16 + 8 + 4) from rfl] at hN
        refine g_icmp_le (pc9 := 55) C rfl 62 dJ6_numberOfTrailingZeros_0f7a4_52 rfl (fun c_14 => ?_) (fun c_14 => ?_)
        · rw [if_pos c_14] at hN
          refine g_iload_n (pc9 := 63) C rfl 0 dJ6_numberOfTrailingZeros_0f7a4_62 rfl rfl ?_
          refine g_iconst (pc9 := 64) C rfl (nI (4)) dJ6_numberOfTrailingZeros_0f7a4_63 rfl ?_
          rw [show nz2 ((((((((x) ^^^ ((-1))) &&& ((x) - (nI (1)))).toUInt32 >>> ((nI (16)).toUInt32 &&& Int32.toUInt32 31)).toInt32).toUInt32 >>> ((nI (8)).toUInt32 &&& Int32.toUInt32 31)).toInt32), 1 + 16 + 8) (nI 4) 2 = if ((((((x) ^^^ ((-1))) &&& ((x) - (nI (1)))).toUInt32 >>> ((nI (16)).toUInt32 &&& Int32.toUInt32 31)).toInt32).toUInt32 >>> ((nI (8)).toUInt32 &&& Int32.toUInt32 31)).toInt32 ≤ nI 4 then ((((((((x) ^^^ ((-1))) &&& ((x) - (nI (1)))).toUInt32 >>> ((nI (16)).toUInt32 &&& Int32.toUInt32 31)).toInt32).toUInt32 >>> ((nI (8)).toUInt32 &&& Int32.toUInt32 31)).toInt32), 1 + 16 + 8) else (((((((((x) ^^^ ((-1))) &&& ((x) - (nI (1)))).toUInt32 >>> ((nI (16)).toUInt32 &&& Int32.toUInt32 31)).toInt32).toUInt32 >>> ((nI (8)).toUInt32 &&& Int32.toUInt32 31)).toInt32).toUInt32 >>> ((nI (2)).toUInt32 &&& Int32.toUInt32 31)).toInt32, 1 + 16 + 8 + 2) from rfl] at hN
          refine g_icmp_le (pc9 := 67) C rfl 74 dJ6_numberOfTrailingZeros_0f7a4_64 rfl (fun c_15 => ?_) (fun c_15 => ?_)
          · rw [if_pos c_15] at hN
            refine g_iload_n (pc9 := 75) C rfl 1 dJ6_numberOfTrailingZeros_0f7a4_74 rfl rfl ?_
            refine g_iload_n (pc9 := 76) C rfl 0 dJ6_numberOfTrailingZeros_0f7a4_75 rfl rfl ?_
            refine g_iconst (pc9 := 77) C rfl (nI (1)) dJ6_numberOfTrailingZeros_0f7a4_76 rfl ?_
            refine g_iushr (pc9 := 78) C rfl (((((((((x) ^^^ ((-1))) &&& ((x) - (nI (1)))).toUInt32 >>> ((nI (16)).toUInt32 &&& Int32.toUInt32 31)).toInt32).toUInt32 >>> ((nI (8)).toUInt32 &&& Int32.toUInt32 31)).toInt32).toUInt32 >>> ((nI (1)).toUInt32 &&& Int32.toUInt32 31)).toInt32) dJ6_numberOfTrailingZeros_0f7a4_77 rfl ?_
            refine g_iadd (pc9 := 79) C rfl dJ6_numberOfTrailingZeros_0f7a4_78 ?_
            exact g_ireturn C hr hlk dJ6_numberOfTrailingZeros_0f7a4_79 ⟨rfl, hN.symm⟩
          · rw [if_neg c_15] at hN
            refine g_iinc (pc9 := 70) C rfl [(1, .int (nI (1 + 16 + 8 + 2))), (0, .int (((((((x) ^^^ ((-1))) &&& ((x) - (nI (1)))).toUInt32 >>> ((nI (16)).toUInt32 &&& Int32.toUInt32 31)).toInt32).toUInt32 >>> ((nI (8)).toUInt32 &&& Int32.toUInt32 31)).toInt32))] 1 (nI (1 + 16 + 8 + 2)) dJ6_numberOfTrailingZeros_0f7a4_67 rfl (nI_add (1 + 16 + 8) 2) (by decide) rfl ?_
            refine g_iload_n (pc9 := 71) C rfl 1 dJ6_numberOfTrailingZeros_0f7a4_70 rfl rfl ?_
            refine g_iconst (pc9 := 72) C rfl (nI (2)) dJ6_numberOfTrailingZeros_0f7a4_71 rfl ?_
            refine g_iushr (pc9 := 73) C rfl (((((((((x) ^^^ ((-1))) &&& ((x) - (nI (1)))).toUInt32 >>> ((nI (16)).toUInt32 &&& Int32.toUInt32 31)).toInt32).toUInt32 >>> ((nI (8)).toUInt32 &&& Int32.toUInt32 31)).toInt32).toUInt32 >>> ((nI (2)).toUInt32 &&& Int32.toUInt32 31)).toInt32) dJ6_numberOfTrailingZeros_0f7a4_72 rfl ?_
            refine g_istore_n (pc9 := 74) C rfl [(0, .int (((((((((x) ^^^ ((-1))) &&& ((x) - (nI (1)))).toUInt32 >>> ((nI (16)).toUInt32 &&& Int32.toUInt32 31)).toInt32).toUInt32 >>> ((nI (8)).toUInt32 &&& Int32.toUInt32 31)).toInt32).toUInt32 >>> ((nI (2)).toUInt32 &&& Int32.toUInt32 31)).toInt32)), (1, .int (nI (1 + 16 + 8 + 2)))] dJ6_numberOfTrailingZeros_0f7a4_73 rfl (by decide) rfl ?_
            refine g_iload_n (pc9 := 75) C rfl 1 dJ6_numberOfTrailingZeros_0f7a4_74 rfl rfl ?_
            refine g_iload_n (pc9 := 76) C rfl 0 dJ6_numberOfTrailingZeros_0f7a4_75 rfl rfl ?_
            refine g_iconst (pc9 := 77) C rfl (nI (1)) dJ6_numberOfTrailingZeros_0f7a4_76 rfl ?_
            refine g_iushr (pc9 := 78) C rfl (((((((((((x) ^^^ ((-1))) &&& ((x) - (nI (1)))).toUInt32 >>> ((nI (16)).toUInt32 &&& Int32.toUInt32 31)).toInt32).toUInt32 >>> ((nI (8)).toUInt32 &&& Int32.toUInt32 31)).toInt32).toUInt32 >>> ((nI (2)).toUInt32 &&& Int32.toUInt32 31)).toInt32).toUInt32 >>> ((nI (1)).toUInt32 &&& Int32.toUInt32 31)).toInt32) dJ6_numberOfTrailingZeros_0f7a4_77 rfl ?_
            refine g_iadd (pc9 := 79) C rfl dJ6_numberOfTrailingZeros_0f7a4_78 ?_
            exact g_ireturn C hr hlk dJ6_numberOfTrailingZeros_0f7a4_79 ⟨rfl, hN.symm⟩
        · rw [if_neg c_14] at hN
          refine g_iinc (pc9 := 58) C rfl [(1, .int (nI (1 + 16 + 8 + 4))), (0, .int (((((((x) ^^^ ((-1))) &&& ((x) - (nI (1)))).toUInt32 >>> ((nI (16)).toUInt32 &&& Int32.toUInt32 31)).toInt32).toUInt32 >>> ((nI (8)).toUInt32 &&& Int32.toUInt32 31)).toInt32))] 1 (nI (1 + 16 + 8 + 4)) dJ6_numberOfTrailingZeros_0f7a4_55 rfl (nI_add (1 + 16 + 8) 4) (by decide) rfl ?_
          refine g_iload_n (pc9 := 59) C rfl 1 dJ6_numberOfTrailingZeros_0f7a4_58 rfl rfl ?_
          refine g_iconst (pc9 := 60) C rfl (nI (4)) dJ6_numberOfTrailingZeros_0f7a4_59 rfl ?_
          refine g_iushr (pc9 := 61) C rfl (((((((((x) ^^^ ((-1))) &&& ((x) - (nI (1)))).toUInt32 >>> ((nI (16)).toUInt32 &&& Int32.toUInt32 31)).toInt32).toUInt32 >>> ((nI (8)).toUInt32 &&& Int32.toUInt32 31)).toInt32).toUInt32 >>> ((nI (4)).toUInt32 &&& Int32.toUInt32 31)).toInt32) dJ6_numberOfTrailingZeros_0f7a4_60 rfl ?_
          refine g_istore_n (pc9 := 62) C rfl [(0, .int (((((((((x) ^^^ ((-1))) &&& ((x) - (nI (1)))).toUInt32 >>> ((nI (16)).toUInt32 &&& Int32.toUInt32 31)).toInt32).toUInt32 >>> ((nI (8)).toUInt32 &&& Int32.toUInt32 31)).toInt32).toUInt32 >>> ((nI (4)).toUInt32 &&& Int32.toUInt32 31)).toInt32)), (1, .int (nI (1 + 16 + 8 + 4)))] dJ6_numberOfTrailingZeros_0f7a4_61 rfl (by decide) rfl ?_
          refine g_iload_n (pc9 := 63) C rfl 0 dJ6_numberOfTrailingZeros_0f7a4_62 rfl rfl ?_
          refine g_iconst (pc9 := 64) C rfl (nI (4)) dJ6_numberOfTrailingZeros_0f7a4_63 rfl ?_
          rw [show nz2 ((((((((((x) ^^^ ((-1))) &&& ((x) - (nI (1)))).toUInt32 >>> ((nI (16)).toUInt32 &&& Int32.toUInt32 31)).toInt32).toUInt32 >>> ((nI (8)).toUInt32 &&& Int32.toUInt32 31)).toInt32).toUInt32 >>> ((nI (4)).toUInt32 &&& Int32.toUInt32 31)).toInt32), 1 + 16 + 8 + 4) (nI 4) 2 = if ((((((((x) ^^^ ((-1))) &&& ((x) - (nI (1)))).toUInt32 >>> ((nI (16)).toUInt32 &&& Int32.toUInt32 31)).toInt32).toUInt32 >>> ((nI (8)).toUInt32 &&& Int32.toUInt32 31)).toInt32).toUInt32 >>> ((nI (4)).toUInt32 &&& Int32.toUInt32 31)).toInt32 ≤ nI 4 then ((((((((((x) ^^^ ((-1))) &&& ((x) - (nI (1)))).toUInt32 >>> ((nI (16)).toUInt32 &&& Int32.toUInt32 31)).toInt32).toUInt32 >>> ((nI (8)).toUInt32 &&& Int32.toUInt32 31)).toInt32).toUInt32 >>> ((nI (4)).toUInt32 &&& Int32.toUInt32 31)).toInt32), 1 + 16 + 8 + 4) else (((((((((((x) ^^^ ((-1))) &&& ((x) - (nI (1)))).toUInt32 >>> ((nI (16)).toUInt32 &&& Int32.toUInt32 31)).toInt32).toUInt32 >>> ((nI (8)).toUInt32 &&& Int32.toUInt32 31)).toInt32).toUInt32 >>> ((nI (4)).toUInt32 &&& Int32.toUInt32 31)).toInt32).toUInt32 >>> ((nI (2)).toUInt32 &&& Int32.toUInt32 31)).toInt32, 1 + 16 + 8 + 4 + 2) from rfl] at hN
          refine g_icmp_le (pc9 := 67) C rfl 74 dJ6_numberOfTrailingZeros_0f7a4_64 rfl (fun c_16 => ?_) (fun c_16 => ?_)
          · rw [if_pos c_16] at hN
            refine g_iload_n (pc9 := 75) C rfl 1 dJ6_numberOfTrailingZeros_0f7a4_74 rfl rfl ?_
            refine g_iload_n (pc9 := 76) C rfl 0 dJ6_numberOfTrailingZeros_0f7a4_75 rfl rfl ?_
            refine g_iconst (pc9 := 77) C rfl (nI (1)) dJ6_numberOfTrailingZeros_0f7a4_76 rfl ?_
            refine g_iushr (pc9 := 78) C rfl (((((((((((x) ^^^ ((-1))) &&& ((x) - (nI (1)))).toUInt32 >>> ((nI (16)).toUInt32 &&& Int32.toUInt32 31)).toInt32).toUInt32 >>> ((nI (8)).toUInt32 &&& Int32.toUInt32 31)).toInt32).toUInt32 >>> ((nI (4)).toUInt32 &&& Int32.toUInt32 31)).toInt32).toUInt32 >>> ((nI (1)).toUInt32 &&& Int32.toUInt32 31)).toInt32) dJ6_numberOfTrailingZeros_0f7a4_77 rfl ?_
            refine g_iadd (pc9 := 79) C rfl dJ6_numberOfTrailingZeros_0f7a4_78 ?_
            exact g_ireturn C hr hlk dJ6_numberOfTrailingZeros_0f7a4_79 ⟨rfl, hN.symm⟩
          · rw [if_neg c_16] at hN
            refine g_iinc (pc9 := 70) C rfl [(1, .int (nI (1 + 16 + 8 + 4 + 2))), (0, .int (((((((((x) ^^^ ((-1))) &&& ((x) - (nI (1)))).toUInt32 >>> ((nI (16)).toUInt32 &&& Int32.toUInt32 31)).toInt32).toUInt32 >>> ((nI (8)).toUInt32 &&& Int32.toUInt32 31)).toInt32).toUInt32 >>> ((nI (4)).toUInt32 &&& Int32.toUInt32 31)).toInt32))] 1 (nI (1 + 16 + 8 + 4 + 2)) dJ6_numberOfTrailingZeros_0f7a4_67 rfl (nI_add (1 + 16 + 8 + 4) 2) (by decide) rfl ?_
            refine g_iload_n (pc9 := 71) C rfl 1 dJ6_numberOfTrailingZeros_0f7a4_70 rfl rfl ?_
            refine g_iconst (pc9 := 72) C rfl (nI (2)) dJ6_numberOfTrailingZeros_0f7a4_71 rfl ?_
            refine g_iushr (pc9 := 73) C rfl (((((((((((x) ^^^ ((-1))) &&& ((x) - (nI (1)))).toUInt32 >>> ((nI (16)).toUInt32 &&& Int32.toUInt32 31)).toInt32).toUInt32 >>> ((nI (8)).toUInt32 &&& Int32.toUInt32 31)).toInt32).toUInt32 >>> ((nI (4)).toUInt32 &&& Int32.toUInt32 31)).toInt32).toUInt32 >>> ((nI (2)).toUInt32 &&& Int32.toUInt32 31)).toInt32) dJ6_numberOfTrailingZeros_0f7a4_72 rfl ?_
            refine g_istore_n (pc9 := 74) C rfl [(0, .int (((((((((((x) ^^^ ((-1))) &&& ((x) - (nI (1)))).toUInt32 >>> ((nI (16)).toUInt32 &&& Int32.toUInt32 31)).toInt32).toUInt32 >>> ((nI (8)).toUInt32 &&& Int32.toUInt32 31)).toInt32).toUInt32 >>> ((nI (4)).toUInt32 &&& Int32.toUInt32 31)).toInt32).toUInt32 >>> ((nI (2)).toUInt32 &&& Int32.toUInt32 31)).toInt32)), (1, .int (nI (1 + 16 + 8 + 4 + 2)))] dJ6_numberOfTrailingZeros_0f7a4_73 rfl (by decide) rfl ?_
            refine g_iload_n (pc9 := 75) C rfl 1 dJ6_numberOfTrailingZeros_0f7a4_74 rfl rfl ?_
            refine g_iload_n (pc9 := 76) C rfl 0 dJ6_numberOfTrailingZeros_0f7a4_75 rfl rfl ?_
            refine g_iconst (pc9 := 77) C rfl (nI (1)) dJ6_numberOfTrailingZeros_0f7a4_76 rfl ?_
            refine g_iushr (pc9 := 78) C rfl (((((((((((((x) ^^^ ((-1))) &&& ((x) - (nI (1)))).toUInt32 >>> ((nI (16)).toUInt32 &&& Int32.toUInt32 31)).toInt32).toUInt32 >>> ((nI (8)).toUInt32 &&& Int32.toUInt32 31)).toInt32).toUInt32 >>> ((nI (4)).toUInt32 &&& Int32.toUInt32 31)).toInt32).toUInt32 >>> ((nI (2)).toUInt32 &&& Int32.toUInt32 31)).toInt32).toUInt32 >>> ((nI (1)).toUInt32 &&& Int32.toUInt32 31)).toInt32) dJ6_numberOfTrailingZeros_0f7a4_77 rfl ?_
            refine g_iadd (pc9 := 79) C rfl dJ6_numberOfTrailingZeros_0f7a4_78 ?_
            exact g_ireturn C hr hlk dJ6_numberOfTrailingZeros_0f7a4_79 ⟨rfl, hN.symm⟩
  · rw [if_neg c_1] at hN
    refine g_iload_n (pc9 := 13) C rfl 0 dJ6_numberOfTrailingZeros_0f7a4_12 rfl rfl ?_
    refine g_bipush (pc9 := 15) C rfl (nI (32)) dJ6_numberOfTrailingZeros_0f7a4_13 rfl ?_
    refine g_iand (pc9 := 16) C rfl dJ6_numberOfTrailingZeros_0f7a4_15 ?_
    exact g_ireturn C hr hlk dJ6_numberOfTrailingZeros_0f7a4_16 ⟨rfl, hN.symm⟩
def srt (f : Nat → Int32) : Nat → (Nat → Int32)
  | 0 => f
  | k + 1 => insF (srt f k k) k (srt f k)
theorem upd_self {f : Nat → Int32} {k : Nat} : upd f k (f k) = f := by
  funext i
  unfold upd
  split
  · rename_i h; rw [h]
  · rfl
theorem srt_1 {f : Nat → Int32} : srt f 1 = f := upd_self
def mAr (g : Nat → Int32) (y : Int32) : Nat → Int32
  | 0 => -1
  | i + 1 => if y &&& (g i ^^^ (-1)) = 0 then nI i else mAr g y i
def mKd (y : Int32) : Int32 := if bC y = nI 1 then ntz y else -1
abbrev puP (g : Nat → Int32) : Nat → Int32 := fun k => mAr g (g k) k
abbrev puK (g : Nat → Int32) : Nat → Int32 := fun k => mKd (g k)
def puS (σ : St) (F : Fam) (i : Nat) : St := sI (sI (sI (msSt σ (F.1, srt F.2 F.1)) 2 (upd (iA σ 2) i (nI F.1))) 3 (put47 (puP (srt F.2 F.1)) (iA σ 3) i F.1)) 4 (put47 (puK (srt F.2 F.1)) (iA σ 4) i F.1)
theorem puS_0 (σ : St) (F : Fam) (i : Nat) : sI (sI (sI (msSt σ (F.1, srt F.2 F.1)) 2 (upd (iA σ 2) i (nI F.1))) 3 (iA σ 3)) 4 (iA σ 4) = sI (msSt σ (F.1, srt F.2 F.1)) 2 (upd (iA σ 2) i (nI F.1)) := by
  have e3 : iA σ 3 = iA (sI (msSt σ (F.1, srt F.2 F.1)) 2 (upd (iA σ 2) i (nI F.1))) 3 := ((iA_n (by decide)).trans (iA_N.trans (iA_n (by decide)))).symm
  have e4 : iA σ 4 = iA (sI (msSt σ (F.1, srt F.2 F.1)) 2 (upd (iA σ 2) i (nI F.1))) 4 := ((iA_n (by decide)).trans (iA_N.trans (iA_n (by decide)))).symm
  rw [e3, sI_self, e4, sI_self]
set_option maxRecDepth 100000 in
set_option maxHeartbeats 4000000 in
theorem m_X11_puts (l : Launch) (w : Wd) (σ : St) (F : Fam) (h0 : 0 < F.1) (h47 : F.1 ≤ 47) (i : Nat) (hi : i < 8) : MV l yX11_puts wsX11_puts (rmL 2) w [.ref (w.1 (0)), .int (nI (i))] (sN (sI σ (13) ((F).2)) (0) 21 (nI ((F).1))) (fun σ9 => σ9 = puS σ F i) := by
  refine MV_of (cc := cX11_puts) (maxL := 5) (by decide) rfl (Nat.le_of_ble_eq_true rfl) ?_
  intro p e s m args below meth c A C hr hlk
  have C : Cx p s m args c w A cX11_puts RX11 5 wsX11_puts := C
  have hin_11 : ∀ u ∈ wsX110, u ∈ wsX11_puts := by decide +kernel
  have hl_17 : Cond.fieldLink RX11 17 "LineageBenchModel" "many" "[I" ∈ wsX11_puts := by decide +kernel
  have hl_21 : Cond.fieldLink RX11 21 "LineageBenchModel" "parent" "[I" ∈ wsX11_puts := by decide +kernel
  have hl_24 : Cond.fieldLink RX11 24 "LineageBenchModel" "kind" "[I" ∈ wsX11_puts := by decide +kernel
  have hl_54 : Cond.fieldLink RX11 54 "LineageBenchModel" "sets" "[I" ∈ wsX11_puts := by decide +kernel
  have hl_129 : Cond.fieldLink RX11 129 "LineageBenchModel" "setMany" "I" ∈ wsX11_puts := by decide +kernel
  refine g_st (σ9 := sN (sI σ (13) (srt F.2 1)) (0) 21 (nI (F.1))) (by rw [srt_1]) ?_
  refine g_iconst (pc9 := 1) C rfl (nI (1)) dX11_puts_0 rfl ?_
  refine g_istore_n (pc9 := 2) C rfl [(2, .int (nI (1))), (0, .ref (w.1 (0))), (1, .int (nI (i)))] dX11_puts_1 rfl (by decide) rfl ?_
  refine g_sub [0, 1, 2] [(2, .int (nI (1))), (0, .ref (w.1 (0))), (1, .int (nI (i)))] rfl ?_
  refine g_lp1 (α := Nat) (fun k => 0 < k ∧ k ≤ F.1) (fun k => F.1 - k) (fun k => G p l e _ s m args below meth c _ w A _ (sN (sI σ (13) (srt F.2 k)) (0) 21 (nI (F.1))) 0 0 2 [(2, .int (nI (k))), (0, .ref (w.1 (0))), (1, .int (nI (i)))] []) (fun k hI ih => ?_) (1) ⟨by decide, by omega⟩
  obtain ⟨hk0, hk⟩ := hI
  refine g_iload_n (pc9 := 3) C rfl 0 dX11_puts_2 rfl rfl ?_
  refine g_aload_n (pc9 := 4) C rfl 1 dX11_puts_3 rfl rfl ?_
  refine g_get (v := .int (nI (F.1))) (pc9 := 7) C rfl (0) 21 dX11_puts_4 (by decide) (ce_0 w (sN (sI σ (13) (srt F.2 k)) (0) 21 (nI (F.1)))) hin_11 hl_129 rfl (by decide) rfl (congrArg (fun z => some (Value.int z)) (nF_s)) ?_
  refine g_icmp_ge (pc9 := 10) C rfl 80 dX11_puts_7 rfl (fun c_1 => ?_) (fun c_1 => ?_)
  · replace c_1 := (nI_leI (by omega) (by omega)).mp c_1
    refine g_aload_n (pc9 := 81) C rfl 1 dX11_puts_80 rfl rfl ?_
    refine g_get (v := .ref (w.1 (2))) (pc9 := 84) C rfl (0) 5 dX11_puts_81 (by decide) (ce_0 w (sN (sI σ (13) (srt F.2 k)) (0) 21 (nI (F.1)))) hin_11 hl_17 rfl (by decide) rfl rfl ?_
    refine g_iload_n (pc9 := 85) C rfl 2 dX11_puts_84 rfl rfl ?_
    refine g_aload_n (pc9 := 86) C rfl 1 dX11_puts_85 rfl rfl ?_
    refine g_get (v := .int (nI (F.1))) (pc9 := 89) C rfl (0) 21 dX11_puts_86 (by decide) (ce_0 w (sN (sI σ (13) (srt F.2 k)) (0) 21 (nI (F.1)))) hin_11 hl_129 rfl (by decide) rfl (congrArg (fun z => some (Value.int z)) (nF_s)) ?_
    refine g_iast (pc9 := 90) C rfl (2) (i) (iA σ (2)) dX11_puts_89 (by decide) (fun _ => rfl) (ce_2 w (sN (sI σ (13) (srt F.2 k)) (0) 21 (nI (F.1)))) rfl (by omega) (by decide) ((iA_N).trans (iA_n (by decide))) ?_
    refine g_iconst (pc9 := 91) C rfl (nI (0)) dX11_puts_90 rfl ?_
    refine g_istore_n (pc9 := 92) C rfl [(2, .int (nI (0))), (0, .ref (w.1 (0))), (1, .int (nI (i)))] dX11_puts_91 rfl (by decide) rfl ?_
    have hkz : k = F.1 := by omega
    refine g_sub [0, 1, 2] [(2, .int (nI (0))), (0, .ref (w.1 (0))), (1, .int (nI (i)))] rfl ?_
    refine g_st (σ9 := sI (sI (sI (sN (sI σ (13) (srt F.2 F.1)) (0) 21 (nI (F.1))) (2) (upd (iA σ 2) i (nI (F.1)))) (3) (put47 (puP (srt F.2 F.1)) (iA σ 3) i (0))) (4) (put47 (puK (srt F.2 F.1)) (iA σ 4) i (0))) (by rw [hkz, put47_0, put47_0]; exact (by first | rfl | exact (puS_0 σ F i).symm)) ?_
    refine g_lp1 (α := Nat) (fun v => v ≤ F.1) (fun v => F.1 - v) (fun v => G p l e _ s m args below meth c _ w A _ (sI (sI (sI (sN (sI σ (13) (srt F.2 F.1)) (0) 21 (nI (F.1))) (2) (upd (iA σ 2) i (nI (F.1)))) (3) (put47 (puP (srt F.2 F.1)) (iA σ 3) i (v))) (4) (put47 (puK (srt F.2 F.1)) (iA σ 4) i (v))) 0 0 92 [(2, .int (nI (v))), (0, .ref (w.1 (0))), (1, .int (nI (i)))] []) (fun v hI ih2 => ?_) (0) (Nat.zero_le _)
    obtain hv := hI
    refine g_iload_n (pc9 := 93) C rfl 0 dX11_puts_92 rfl rfl ?_
    refine g_aload_n (pc9 := 94) C rfl 1 dX11_puts_93 rfl rfl ?_
    refine g_get (v := .int (nI (F.1))) (pc9 := 97) C rfl (0) 21 dX11_puts_94 (by decide) (ce_0 w (sI (sI (sI (sN (sI σ (13) (srt F.2 F.1)) (0) 21 (nI (F.1))) (2) (upd (iA σ 2) i (nI (F.1)))) (3) (put47 (puP (srt F.2 F.1)) (iA σ 3) i (v))) (4) (put47 (puK (srt F.2 F.1)) (iA σ 4) i (v)))) hin_11 hl_129 rfl (by decide) rfl (congrArg (fun z => some (Value.int z)) ((((nF_I).trans (nF_I)).trans (nF_I)).trans (nF_s))) ?_
    refine g_icmp_ge (pc9 := 100) C rfl 194 dX11_puts_97 rfl (fun c_2 => ?_) (fun c_2 => ?_)
    · replace c_2 := (nI_leI (by omega) (by omega)).mp c_2
      exact g_return C hr hlk dX11_puts_194 (by rw [show v = F.1 by omega]; rfl)
    · replace c_2 := (not_congr (nI_leI (by omega) (by omega))).mp c_2
      refine g_iconst (pc9 := 101) C rfl ((-1)) dX11_puts_100 rfl ?_
      refine g_istore_n (pc9 := 102) C rfl [(3, .int ((-1))), (2, .int (nI (v))), (0, .ref (w.1 (0))), (1, .int (nI (i)))] dX11_puts_101 rfl (by decide) rfl ?_
      refine g_iconst (pc9 := 103) C rfl (nI (0)) dX11_puts_102 rfl ?_
      refine g_istore (pc9 := 105) C rfl [(4, .int (nI (0))), (3, .int ((-1))), (2, .int (nI (v))), (0, .ref (w.1 (0))), (1, .int (nI (i)))] dX11_puts_103 (by decide) rfl ?_
      refine g_sub [0, 1, 2, 3, 4] [(4, .int (nI (0))), (3, .int ((-1))), (2, .int (nI (v))), (0, .ref (w.1 (0))), (1, .int (nI (i)))] rfl ?_
      refine g_lp1 (α := Nat) (fun u => u ≤ v) (fun u => v - u) (fun u => G p l e _ s m args below meth c _ w A _ (sI (sI (sI (sN (sI σ (13) (srt F.2 F.1)) (0) 21 (nI (F.1))) (2) (upd (iA σ 2) i (nI (F.1)))) (3) (put47 (puP (srt F.2 F.1)) (iA σ 3) i (v))) (4) (put47 (puK (srt F.2 F.1)) (iA σ 4) i (v))) 0 0 105 [(4, .int (nI (u))), (3, .int (mAr (srt F.2 F.1) (srt F.2 F.1 v) u)), (2, .int (nI (v))), (0, .ref (w.1 (0))), (1, .int (nI (i)))] []) (fun u hI ih3 => ?_) (0) (Nat.zero_le _)
      obtain hu := hI
      refine g_iload (pc9 := 107) C rfl 0 dX11_puts_105 rfl ?_
      refine g_iload_n (pc9 := 108) C rfl 2 dX11_puts_107 rfl rfl ?_
      refine g_icmp_ge (pc9 := 111) C rfl 139 dX11_puts_108 rfl (fun c_3 => ?_) (fun c_3 => ?_)
      · replace c_3 := (nI_leI (by omega) (by omega)).mp c_3
        have huv : u = v := by omega
        refine g_aload_n (pc9 := 140) C rfl 3 dX11_puts_139 rfl rfl ?_
        refine g_get (v := .ref (w.1 (3))) (pc9 := 143) C rfl (0) 6 dX11_puts_140 (by decide) (ce_0 w (sI (sI (sI (sN (sI σ (13) (srt F.2 F.1)) (0) 21 (nI (F.1))) (2) (upd (iA σ 2) i (nI (F.1)))) (3) (put47 (puP (srt F.2 F.1)) (iA σ 3) i (v))) (4) (put47 (puK (srt F.2 F.1)) (iA σ 4) i (v)))) hin_11 hl_21 rfl (by decide) rfl rfl ?_
        refine g_bipush (pc9 := 145) C rfl (nI (47)) dX11_puts_143 rfl ?_
        refine g_iload_n (pc9 := 146) C rfl 4 dX11_puts_145 rfl rfl ?_
        refine g_imulN (pc9 := 147) C rfl dX11_puts_146 ?_
        refine g_iload_n (pc9 := 148) C rfl 2 dX11_puts_147 rfl rfl ?_
        refine g_iaddN (pc9 := 149) C rfl dX11_puts_148 ?_
        refine g_iload_n (pc9 := 150) C rfl 1 dX11_puts_149 rfl rfl ?_
        refine g_iast (pc9 := 151) C rfl (3) ((47 * i) + v) (put47 (puP (srt F.2 F.1)) (iA σ 3) i (v)) dX11_puts_150 (by decide) (fun _ => rfl) (ce_3 w (sI (sI (sI (sN (sI σ (13) (srt F.2 F.1)) (0) 21 (nI (F.1))) (2) (upd (iA σ 2) i (nI (F.1)))) (3) (put47 (puP (srt F.2 F.1)) (iA σ 3) i (v))) (4) (put47 (puK (srt F.2 F.1)) (iA σ 4) i (v)))) rfl (by omega) (by decide) ((iA_n (by decide)).trans (iA_s)) ?_
        rw [sI_cm (a := 4) (b := 3) (by decide), sI_sI (a := 3)]
        refine g_aload_n (pc9 := 152) C rfl 3 dX11_puts_151 rfl rfl ?_
        refine g_get (v := .ref (w.1 (4))) (pc9 := 155) C rfl (0) 7 dX11_puts_152 (by decide) (ce_0 w (sI (sI (sI (sN (sI σ (13) (srt F.2 F.1)) (0) 21 (nI (F.1))) (2) (upd (iA σ 2) i (nI (F.1)))) (3) (upd (put47 (puP (srt F.2 F.1)) (iA σ 3) i (v)) ((47 * i) + v) (mAr (srt F.2 F.1) (srt F.2 F.1 v) u))) (4) (put47 (puK (srt F.2 F.1)) (iA σ 4) i (v)))) hin_11 hl_24 rfl (by decide) rfl rfl ?_
        refine g_bipush (pc9 := 157) C rfl (nI (47)) dX11_puts_155 rfl ?_
        refine g_iload_n (pc9 := 158) C rfl 4 dX11_puts_157 rfl rfl ?_
        refine g_imulN (pc9 := 159) C rfl dX11_puts_158 ?_
        refine g_iload_n (pc9 := 160) C rfl 2 dX11_puts_159 rfl rfl ?_
        refine g_iaddN (pc9 := 161) C rfl dX11_puts_160 ?_
        refine g_aload_n (pc9 := 162) C rfl 3 dX11_puts_161 rfl rfl ?_
        refine g_get (v := .ref (w.1 (13))) (pc9 := 165) C rfl (0) 20 dX11_puts_162 (by decide) (ce_0 w (sI (sI (sI (sN (sI σ (13) (srt F.2 F.1)) (0) 21 (nI (F.1))) (2) (upd (iA σ 2) i (nI (F.1)))) (3) (upd (put47 (puP (srt F.2 F.1)) (iA σ 3) i (v)) ((47 * i) + v) (mAr (srt F.2 F.1) (srt F.2 F.1 v) u))) (4) (put47 (puK (srt F.2 F.1)) (iA σ 4) i (v)))) hin_11 hl_54 rfl (by decide) rfl rfl ?_
        refine g_iload_n (pc9 := 166) C rfl 2 dX11_puts_165 rfl rfl ?_
        refine g_iald (x := (srt F.2 F.1) (v)) (pc9 := 167) C rfl (13) (v) dX11_puts_166 (by decide) (ce_13 w (sI (sI (sI (sN (sI σ (13) (srt F.2 F.1)) (0) 21 (nI (F.1))) (2) (upd (iA σ 2) i (nI (F.1)))) (3) (upd (put47 (puP (srt F.2 F.1)) (iA σ 3) i (v)) ((47 * i) + v) (mAr (srt F.2 F.1) (srt F.2 F.1 v) u))) (4) (put47 (puK (srt F.2 F.1)) (iA σ 4) i (v)))) rfl (by omega) (by decide) (congrFun (((((iA_n (by decide)).trans (iA_n (by decide))).trans (iA_n (by decide))).trans (iA_N)).trans (iA_s)) _) ?_
        refine g_callSi (nn := 1) (rest := [.int (nI ((47 * i) + v)), .ref (w.1 (4))]) (pc9 := 170) C rfl [.int ((srt F.2 F.1) (v))] rfl dX11_puts_167 (m_bitCount l w _ ((srt F.2 F.1) (v))) gX11_puts_J6_bitCount_0f7a4 rfl rfl rfl (by decide +kernel) ⟨by decide, by decide⟩ rfl (Nat.le_of_ble_eq_true rfl) ⟨by decide, by decide⟩ (fun r_4 σ_4 q_4 => ?_)
        obtain ⟨qs_4, qr_4⟩ := q_4
        rw [qs_4, qr_4]
        clear qs_4 qr_4
        refine g_iconst (pc9 := 171) C rfl (nI (1)) dX11_puts_170 rfl ?_
        refine g_icmp_ne (pc9 := 174) C rfl 186 dX11_puts_171 rfl (fun c_5 => ?_) (fun c_5 => ?_)
        · have hk9 : mKd (srt F.2 F.1 v) = -1 := if_neg c_5
          refine g_iconst (pc9 := 187) C rfl ((-1)) dX11_puts_186 rfl ?_
          refine g_iast (pc9 := 188) C rfl (4) ((47 * i) + v) (put47 (puK (srt F.2 F.1)) (iA σ 4) i (v)) dX11_puts_187 (by decide) (fun _ => rfl) (ce_4 w (sI (sI (sI (sN (sI σ (13) (srt F.2 F.1)) (0) 21 (nI (F.1))) (2) (upd (iA σ 2) i (nI (F.1)))) (3) (upd (put47 (puP (srt F.2 F.1)) (iA σ 3) i (v)) ((47 * i) + v) (mAr (srt F.2 F.1) (srt F.2 F.1 v) u))) (4) (put47 (puK (srt F.2 F.1)) (iA σ 4) i (v)))) rfl (by omega) (by decide) (iA_s) ?_
          rw [sI_sI (a := 4)]
          refine g_iinc (pc9 := 191) C rfl [(2, .int (nI (v + 1))), (4, .int (nI (u))), (3, .int (mAr (srt F.2 F.1) (srt F.2 F.1 v) u)), (0, .ref (w.1 (0))), (1, .int (nI (i)))] 2 (nI (v + 1)) dX11_puts_188 rfl (nI_1 (v)) (by decide) rfl ?_
          refine g_goto C 92 dX11_puts_191 rfl ?_
          refine g_sub [0, 3, 4] [(2, .int (nI (v + 1))), (0, .ref (w.1 (0))), (1, .int (nI (i)))] rfl ?_
          refine g_st (σ9 := sI (sI (sI (sN (sI σ (13) (srt F.2 F.1)) (0) 21 (nI (F.1))) (2) (upd (iA σ 2) i (nI (F.1)))) (3) (put47 (puP (srt F.2 F.1)) (iA σ 3) i (v + 1))) (4) (put47 (puK (srt F.2 F.1)) (iA σ 4) i (v + 1))) (by rw [← put47_s, ← put47_s, ← hk9]; rw [huv]) ?_
          exact ih2 (v + 1) (by omega) (by omega)
        · have hk9 : mKd (srt F.2 F.1 v) = ntz (srt F.2 F.1 v) := if_pos c_5
          refine g_aload_n (pc9 := 175) C rfl 3 dX11_puts_174 rfl rfl ?_
          refine g_get (v := .ref (w.1 (13))) (pc9 := 178) C rfl (0) 20 dX11_puts_175 (by decide) (ce_0 w (sI (sI (sI (sN (sI σ (13) (srt F.2 F.1)) (0) 21 (nI (F.1))) (2) (upd (iA σ 2) i (nI (F.1)))) (3) (upd (put47 (puP (srt F.2 F.1)) (iA σ 3) i (v)) ((47 * i) + v) (mAr (srt F.2 F.1) (srt F.2 F.1 v) u))) (4) (put47 (puK (srt F.2 F.1)) (iA σ 4) i (v)))) hin_11 hl_54 rfl (by decide) rfl rfl ?_
          refine g_iload_n (pc9 := 179) C rfl 2 dX11_puts_178 rfl rfl ?_
          refine g_iald (x := (srt F.2 F.1) (v)) (pc9 := 180) C rfl (13) (v) dX11_puts_179 (by decide) (ce_13 w (sI (sI (sI (sN (sI σ (13) (srt F.2 F.1)) (0) 21 (nI (F.1))) (2) (upd (iA σ 2) i (nI (F.1)))) (3) (upd (put47 (puP (srt F.2 F.1)) (iA σ 3) i (v)) ((47 * i) + v) (mAr (srt F.2 F.1) (srt F.2 F.1 v) u))) (4) (put47 (puK (srt F.2 F.1)) (iA σ 4) i (v)))) rfl (by omega) (by decide) (congrFun (((((iA_n (by decide)).trans (iA_n (by decide))).trans (iA_n (by decide))).trans (iA_N)).trans (iA_s)) _) ?_
          refine g_callSi (nn := 1) (rest := [.int (nI ((47 * i) + v)), .ref (w.1 (4))]) (pc9 := 183) C rfl [.int ((srt F.2 F.1) (v))] rfl dX11_puts_180 (m_ntz l w _ ((srt F.2 F.1) (v))) gX11_puts_J6_numberOfTrailingZeros_0f7a4 rfl rfl rfl (by decide +kernel) ⟨by decide, by decide⟩ rfl (Nat.le_of_ble_eq_true rfl) ⟨by decide, by decide⟩ (fun r_6 σ_6 q_6 => ?_)
          obtain ⟨qs_6, qr_6⟩ := q_6
          rw [qs_6, qr_6]
          clear qs_6 qr_6
          refine g_goto C 187 dX11_puts_183 rfl ?_
          refine g_iast (pc9 := 188) C rfl (4) ((47 * i) + v) (put47 (puK (srt F.2 F.1)) (iA σ 4) i (v)) dX11_puts_187 (by decide) (fun _ => rfl) (ce_4 w (sI (sI (sI (sN (sI σ (13) (srt F.2 F.1)) (0) 21 (nI (F.1))) (2) (upd (iA σ 2) i (nI (F.1)))) (3) (upd (put47 (puP (srt F.2 F.1)) (iA σ 3) i (v)) ((47 * i) + v) (mAr (srt F.2 F.1) (srt F.2 F.1 v) u))) (4) (put47 (puK (srt F.2 F.1)) (iA σ 4) i (v)))) rfl (by omega) (by decide) (iA_s) ?_
          rw [sI_sI (a := 4)]
          refine g_iinc (pc9 := 191) C rfl [(2, .int (nI (v + 1))), (4, .int (nI (u))), (3, .int (mAr (srt F.2 F.1) (srt F.2 F.1 v) u)), (0, .ref (w.1 (0))), (1, .int (nI (i)))] 2 (nI (v + 1)) dX11_puts_188 rfl (nI_1 (v)) (by decide) rfl ?_
          refine g_goto C 92 dX11_puts_191 rfl ?_
          refine g_sub [0, 3, 4] [(2, .int (nI (v + 1))), (0, .ref (w.1 (0))), (1, .int (nI (i)))] rfl ?_
          refine g_st (σ9 := sI (sI (sI (sN (sI σ (13) (srt F.2 F.1)) (0) 21 (nI (F.1))) (2) (upd (iA σ 2) i (nI (F.1)))) (3) (put47 (puP (srt F.2 F.1)) (iA σ 3) i (v + 1))) (4) (put47 (puK (srt F.2 F.1)) (iA σ 4) i (v + 1))) (by rw [← put47_s, ← put47_s, ← hk9]; rw [huv]) ?_
          exact ih2 (v + 1) (by omega) (by omega)
      · replace c_3 := (not_congr (nI_leI (by omega) (by omega))).mp c_3
        refine g_aload_n (pc9 := 112) C rfl 3 dX11_puts_111 rfl rfl ?_
        refine g_get (v := .ref (w.1 (13))) (pc9 := 115) C rfl (0) 20 dX11_puts_112 (by decide) (ce_0 w (sI (sI (sI (sN (sI σ (13) (srt F.2 F.1)) (0) 21 (nI (F.1))) (2) (upd (iA σ 2) i (nI (F.1)))) (3) (put47 (puP (srt F.2 F.1)) (iA σ 3) i (v))) (4) (put47 (puK (srt F.2 F.1)) (iA σ 4) i (v)))) hin_11 hl_54 rfl (by decide) rfl rfl ?_
        refine g_iload_n (pc9 := 116) C rfl 2 dX11_puts_115 rfl rfl ?_
        refine g_iald (x := (srt F.2 F.1) (v)) (pc9 := 117) C rfl (13) (v) dX11_puts_116 (by decide) (ce_13 w (sI (sI (sI (sN (sI σ (13) (srt F.2 F.1)) (0) 21 (nI (F.1))) (2) (upd (iA σ 2) i (nI (F.1)))) (3) (put47 (puP (srt F.2 F.1)) (iA σ 3) i (v))) (4) (put47 (puK (srt F.2 F.1)) (iA σ 4) i (v)))) rfl (by omega) (by decide) (congrFun (((((iA_n (by decide)).trans (iA_n (by decide))).trans (iA_n (by decide))).trans (iA_N)).trans (iA_s)) _) ?_
        refine g_aload_n (pc9 := 118) C rfl 3 dX11_puts_117 rfl rfl ?_
        refine g_get (v := .ref (w.1 (13))) (pc9 := 121) C rfl (0) 20 dX11_puts_118 (by decide) (ce_0 w (sI (sI (sI (sN (sI σ (13) (srt F.2 F.1)) (0) 21 (nI (F.1))) (2) (upd (iA σ 2) i (nI (F.1)))) (3) (put47 (puP (srt F.2 F.1)) (iA σ 3) i (v))) (4) (put47 (puK (srt F.2 F.1)) (iA σ 4) i (v)))) hin_11 hl_54 rfl (by decide) rfl rfl ?_
        refine g_iload (pc9 := 123) C rfl 0 dX11_puts_121 rfl ?_
        refine g_iald (x := (srt F.2 F.1) (u)) (pc9 := 124) C rfl (13) (u) dX11_puts_123 (by decide) (ce_13 w (sI (sI (sI (sN (sI σ (13) (srt F.2 F.1)) (0) 21 (nI (F.1))) (2) (upd (iA σ 2) i (nI (F.1)))) (3) (put47 (puP (srt F.2 F.1)) (iA σ 3) i (v))) (4) (put47 (puK (srt F.2 F.1)) (iA σ 4) i (v)))) rfl (by omega) (by decide) (congrFun (((((iA_n (by decide)).trans (iA_n (by decide))).trans (iA_n (by decide))).trans (iA_N)).trans (iA_s)) _) ?_
        refine g_iconst (pc9 := 125) C rfl ((-1)) dX11_puts_124 rfl ?_
        refine g_ixor (pc9 := 126) C rfl dX11_puts_125 ?_
        refine g_iand (pc9 := 127) C rfl dX11_puts_126 ?_
        refine g_if_ne (pc9 := 130) C rfl 133 dX11_puts_127 rfl (fun c_7 => ?_) (fun c_7 => ?_)
        · have hs : mAr (srt F.2 F.1) (srt F.2 F.1 v) (u + 1) = mAr (srt F.2 F.1) (srt F.2 F.1 v) u := if_neg c_7
          refine g_iinc (pc9 := 136) C rfl [(4, .int (nI (u + 1))), (3, .int (mAr (srt F.2 F.1) (srt F.2 F.1 v) u)), (2, .int (nI (v))), (0, .ref (w.1 (0))), (1, .int (nI (i)))] 0 (nI (u + 1)) dX11_puts_133 rfl (nI_1 (u)) (by decide) rfl ?_
          refine g_goto C 105 dX11_puts_136 rfl ?_
          refine g_sub [0, 1, 2, 3, 4] [(4, .int (nI (u + 1))), (3, .int (mAr (srt F.2 F.1) (srt F.2 F.1 v) u)), (2, .int (nI (v))), (0, .ref (w.1 (0))), (1, .int (nI (i)))] rfl ?_
          refine g_l2 hs.symm ?_
          exact ih3 (u + 1) (by omega) (by omega)
        · have hs : mAr (srt F.2 F.1) (srt F.2 F.1 v) (u + 1) = nI u := if_pos c_7
          refine g_iload (pc9 := 132) C rfl 0 dX11_puts_130 rfl ?_
          refine g_istore_n (pc9 := 133) C rfl [(3, .int (nI (u))), (4, .int (nI (u))), (2, .int (nI (v))), (0, .ref (w.1 (0))), (1, .int (nI (i)))] dX11_puts_132 rfl (by decide) rfl ?_
          refine g_iinc (pc9 := 136) C rfl [(4, .int (nI (u + 1))), (3, .int (nI (u))), (2, .int (nI (v))), (0, .ref (w.1 (0))), (1, .int (nI (i)))] 1 (nI (u + 1)) dX11_puts_133 rfl (nI_1 (u)) (by decide) rfl ?_
          refine g_goto C 105 dX11_puts_136 rfl ?_
          refine g_sub [0, 1, 2, 3, 4] [(4, .int (nI (u + 1))), (3, .int (nI (u))), (2, .int (nI (v))), (0, .ref (w.1 (0))), (1, .int (nI (i)))] rfl ?_
          refine g_l2 hs.symm ?_
          exact ih3 (u + 1) (by omega) (by omega)
  · replace c_1 := (not_congr (nI_leI (by omega) (by omega))).mp c_1
    refine g_aload_n (pc9 := 11) C rfl 1 dX11_puts_10 rfl rfl ?_
    refine g_get (v := .ref (w.1 (13))) (pc9 := 14) C rfl (0) 20 dX11_puts_11 (by decide) (ce_0 w (sN (sI σ (13) (srt F.2 k)) (0) 21 (nI (F.1)))) hin_11 hl_54 rfl (by decide) rfl rfl ?_
    refine g_iload_n (pc9 := 15) C rfl 0 dX11_puts_14 rfl rfl ?_
    refine g_iald (x := (srt F.2 k) (k)) (pc9 := 16) C rfl (13) (k) dX11_puts_15 (by decide) (ce_13 w (sN (sI σ (13) (srt F.2 k)) (0) 21 (nI (F.1)))) rfl (by omega) (by decide) (congrFun ((iA_N).trans (iA_s)) _) ?_
    refine g_istore_n (pc9 := 17) C rfl [(3, .int ((srt F.2 k) (k))), (2, .int (nI (k))), (0, .ref (w.1 (0))), (1, .int (nI (i)))] dX11_puts_16 rfl (by decide) rfl ?_
    refine g_iload_n (pc9 := 18) C rfl 1 dX11_puts_17 rfl rfl ?_
    refine g_istore (pc9 := 20) C rfl [(4, .int (nI (k))), (3, .int ((srt F.2 k) (k))), (2, .int (nI (k))), (0, .ref (w.1 (0))), (1, .int (nI (i)))] dX11_puts_18 (by decide) rfl ?_
    refine g_sub [0, 1, 2, 3, 4] [(4, .int (nI (k))), (3, .int ((srt F.2 k) (k))), (2, .int (nI (k))), (0, .ref (w.1 (0))), (1, .int (nI (i)))] rfl ?_
    refine g_lp2 (α := Nat) (β := Nat → Int32) (fun u g => u ≤ k ∧ insF (srt F.2 k k) u g = srt F.2 (k + 1)) (fun u g => u) (fun u g => G p l e _ s m args below meth c _ w A _ (sN (sI σ (13) (g)) (0) 21 (nI (F.1))) 0 0 20 [(4, .int (nI (u))), (3, .int (srt F.2 k (k))), (2, .int (nI (k))), (0, .ref (w.1 (0))), (1, .int (nI (i)))] []) (fun u g hI ih2 => ?_) (k) (srt F.2 k) ⟨Nat.le_refl _, rfl⟩
    obtain ⟨hu, hg⟩ := hI
    refine g_iload (pc9 := 22) C rfl 0 dX11_puts_20 rfl ?_
    refine g_if_le (pc9 := 25) C rfl 66 dX11_puts_22 rfl (fun c_8 => ?_) (fun c_8 => ?_)
    · replace c_8 := (z_le (by omega)).mp c_8
      have hend : insF (srt F.2 k k) u g = upd g u (srt F.2 k k) := by rw [show u = 0 by omega]; rfl
      refine g_aload_n (pc9 := 67) C rfl 3 dX11_puts_66 rfl rfl ?_
      refine g_get (v := .ref (w.1 (13))) (pc9 := 70) C rfl (0) 20 dX11_puts_67 (by decide) (ce_0 w (sN (sI σ (13) (g)) (0) 21 (nI (F.1)))) hin_11 hl_54 rfl (by decide) rfl rfl ?_
      refine g_iload (pc9 := 72) C rfl 0 dX11_puts_70 rfl ?_
      refine g_iload_n (pc9 := 73) C rfl 1 dX11_puts_72 rfl rfl ?_
      refine g_iast (pc9 := 74) C rfl (13) (u) (g) dX11_puts_73 (by decide) (fun _ => rfl) (ce_13 w (sN (sI σ (13) (g)) (0) 21 (nI (F.1)))) rfl (by omega) (by decide) ((iA_N).trans (iA_s)) ?_
      rw [sI_sN (a := 0) (k := 21) (b := 13), sI_sI (a := 13)]
      refine g_iinc (pc9 := 77) C rfl [(2, .int (nI (k + 1))), (4, .int (nI (u))), (3, .int (srt F.2 k (k))), (0, .ref (w.1 (0))), (1, .int (nI (i)))] 2 (nI (k + 1)) dX11_puts_74 rfl (nI_1 (k)) (by decide) rfl ?_
      refine g_goto C 2 dX11_puts_77 rfl ?_
      refine g_sub [0, 3, 4] [(2, .int (nI (k + 1))), (0, .ref (w.1 (0))), (1, .int (nI (i)))] rfl ?_
      refine g_st (σ9 := sN (sI σ (13) (srt F.2 (k + 1))) (0) 21 (nI (F.1))) (by rw [← hg, hend]) ?_
      exact ih (k + 1) ⟨by omega, by omega⟩ (by omega)
    · replace c_8 := (not_congr (z_le (by omega))).mp c_8
      refine g_aload_n (pc9 := 26) C rfl 3 dX11_puts_25 rfl rfl ?_
      refine g_get (v := .ref (w.1 (13))) (pc9 := 29) C rfl (0) 20 dX11_puts_26 (by decide) (ce_0 w (sN (sI σ (13) (g)) (0) 21 (nI (F.1)))) hin_11 hl_54 rfl (by decide) rfl rfl ?_
      refine g_iload (pc9 := 31) C rfl 0 dX11_puts_29 rfl ?_
      refine g_iconst (pc9 := 32) C rfl (nI (1)) dX11_puts_31 rfl ?_
      refine g_isubN (pc9 := 33) C rfl dX11_puts_32 (by omega) ?_
      refine g_iald (x := g (u - (1))) (pc9 := 34) C rfl (13) (u - (1)) dX11_puts_33 (by decide) (ce_13 w (sN (sI σ (13) (g)) (0) 21 (nI (F.1)))) rfl (by omega) (by decide) (congrFun ((iA_N).trans (iA_s)) _) ?_
      refine g_callSi (nn := 1) (rest := []) (pc9 := 37) C rfl [.int (g (u - (1)))] rfl dX11_puts_34 (m_bitCount l w _ (g (u - (1)))) gX11_puts_J6_bitCount_0f7a4 rfl rfl rfl (by decide +kernel) ⟨by decide, by decide⟩ rfl (Nat.le_of_ble_eq_true rfl) ⟨by decide, by decide⟩ (fun r_9 σ_9 q_9 => ?_)
      obtain ⟨qs_9, qr_9⟩ := q_9
      rw [qs_9, qr_9]
      clear qs_9 qr_9
      refine g_iload_n (pc9 := 38) C rfl 1 dX11_puts_37 rfl rfl ?_
      refine g_callSi (nn := 1) (rest := [.int (bC (g (u - (1))))]) (pc9 := 41) C rfl [.int (srt F.2 k (k))] rfl dX11_puts_38 (m_bitCount l w _ (srt F.2 k (k))) gX11_puts_J6_bitCount_0f7a4 rfl rfl rfl (by decide +kernel) ⟨by decide, by decide⟩ rfl (Nat.le_of_ble_eq_true rfl) ⟨by decide, by decide⟩ (fun r_10 σ_10 q_10 => ?_)
      obtain ⟨qs_10, qr_10⟩ := q_10
      rw [qs_10, qr_10]
      clear qs_10 qr_10
      refine g_icmp_ge (pc9 := 44) C rfl 66 dX11_puts_41 rfl (fun c_11 => ?_) (fun c_11 => ?_)
      · have hend : insF (srt F.2 k k) u g = upd g u (srt F.2 k k) := insF_stop (by omega) (Int32.not_lt.mpr c_11)
        refine g_aload_n (pc9 := 67) C rfl 3 dX11_puts_66 rfl rfl ?_
        refine g_get (v := .ref (w.1 (13))) (pc9 := 70) C rfl (0) 20 dX11_puts_67 (by decide) (ce_0 w (sN (sI σ (13) (g)) (0) 21 (nI (F.1)))) hin_11 hl_54 rfl (by decide) rfl rfl ?_
        refine g_iload (pc9 := 72) C rfl 0 dX11_puts_70 rfl ?_
        refine g_iload_n (pc9 := 73) C rfl 1 dX11_puts_72 rfl rfl ?_
        refine g_iast (pc9 := 74) C rfl (13) (u) (g) dX11_puts_73 (by decide) (fun _ => rfl) (ce_13 w (sN (sI σ (13) (g)) (0) 21 (nI (F.1)))) rfl (by omega) (by decide) ((iA_N).trans (iA_s)) ?_
        rw [sI_sN (a := 0) (k := 21) (b := 13), sI_sI (a := 13)]
        refine g_iinc (pc9 := 77) C rfl [(2, .int (nI (k + 1))), (4, .int (nI (u))), (3, .int (srt F.2 k (k))), (0, .ref (w.1 (0))), (1, .int (nI (i)))] 2 (nI (k + 1)) dX11_puts_74 rfl (nI_1 (k)) (by decide) rfl ?_
        refine g_goto C 2 dX11_puts_77 rfl ?_
        refine g_sub [0, 3, 4] [(2, .int (nI (k + 1))), (0, .ref (w.1 (0))), (1, .int (nI (i)))] rfl ?_
        refine g_st (σ9 := sN (sI σ (13) (srt F.2 (k + 1))) (0) 21 (nI (F.1))) (by rw [← hg, hend]) ?_
        exact ih (k + 1) ⟨by omega, by omega⟩ (by omega)
      · have hlt : bC (g (u - 1)) < bC (srt F.2 k k) := Int32.not_le.mp c_11
        have hstep : insF (srt F.2 k k) u g = insF (srt F.2 k k) (u - 1) (upd g u (g (u - 1))) := insF_go (by omega) hlt
        refine g_aload_n (pc9 := 45) C rfl 3 dX11_puts_44 rfl rfl ?_
        refine g_get (v := .ref (w.1 (13))) (pc9 := 48) C rfl (0) 20 dX11_puts_45 (by decide) (ce_0 w (sN (sI σ (13) (g)) (0) 21 (nI (F.1)))) hin_11 hl_54 rfl (by decide) rfl rfl ?_
        refine g_iload (pc9 := 50) C rfl 0 dX11_puts_48 rfl ?_
        refine g_aload_n (pc9 := 51) C rfl 3 dX11_puts_50 rfl rfl ?_
        refine g_get (v := .ref (w.1 (13))) (pc9 := 54) C rfl (0) 20 dX11_puts_51 (by decide) (ce_0 w (sN (sI σ (13) (g)) (0) 21 (nI (F.1)))) hin_11 hl_54 rfl (by decide) rfl rfl ?_
        refine g_iload (pc9 := 56) C rfl 0 dX11_puts_54 rfl ?_
        refine g_iconst (pc9 := 57) C rfl (nI (1)) dX11_puts_56 rfl ?_
        refine g_isubN (pc9 := 58) C rfl dX11_puts_57 (by omega) ?_
        refine g_iald (x := g (u - (1))) (pc9 := 59) C rfl (13) (u - (1)) dX11_puts_58 (by decide) (ce_13 w (sN (sI σ (13) (g)) (0) 21 (nI (F.1)))) rfl (by omega) (by decide) (congrFun ((iA_N).trans (iA_s)) _) ?_
        refine g_iast (pc9 := 60) C rfl (13) (u) (g) dX11_puts_59 (by decide) (fun _ => rfl) (ce_13 w (sN (sI σ (13) (g)) (0) 21 (nI (F.1)))) rfl (by omega) (by decide) ((iA_N).trans (iA_s)) ?_
        rw [sI_sN (a := 0) (k := 21) (b := 13), sI_sI (a := 13)]
        refine g_iinc (pc9 := 63) C rfl [(4, .int (nI (u - 1))), (3, .int (srt F.2 k (k))), (2, .int (nI (k))), (0, .ref (w.1 (0))), (1, .int (nI (i)))] 0 (nI (u - 1)) dX11_puts_60 rfl (sb_m1 (by omega)) (by decide) rfl ?_
        refine g_goto C 20 dX11_puts_63 rfl ?_
        exact ih2 (u - 1) (upd (g) (u) (g (u - (1)))) ⟨by omega, by rw [← hg, hstep]⟩ (by omega)

/-! The reference: feed, read; triple, sign, state, kinds, distance, count -/
theorem dv4 : ∀ v, v < 20 → nI v / nI 4 = nI (v / 4) ∧ nI v - nI v / nI 4 * nI 4 = nI (v % 4) := by decide +kernel
abbrev fiv (a1 a2 a3 a4 a5 : Int32) (f : Nat → Int32) : Nat → Int32 := upd (upd (upd (upd (upd f 0 a1) 1 a2) 2 a3) 3 a4) 4 a5
abbrev fdB (g : Nat → Int32) (v : Nat) : Int32 := vp_nar .byte ((g (v / 4) >>> ((nI 24 - nI 8 * nI (v % 4)) &&& 31)).toInt8.toInt32)
def mfdR (σ : St) (L : Nat) (a1 a2 a3 a4 a5 : Int32) (r : Int32) (σ9 : St) : Prop := if L + 20 ≤ 400 then σ9 = sN (sI (sI (mT σ 0) 19 (fiv a1 a2 a3 a4 a5 (iA σ 19))) 1 (apB (fdB (fiv a1 a2 a3 a4 a5 (iA σ 19))) (iA σ 1) L 20)) 0 2 (nI (L + 20)) ∧ r = nI (L + 20) else σ9 = mT σ 0 ∧ r = -1
set_option maxRecDepth 100000 in
set_option maxHeartbeats 4000000 in
theorem m_X11_feed (l : Launch) (w : Wd) (σ : St) (L : Nat) (hL : nF σ 0 2 = nI L) (h4 : L ≤ 400) (a1 a2 a3 a4 a5 : Int32) : MI l yX11_feed wsX11_feed (rmL 1) w [.ref (w.1 (0)), .int (a1), .int (a2), .int (a3), .int (a4), .int (a5)] (σ) (mfdR σ L a1 a2 a3 a4 a5) := by
  refine MI_of (cc := cX11_feed) (maxL := 7) (ret := .int) (by decide) rfl (Nat.le_of_ble_eq_true rfl) ?_
  intro p e s m args below meth c A C hr hlk
  have C : Cx p s m args c w A cX11_feed RX11 7 wsX11_feed := C
  have hin_11 : ∀ u ∈ wsX110, u ∈ wsX11_feed := by decide +kernel
  have hl_9 : Cond.fieldLink RX11 9 "LineageBenchModel" "tape" "[B" ∈ wsX11_feed := by decide +kernel
  have hl_73 : Cond.fieldLink RX11 73 "LineageBenchModel" "five" "[I" ∈ wsX11_feed := by decide +kernel
  have hl_107 : Cond.fieldLink RX11 107 "LineageBenchModel" "thrown" "I" ∈ wsX11_feed := by decide +kernel
  have hl_161 : Cond.fieldLink RX11 161 "LineageBenchModel" "taped" "I" ∈ wsX11_feed := by decide +kernel
  refine g_aload_n (pc9 := 1) C rfl 0 dX11_feed_0 rfl rfl ?_
  refine g_iconst (pc9 := 2) C rfl (nI (0)) dX11_feed_1 rfl ?_
  refine g_put (pc9 := 5) C rfl (0) 0 dX11_feed_2 (by decide) (ce_0 w (σ)) (rfl) hin_11 hl_107 tyX11 tyX11_ok nmX11 rfl (by decide) rfl rfl rfl (Nat.le_of_ble_eq_true rfl) ?_
  refine g_aload_n (pc9 := 6) C rfl 0 dX11_feed_5 rfl rfl ?_
  refine g_get (v := .int (nI (L))) (pc9 := 9) C rfl (0) 2 dX11_feed_6 (by decide) (ce_0 w (sN σ (0) 0 (nI (0)))) hin_11 hl_161 rfl (by decide) rfl (congrArg (fun z => some (Value.int z)) ((nF_k (k := 0) (k9 := 2) (by decide)).trans hL)) ?_
  refine g_bipush (pc9 := 11) C rfl (nI (20)) dX11_feed_9 rfl ?_
  refine g_iaddN (pc9 := 12) C rfl dX11_feed_11 ?_
  refine g_sipush (pc9 := 15) C rfl (nI (400)) dX11_feed_12 rfl ?_
  refine g_icmp_le (pc9 := 18) C rfl 20 dX11_feed_15 rfl (fun c_1 => ?_) (fun c_1 => ?_)
  · replace c_1 := (nI_leI (by omega) (by omega)).mp c_1
    refine g_aload_n (pc9 := 21) C rfl 0 dX11_feed_20 rfl rfl ?_
    refine g_get (v := .ref (w.1 (19))) (pc9 := 24) C rfl (0) 28 dX11_feed_21 (by decide) (ce_0 w (sN σ (0) 0 (nI (0)))) hin_11 hl_73 rfl (by decide) rfl rfl ?_
    refine g_iconst (pc9 := 25) C rfl (nI (0)) dX11_feed_24 rfl ?_
    refine g_iload_n (pc9 := 26) C rfl 1 dX11_feed_25 rfl rfl ?_
    refine g_iast (pc9 := 27) C rfl (19) (0) (iA σ (19)) dX11_feed_26 (by decide) (fun _ => rfl) (ce_19 w (sN σ (0) 0 (nI (0)))) rfl (by omega) (by decide) (iA_N) ?_
    refine g_aload_n (pc9 := 28) C rfl 0 dX11_feed_27 rfl rfl ?_
    refine g_get (v := .ref (w.1 (19))) (pc9 := 31) C rfl (0) 28 dX11_feed_28 (by decide) (ce_0 w (sI (sN σ (0) 0 (nI (0))) (19) (upd (iA σ (19)) (0) (a1)))) hin_11 hl_73 rfl (by decide) rfl rfl ?_
    refine g_iconst (pc9 := 32) C rfl (nI (1)) dX11_feed_31 rfl ?_
    refine g_iload_n (pc9 := 33) C rfl 2 dX11_feed_32 rfl rfl ?_
    refine g_iast (pc9 := 34) C rfl (19) (1) (upd (iA σ (19)) (0) (a1)) dX11_feed_33 (by decide) (fun _ => rfl) (ce_19 w (sI (sN σ (0) 0 (nI (0))) (19) (upd (iA σ (19)) (0) (a1)))) rfl (by omega) (by decide) (iA_s) ?_
    rw [sI_sI (a := 19)]
    refine g_aload_n (pc9 := 35) C rfl 0 dX11_feed_34 rfl rfl ?_
    refine g_get (v := .ref (w.1 (19))) (pc9 := 38) C rfl (0) 28 dX11_feed_35 (by decide) (ce_0 w (sI (sN σ (0) 0 (nI (0))) (19) (upd (upd (iA σ (19)) (0) (a1)) (1) (a2)))) hin_11 hl_73 rfl (by decide) rfl rfl ?_
    refine g_iconst (pc9 := 39) C rfl (nI (2)) dX11_feed_38 rfl ?_
    refine g_iload_n (pc9 := 40) C rfl 3 dX11_feed_39 rfl rfl ?_
    refine g_iast (pc9 := 41) C rfl (19) (2) (upd (upd (iA σ (19)) (0) (a1)) (1) (a2)) dX11_feed_40 (by decide) (fun _ => rfl) (ce_19 w (sI (sN σ (0) 0 (nI (0))) (19) (upd (upd (iA σ (19)) (0) (a1)) (1) (a2)))) rfl (by omega) (by decide) (iA_s) ?_
    rw [sI_sI (a := 19)]
    refine g_aload_n (pc9 := 42) C rfl 0 dX11_feed_41 rfl rfl ?_
    refine g_get (v := .ref (w.1 (19))) (pc9 := 45) C rfl (0) 28 dX11_feed_42 (by decide) (ce_0 w (sI (sN σ (0) 0 (nI (0))) (19) (upd (upd (upd (iA σ (19)) (0) (a1)) (1) (a2)) (2) (a3)))) hin_11 hl_73 rfl (by decide) rfl rfl ?_
    refine g_iconst (pc9 := 46) C rfl (nI (3)) dX11_feed_45 rfl ?_
    refine g_iload (pc9 := 48) C rfl 4 dX11_feed_46 rfl ?_
    refine g_iast (pc9 := 49) C rfl (19) (3) (upd (upd (upd (iA σ (19)) (0) (a1)) (1) (a2)) (2) (a3)) dX11_feed_48 (by decide) (fun _ => rfl) (ce_19 w (sI (sN σ (0) 0 (nI (0))) (19) (upd (upd (upd (iA σ (19)) (0) (a1)) (1) (a2)) (2) (a3)))) rfl (by omega) (by decide) (iA_s) ?_
    rw [sI_sI (a := 19)]
    refine g_aload_n (pc9 := 50) C rfl 0 dX11_feed_49 rfl rfl ?_
    refine g_get (v := .ref (w.1 (19))) (pc9 := 53) C rfl (0) 28 dX11_feed_50 (by decide) (ce_0 w (sI (sN σ (0) 0 (nI (0))) (19) (upd (upd (upd (upd (iA σ (19)) (0) (a1)) (1) (a2)) (2) (a3)) (3) (a4)))) hin_11 hl_73 rfl (by decide) rfl rfl ?_
    refine g_iconst (pc9 := 54) C rfl (nI (4)) dX11_feed_53 rfl ?_
    refine g_iload (pc9 := 56) C rfl 5 dX11_feed_54 rfl ?_
    refine g_iast (pc9 := 57) C rfl (19) (4) (upd (upd (upd (upd (iA σ (19)) (0) (a1)) (1) (a2)) (2) (a3)) (3) (a4)) dX11_feed_56 (by decide) (fun _ => rfl) (ce_19 w (sI (sN σ (0) 0 (nI (0))) (19) (upd (upd (upd (upd (iA σ (19)) (0) (a1)) (1) (a2)) (2) (a3)) (3) (a4)))) rfl (by omega) (by decide) (iA_s) ?_
    rw [sI_sI (a := 19)]
    refine g_iconst (pc9 := 58) C rfl (nI (0)) dX11_feed_57 rfl ?_
    refine g_istore (pc9 := 60) C rfl [(6, .int (nI (0))), (0, .ref (w.1 (0))), (1, .int (a1)), (2, .int (a2)), (3, .int (a3)), (4, .int (a4)), (5, .int (a5))] dX11_feed_58 (by decide) rfl ?_
    refine g_sub [0, 1, 2, 3, 4, 5, 6] [(6, .int (nI (0))), (0, .ref (w.1 (0))), (1, .int (a1)), (2, .int (a2)), (3, .int (a3)), (4, .int (a4)), (5, .int (a5))] rfl ?_
    refine g_st (σ9 := sI (sI (sN σ (0) 0 (nI (0))) (19) (fiv a1 a2 a3 a4 a5 (iA σ 19))) (1) (apB (fdB (fiv a1 a2 a3 a4 a5 (iA σ 19))) (iA σ 1) L 0)) (by rw [apB_0]; exact (show sI (sI (mT σ 0) 19 (fiv a1 a2 a3 a4 a5 (iA σ 19))) 1 (iA (sI (mT σ 0) 19 (fiv a1 a2 a3 a4 a5 (iA σ 19))) 1) = _ from sI_self).symm) ?_
    refine g_lp1 (α := Nat) (fun v => v ≤ 20) (fun v => 20 - v) (fun v => G p l e _ s m args below meth c _ w A _ (sI (sI (sN σ (0) 0 (nI (0))) (19) (fiv a1 a2 a3 a4 a5 (iA σ 19))) (1) (apB (fdB (fiv a1 a2 a3 a4 a5 (iA σ 19))) (iA σ 1) L v)) 0 0 60 [(6, .int (nI (v))), (0, .ref (w.1 (0))), (1, .int (a1)), (2, .int (a2)), (3, .int (a3)), (4, .int (a4)), (5, .int (a5))] []) (fun v hI ih => ?_) (0) (Nat.zero_le _)
    obtain hv := hI
    refine g_iload (pc9 := 62) C rfl 0 dX11_feed_60 rfl ?_
    refine g_bipush (pc9 := 64) C rfl (nI (20)) dX11_feed_62 rfl ?_
    refine g_icmp_ge (pc9 := 67) C rfl 106 dX11_feed_64 rfl (fun c_2 => ?_) (fun c_2 => ?_)
    · replace c_2 := (nI_leI (by omega) (by omega)).mp c_2
      refine g_aload_n (pc9 := 107) C rfl 1 dX11_feed_106 rfl rfl ?_
      refine g_dup (pc9 := 108) C rfl dX11_feed_107 rfl ?_
      refine g_get (v := .int (nI (L))) (pc9 := 111) C rfl (0) 2 dX11_feed_108 (by decide) (ce_0 w (sI (sI (sN σ (0) 0 (nI (0))) (19) (fiv a1 a2 a3 a4 a5 (iA σ 19))) (1) (apB (fdB (fiv a1 a2 a3 a4 a5 (iA σ 19))) (iA σ 1) L v))) hin_11 hl_161 rfl (by decide) rfl (congrArg (fun z => some (Value.int z)) ((((nF_I).trans (nF_I)).trans (nF_k (k := 0) (k9 := 2) (by decide))).trans hL)) ?_
      refine g_bipush (pc9 := 113) C rfl (nI (20)) dX11_feed_111 rfl ?_
      refine g_iaddN (pc9 := 114) C rfl dX11_feed_113 ?_
      refine g_put (pc9 := 117) C rfl (0) 2 dX11_feed_114 (by decide) (ce_0 w (sI (sI (sN σ (0) 0 (nI (0))) (19) (fiv a1 a2 a3 a4 a5 (iA σ 19))) (1) (apB (fdB (fiv a1 a2 a3 a4 a5 (iA σ 19))) (iA σ 1) L v))) (rfl) hin_11 hl_161 tyX11 tyX11_ok nmX11 rfl (by decide) rfl rfl rfl (Nat.le_of_ble_eq_true rfl) ?_
      refine g_aload_n (pc9 := 118) C rfl 1 dX11_feed_117 rfl rfl ?_
      refine g_get (v := .int (nI (L + 20))) (pc9 := 121) C rfl (0) 2 dX11_feed_118 (by decide) (ce_0 w (sN (sI (sI (sN σ (0) 0 (nI (0))) (19) (fiv a1 a2 a3 a4 a5 (iA σ 19))) (1) (apB (fdB (fiv a1 a2 a3 a4 a5 (iA σ 19))) (iA σ 1) L v)) (0) 2 (nI (L + 20)))) hin_11 hl_161 rfl (by decide) rfl (congrArg (fun z => some (Value.int z)) (nF_s)) ?_
      exact g_ireturn C hr hlk dX11_feed_121 (by rw [show v = 20 by omega]; show mfdR σ L _ _ _ _ _ _ _; rw [mfdR, if_pos (by omega)]; exact ⟨rfl, rfl⟩)
    · replace c_2 := (not_congr (nI_leI (by omega) (by omega))).mp c_2
      refine g_aload_n (pc9 := 68) C rfl 1 dX11_feed_67 rfl rfl ?_
      refine g_get (v := .ref (w.1 (1))) (pc9 := 71) C rfl (0) 1 dX11_feed_68 (by decide) (ce_0 w (sI (sI (sN σ (0) 0 (nI (0))) (19) (fiv a1 a2 a3 a4 a5 (iA σ 19))) (1) (apB (fdB (fiv a1 a2 a3 a4 a5 (iA σ 19))) (iA σ 1) L v))) hin_11 hl_9 rfl (by decide) rfl rfl ?_
      refine g_aload_n (pc9 := 72) C rfl 1 dX11_feed_71 rfl rfl ?_
      refine g_get (v := .int (nI (L))) (pc9 := 75) C rfl (0) 2 dX11_feed_72 (by decide) (ce_0 w (sI (sI (sN σ (0) 0 (nI (0))) (19) (fiv a1 a2 a3 a4 a5 (iA σ 19))) (1) (apB (fdB (fiv a1 a2 a3 a4 a5 (iA σ 19))) (iA σ 1) L v))) hin_11 hl_161 rfl (by decide) rfl (congrArg (fun z => some (Value.int z)) ((((nF_I).trans (nF_I)).trans (nF_k (k := 0) (k9 := 2) (by decide))).trans hL)) ?_
      refine g_iload (pc9 := 77) C rfl 0 dX11_feed_75 rfl ?_
      refine g_iaddN (pc9 := 78) C rfl dX11_feed_77 ?_
      refine g_aload_n (pc9 := 79) C rfl 1 dX11_feed_78 rfl rfl ?_
      refine g_get (v := .ref (w.1 (19))) (pc9 := 82) C rfl (0) 28 dX11_feed_79 (by decide) (ce_0 w (sI (sI (sN σ (0) 0 (nI (0))) (19) (fiv a1 a2 a3 a4 a5 (iA σ 19))) (1) (apB (fdB (fiv a1 a2 a3 a4 a5 (iA σ 19))) (iA σ 1) L v))) hin_11 hl_73 rfl (by decide) rfl rfl ?_
      have hdv := dv4 v (by omega)
      refine g_iload (pc9 := 84) C rfl 0 dX11_feed_82 rfl ?_
      refine g_iconst (pc9 := 85) C rfl (nI (4)) dX11_feed_84 rfl ?_
      refine g_idiv (pc9 := 86) C rfl dX11_feed_85 (by decide) ?_
      refine g_iald (x := (fiv a1 a2 a3 a4 a5 (iA σ 19)) (v / 4)) (pc9 := 87) C rfl (19) (v / 4) dX11_feed_86 (by decide) (ce_19 w (sI (sI (sN σ (0) 0 (nI (0))) (19) (fiv a1 a2 a3 a4 a5 (iA σ 19))) (1) (apB (fdB (fiv a1 a2 a3 a4 a5 (iA σ 19))) (iA σ 1) L v))) hdv.1 (by omega) (by decide) (congrFun ((iA_n (by decide)).trans (iA_s)) _) ?_
      refine g_bipush (pc9 := 89) C rfl (nI (24)) dX11_feed_87 rfl ?_
      refine g_bipush (pc9 := 91) C rfl (nI (8)) dX11_feed_89 rfl ?_
      refine g_iload (pc9 := 93) C rfl 0 dX11_feed_91 rfl ?_
      refine g_iconst (pc9 := 94) C rfl (nI (4)) dX11_feed_93 rfl ?_
      refine g_irem (pc9 := 95) C rfl dX11_feed_94 (by decide) ?_
      rw [hdv.2]
      refine g_imul (pc9 := 96) C rfl dX11_feed_95 ?_
      refine g_isub (pc9 := 97) C rfl dX11_feed_96 ?_
      refine g_ishr (pc9 := 98) C rfl dX11_feed_97 ?_
      refine g_i2b (pc9 := 99) C rfl dX11_feed_98 ?_
      refine g_bast (pc9 := 100) C rfl (1) (L + v) (apB (fdB (fiv a1 a2 a3 a4 a5 (iA σ 19))) (iA σ 1) L v) dX11_feed_99 (by decide) (fun _ => rfl) (ce_1 w (sI (sI (sN σ (0) 0 (nI (0))) (19) (fiv a1 a2 a3 a4 a5 (iA σ 19))) (1) (apB (fdB (fiv a1 a2 a3 a4 a5 (iA σ 19))) (iA σ 1) L v))) rfl (by omega) (by decide) (iA_s) ?_
      rw [sI_sI (a := 1)]
      refine g_iinc (pc9 := 103) C rfl [(6, .int (nI (v + 1))), (0, .ref (w.1 (0))), (1, .int (a1)), (2, .int (a2)), (3, .int (a3)), (4, .int (a4)), (5, .int (a5))] 0 (nI (v + 1)) dX11_feed_100 rfl (nI_1 (v)) (by decide) rfl ?_
      refine g_goto C 60 dX11_feed_103 rfl ?_
      refine g_sub [0, 1, 2, 3, 4, 5, 6] [(6, .int (nI (v + 1))), (0, .ref (w.1 (0))), (1, .int (a1)), (2, .int (a2)), (3, .int (a3)), (4, .int (a4)), (5, .int (a5))] rfl ?_
      refine g_st (σ9 := sI (sI (sN σ (0) 0 (nI (0))) (19) (fiv a1 a2 a3 a4 a5 (iA σ 19))) (1) (apB (fdB (fiv a1 a2 a3 a4 a5 (iA σ 19))) (iA σ 1) L (v + 1))) (by rw [← apB_s]) ?_
      exact ih (v + 1) (by omega) (by omega)
  · replace c_1 := (not_congr (nI_leI (by omega) (by omega))).mp c_1
    refine g_iconst (pc9 := 19) C rfl ((-1)) dX11_feed_18 rfl ?_
    exact g_ireturn C hr hlk dX11_feed_19 (by show mfdR σ L _ _ _ _ _ _ _; rw [mfdR, if_neg (by omega)]; exact ⟨rfl, rfl⟩)
abbrev mR1 (σ : St) : St := sN (mT σ 0) 0 2 (nI 0)
abbrev mR2 (σ : St) : St := sN (sN (mR1 σ) 0 3 (nI 0)) 0 4 (-1)
def mcpS (σ : St) (i n : Nat) : St := sI (sI (sI σ 3 (put47 (fun u => iA σ 3 (47 * 8 + u)) (iA σ 3) i n)) 4 (put47 (fun u => iA σ 4 (47 * 8 + u)) (iA σ 4) i n)) 2 (upd (iA σ 2) i (nI n))
def mrdP (σ : St) (L : Nat) (x : Int32) (r : Int32) (σ9 : St) : Prop := (¬ okI 8 x ∧ σ9 = sN (mT σ 1) 0 2 (nI 0)) ∨ (∃ i, i < 8 ∧ x = nI i ∧ ((¬ (mX σ L).1 = 0 ∧ ∃ n h k op c a, σ9 = sN (sN (sN (rdM (mR2 σ) n h k op c a) 0 3 (mX σ L).1) 0 4 (mX σ L).2.1) 0 0 (nI 2)) ∨ ((mX σ L).1 = 0 ∧ r = nI (rdU (iA σ 1) (0, 0, 0, iA σ 15) L).2.1 ∧ ∃ op c a, σ9 = mcpS (rdT (mR2 σ) (gwU (iA σ 1) gz L) op c a) i (gwU (iA σ 1) gz L).1)))
theorem gz_47 {f : Nat → Int32} {c : Nat → Int32} {L : Nat} (hL : L ≤ 400) (h : (exF f L L 0 (0, 0, 0, c)).1 = 0) : 0 < (gwU f gz L).1 ∧ (gwU f gz L).1 ≤ 47 := gw_47 (c := c) hL ⟨rfl, rfl, rfl⟩ (exF_noF h)
theorem rdU_24 {f : Nat → Int32} {c : Nat → Int32} (i : Nat) : (rdU f (0, 0, 0, c) i).2.1 ≤ 24 := (rdU_ok (f := f) (r := (0, 0, 0, c)) ⟨Nat.zero_le _, Nat.zero_le _, Nat.zero_le _⟩ i).2.1
set_option maxRecDepth 100000 in
set_option maxHeartbeats 4000000 in
theorem m_X11_read (l : Launch) (w : Wd) (σ : St) (L : Nat) (hL : nF σ 0 2 = nI L) (hL4 : L ≤ 400) (x : Int32) : MI l yX11_read wsX11_read (rmL 3) w [.ref (w.1 (0)), .int (x)] (σ) (mrdP σ L x) := by
  refine MI_of (cc := cX11_read) (maxL := 4) (ret := .int) (by decide) rfl (Nat.le_of_ble_eq_true rfl) ?_
  intro p e s m args below meth c A C hr hlk
  have C : Cx p s m args c w A cX11_read RX11 4 wsX11_read := C
  have hin_11 : ∀ u ∈ wsX110, u ∈ wsX11_read := by decide +kernel
  have hl_13 : Cond.fieldLink RX11 13 "LineageBenchModel" "faultPlace" "I" ∈ wsX11_read := by decide +kernel
  have hl_107 : Cond.fieldLink RX11 107 "LineageBenchModel" "thrown" "I" ∈ wsX11_read := by decide +kernel
  have hl_138 : Cond.fieldLink RX11 138 "LineageBenchModel" "faultKind" "I" ∈ wsX11_read := by decide +kernel
  have hl_161 : Cond.fieldLink RX11 161 "LineageBenchModel" "taped" "I" ∈ wsX11_read := by decide +kernel
  refine g_aload_n (pc9 := 1) C rfl 0 dX11_read_0 rfl rfl ?_
  refine g_iconst (pc9 := 2) C rfl (nI (0)) dX11_read_1 rfl ?_
  refine g_put (pc9 := 5) C rfl (0) 0 dX11_read_2 (by decide) (ce_0 w (σ)) (rfl) hin_11 hl_107 tyX11 tyX11_ok nmX11 rfl (by decide) rfl rfl rfl (Nat.le_of_ble_eq_true rfl) ?_
  refine g_aload_n (pc9 := 6) C rfl 0 dX11_read_5 rfl rfl ?_
  refine g_get (v := .int (nI (L))) (pc9 := 9) C rfl (0) 2 dX11_read_6 (by decide) (ce_0 w (sN σ (0) 0 (nI (0)))) hin_11 hl_161 rfl (by decide) rfl (congrArg (fun z => some (Value.int z)) ((nF_k (k := 0) (k9 := 2) (by decide)).trans hL)) ?_
  refine g_istore_n (pc9 := 10) C rfl [(2, .int (nI (L))), (0, .ref (w.1 (0))), (1, .int (x))] dX11_read_9 rfl (by decide) rfl ?_
  refine g_aload_n (pc9 := 11) C rfl 1 dX11_read_10 rfl rfl ?_
  refine g_iconst (pc9 := 12) C rfl (nI (0)) dX11_read_11 rfl ?_
  refine g_put (pc9 := 15) C rfl (0) 2 dX11_read_12 (by decide) (ce_0 w (sN σ (0) 0 (nI (0)))) (rfl) hin_11 hl_161 tyX11 tyX11_ok nmX11 rfl (by decide) rfl rfl rfl (Nat.le_of_ble_eq_true rfl) ?_
  refine g_aload_n (pc9 := 16) C rfl 1 dX11_read_15 rfl rfl ?_
  refine g_iload_n (pc9 := 17) C rfl 2 dX11_read_16 rfl rfl ?_
  refine g_callSi (nn := 1) (rest := [.ref (w.1 (0))]) (pc9 := 20) C rfl [.int (x)] rfl dX11_read_17 (m_X11_noShelf l w (sN (sN σ (0) 0 (nI (0))) (0) 2 (nI (0))) x) gX11_read_X11_noShelf rfl rfl rfl (by decide +kernel) ⟨by decide, by decide⟩ rfl (Nat.le_of_ble_eq_true rfl) ⟨by decide, by decide⟩ (fun r_1 σ_1 q_1 => ?_)
  obtain ⟨qs_1, qr_1⟩ := q_1
  rw [qs_1, qr_1]
  clear qs_1 qr_1
  refine g_iconst (pc9 := 21) C rfl (nI (1)) dX11_read_20 rfl ?_
  refine g_callVi (nn := 2) (rest := []) (pc9 := 24) C rfl (0) [.int (pI (¬ okI 8 x)), .int (nI (1))] rfl dX11_read_21 (m_throwsP l w (sN (sN σ (0) 0 (nI (0))) (0) 2 (nI (0))) (¬ okI 8 x) 1) gX11_read_X11_throwsIf (by decide) (ce_0 w (sN (sN σ (0) 0 (nI (0))) (0) 2 (nI (0)))) rfl rfl rfl rfl rfl (by decide +kernel) ⟨by decide, by decide⟩ rfl (Nat.le_of_ble_eq_true rfl) ⟨by decide, by decide⟩ (fun r_2 σ_2 q_2 => ?_)
  obtain ⟨qr_2, qt_2, qf_2⟩ := q_2
  rw [qr_2]
  refine g_if_eq (pc9 := 27) C rfl 29 dX11_read_24 rfl (fun c_3 => ?_) (fun c_3 => ?_)
  · have hns : ¬ (¬ okI 8 x) := pI_no c_3
    rw [qf_2 hns]
    obtain ⟨i, hb_i, hx_i⟩ := Classical.not_not.mp hns
    subst hx_i
    refine g_aload_n (pc9 := 30) C rfl 1 dX11_read_29 rfl rfl ?_
    refine g_iconst (pc9 := 31) C rfl (nI (0)) dX11_read_30 rfl ?_
    refine g_put (pc9 := 34) C rfl (0) 3 dX11_read_31 (by decide) (ce_0 w (sN (sN σ (0) 0 (nI (0))) (0) 2 (nI (0)))) (rfl) hin_11 hl_138 tyX11 tyX11_ok nmX11 rfl (by decide) rfl rfl rfl (Nat.le_of_ble_eq_true rfl) ?_
    refine g_aload_n (pc9 := 35) C rfl 1 dX11_read_34 rfl rfl ?_
    refine g_iconst (pc9 := 36) C rfl ((-1)) dX11_read_35 rfl ?_
    refine g_put (pc9 := 39) C rfl (0) 4 dX11_read_36 (by decide) (ce_0 w (sN (sN (sN σ (0) 0 (nI (0))) (0) 2 (nI (0))) (0) 3 (nI (0)))) (rfl) hin_11 hl_13 tyX11 tyX11_ok nmX11 rfl (by decide) rfl rfl rfl (Nat.le_of_ble_eq_true rfl) ?_
    refine g_aload_n (pc9 := 40) C rfl 1 dX11_read_39 rfl rfl ?_
    refine g_iload_n (pc9 := 41) C rfl 0 dX11_read_40 rfl rfl ?_
    refine g_callVi (nn := 1) (rest := []) (pc9 := 44) C rfl (0) [.int (nI (L))] rfl dX11_read_41 (m_X11_reads l w (mR2 σ) L hL4) gX11_read_X11_reads (by decide) (ce_0 w (sN (sN (sN (sN σ (0) 0 (nI (0))) (0) 2 (nI (0))) (0) 3 (nI (0))) (0) 4 ((-1)))) rfl rfl rfl rfl rfl (by decide +kernel) ⟨by decide, by decide⟩ rfl (Nat.le_of_ble_eq_true rfl) ⟨by decide, by decide⟩ (fun r_4 σ_4 q_4 => ?_)
    refine g_istore_n (pc9 := 45) C rfl [(3, .int (r_4)), (2, .int (nI (L))), (0, .ref (w.1 (0))), (1, .int (nI (i)))] dX11_read_44 rfl (by decide) rfl ?_
    rcases q_4 with ⟨hz, qr, op, c9, a9, qs⟩ | ⟨hz, qr, n9, h9, k9, op, c9, a9, qs⟩
    · replace hz : (mX σ L).1 = 0 := hz
      replace qr : r_4 = nI (rdU (iA σ 1) (0, 0, 0, iA σ 15) L).2.1 := qr
      replace qs : σ_4 = rdT (mR2 σ) (gwU (iA σ 1) gz L) op c9 a9 := qs
      rw [qr, qs]
      refine g_aload_n (pc9 := 46) C rfl 2 dX11_read_45 rfl rfl ?_
      refine g_iload_n (pc9 := 47) C rfl 0 dX11_read_46 rfl rfl ?_
      have h24 := rdU_24 (f := iA σ 1) (c := iA σ 15) L
      refine g_if_ge (pc9 := 50) C rfl 54 dX11_read_47 rfl (fun c_5 => ?_) (fun c_5 => ?_)
      · replace c_5 := (z_ge (by omega)).mp c_5
        refine g_iconst (pc9 := 55) C rfl (nI (0)) dX11_read_54 rfl ?_
        refine g_iconst (pc9 := 56) C rfl (nI (2)) dX11_read_55 rfl ?_
        refine g_callVi (nn := 2) (rest := []) (pc9 := 59) C rfl (0) [.int (nI (0)), .int (nI (2))] rfl dX11_read_56 (m_throws0 l w ((rdT (mR2 σ) (gwU (iA σ 1) gz L) op c9 a9)) 2) gX11_read_X11_throwsIf (by decide) (ce_0 w ((rdT (mR2 σ) (gwU (iA σ 1) gz L) op c9 a9))) rfl rfl rfl rfl rfl (by decide +kernel) ⟨by decide, by decide⟩ rfl (Nat.le_of_ble_eq_true rfl) ⟨by decide, by decide⟩ (fun r_6 σ_6 q_6 => ?_)
        obtain ⟨qs_6, qr_6⟩ := q_6
        rw [qs_6, qr_6]
        refine g_if_eq (pc9 := 62) C rfl 64 dX11_read_59 rfl (fun c_7 => ?_) (fun c_7 => ?_)
        · refine g_aload_n (pc9 := 65) C rfl 2 dX11_read_64 rfl rfl ?_
          refine g_bipush (pc9 := 67) C rfl (nI (8)) dX11_read_65 rfl ?_
          refine g_iload_n (pc9 := 68) C rfl 3 dX11_read_67 rfl rfl ?_
          refine g_callVv (nn := 2) (rest := []) (pc9 := 71) C rfl (0) [.int (nI (8)), .int (nI (i))] rfl dX11_read_68 (m_X11_copies l w (rdT (mR2 σ) (gwU (iA σ 1) gz L) op c9 a9) i hb_i (gwU (iA σ 1) gz L).1 (upd_8 (iA σ 2) _) (gz_47 hL4 hz).2) gX11_read_X11_copies (by decide) (ce_0 w ((rdT (mR2 σ) (gwU (iA σ 1) gz L) op c9 a9))) rfl rfl rfl rfl rfl (by decide +kernel) ⟨by decide, by decide⟩ rfl (Nat.le_of_ble_eq_true rfl) ⟨by decide, by decide⟩ (fun σ_8 q_8 => ?_)
          replace q_8 : σ_8 = (mcpS (rdT (mR2 σ) (gwU (iA σ 1) gz L) op c9 a9) i (gwU (iA σ 1) gz L).1) := q_8
          rw [q_8]
          clear q_8
          refine g_iload_n (pc9 := 72) C rfl 0 dX11_read_71 rfl rfl ?_
          exact g_ireturn C hr hlk dX11_read_72 (Or.inr ⟨i, hb_i, rfl, Or.inr ⟨hz, rfl, op, c9, a9, rfl⟩⟩)
        · exact absurd c_7 (by decide)
      · replace c_5 := (not_congr (z_ge (by omega))).mp c_5
        exact absurd c_5 (by simp)
    · replace hz : ¬ (mX σ L).1 = 0 := hz
      replace qs : σ_4 = sN (sN (rdM (mR2 σ) n9 h9 k9 op c9 a9) 0 3 (mX σ L).1) 0 4 (mX σ L).2.1 := qs
      rw [qr, qs]
      refine g_aload_n (pc9 := 46) C rfl 2 dX11_read_45 rfl rfl ?_
      refine g_iload_n (pc9 := 47) C rfl 0 dX11_read_46 rfl rfl ?_
      refine g_if_ge (pc9 := 50) C rfl 54 dX11_read_47 rfl (fun c_9 => ?_) (fun c_9 => ?_)
      · exact absurd c_9 (by decide)
      · refine g_iconst (pc9 := 51) C rfl (nI (1)) dX11_read_50 rfl ?_
        refine g_goto C 55 dX11_read_51 rfl ?_
        refine g_iconst (pc9 := 56) C rfl (nI (2)) dX11_read_55 rfl ?_
        refine g_callVi (nn := 2) (rest := []) (pc9 := 59) C rfl (0) [.int (nI (1)), .int (nI (2))] rfl dX11_read_56 (m_throws1 l w (sN (sN (rdM (mR2 σ) n9 h9 k9 op c9 a9) 0 3 (mX σ L).1) 0 4 (mX σ L).2.1) 2) gX11_read_X11_throwsIf (by decide) (ce_0 w ((sN (sN (rdM (mR2 σ) n9 h9 k9 op c9 a9) 0 3 (mX σ L).1) 0 4 (mX σ L).2.1))) rfl rfl rfl rfl rfl (by decide +kernel) ⟨by decide, by decide⟩ rfl (Nat.le_of_ble_eq_true rfl) ⟨by decide, by decide⟩ (fun r_10 σ_10 q_10 => ?_)
        obtain ⟨qs_10, qr_10⟩ := q_10
        rw [qs_10, qr_10]
        refine g_if_eq (pc9 := 62) C rfl 64 dX11_read_59 rfl (fun c_11 => ?_) (fun c_11 => ?_)
        · exact absurd c_11 (by decide)
        · refine g_iconst (pc9 := 63) C rfl (nI (0)) dX11_read_62 rfl ?_
          exact g_ireturn C hr hlk dX11_read_63 (Or.inr ⟨i, hb_i, rfl, Or.inl ⟨hz, n9, h9, k9, op, c9, a9, rfl⟩⟩)
  · have hns : ¬ okI 8 x := pI_ye c_3
    refine g_st (σ9 := sN (sN σ (0) 0 (nI (1))) (0) 2 (nI (0))) ((qt_2 hns).trans (by show sN (sN (sN σ (0) 0 (nI (0))) (0) 2 (nI (0))) (0) 0 (nI (1)) = sN (sN σ (0) 0 (nI (1))) (0) 2 (nI (0)); rw [sN_cm (a := 0) (k := 2) (b := 0) (k9 := 0) (Or.inr (by decide)), sN_sN])) ?_
    refine g_iconst (pc9 := 28) C rfl (nI (0)) dX11_read_27 rfl ?_
    exact g_ireturn C hr hlk dX11_read_28 (Or.inl ⟨hns, by first | rfl | (rw [sN_cm (a := 0) (k := 0) (b := 0) (k9 := 2) (Or.inr (by decide))])⟩)
def mtrP (σ : St) (z : Nat) (x y u : Int32) (r : Int32) (σ9 : St) : Prop := (¬ (okI 12 x ∧ okI 12 y ∧ okI 12 u) ∧ σ9 = mT σ 1) ∨ (∃ a b d, a < 12 ∧ b < 12 ∧ d < 12 ∧ x = nI a ∧ y = nI b ∧ u = nI d ∧ (((a = b ∨ a = d ∨ b = d) ∧ σ9 = mT σ 2) ∨ (¬ (a = b ∨ a = d ∨ b = d) ∧ z = 80 ∧ σ9 = mT σ 3) ∨ (¬ (a = b ∨ a = d ∨ b = d) ∧ ¬ z = 80 ∧ σ9 = sN (sI (sI (sI (mT σ 0) 5 (upd (iA σ 5) z (nI a))) 6 (upd (iA σ 6) z (nI b))) 7 (upd (iA σ 7) z (nI d))) 0 11 (nI (z + 1)) ∧ r = nI (z + 1))))
set_option maxRecDepth 100000 in
set_option maxHeartbeats 4000000 in
theorem m_X11_triple (l : Launch) (w : Wd) (σ : St) (z : Nat) (hz : nF σ 0 11 = nI z) (h80 : z ≤ 80) (x y u : Int32) : MI l yX11_triple wsX11_triple (rmL 2) w [.ref (w.1 (0)), .int (x), .int (y), .int (u)] (σ) (mtrP σ z x y u) := by
  refine MI_of (cc := cX11_triple) (maxL := 4) (ret := .int) (by decide) rfl (Nat.le_of_ble_eq_true rfl) ?_
  intro p e s m args below meth c A C hr hlk
  have C : Cx p s m args c w A cX11_triple RX11 4 wsX11_triple := C
  have hin_11 : ∀ u ∈ wsX110, u ∈ wsX11_triple := by decide +kernel
  have hl_27 : Cond.fieldLink RX11 27 "LineageBenchModel" "tripleA" "[I" ∈ wsX11_triple := by decide +kernel
  have hl_30 : Cond.fieldLink RX11 30 "LineageBenchModel" "tripleB" "[I" ∈ wsX11_triple := by decide +kernel
  have hl_33 : Cond.fieldLink RX11 33 "LineageBenchModel" "tripleC" "[I" ∈ wsX11_triple := by decide +kernel
  have hl_107 : Cond.fieldLink RX11 107 "LineageBenchModel" "thrown" "I" ∈ wsX11_triple := by decide +kernel
  have hl_222 : Cond.fieldLink RX11 222 "LineageBenchModel" "triples" "I" ∈ wsX11_triple := by decide +kernel
  refine g_aload_n (pc9 := 1) C rfl 0 dX11_triple_0 rfl rfl ?_
  refine g_iconst (pc9 := 2) C rfl (nI (0)) dX11_triple_1 rfl ?_
  refine g_put (pc9 := 5) C rfl (0) 0 dX11_triple_2 (by decide) (ce_0 w (σ)) (rfl) hin_11 hl_107 tyX11 tyX11_ok nmX11 rfl (by decide) rfl rfl rfl (Nat.le_of_ble_eq_true rfl) ?_
  refine g_aload_n (pc9 := 6) C rfl 0 dX11_triple_5 rfl rfl ?_
  refine g_iload_n (pc9 := 7) C rfl 1 dX11_triple_6 rfl rfl ?_
  refine g_callSi (nn := 1) (rest := [.ref (w.1 (0))]) (pc9 := 10) C rfl [.int (x)] rfl dX11_triple_7 (m_X11_noKind l w (sN σ (0) 0 (nI (0))) x) gX11_triple_X11_noKind rfl rfl rfl (by decide +kernel) ⟨by decide, by decide⟩ rfl (Nat.le_of_ble_eq_true rfl) ⟨by decide, by decide⟩ (fun r_1 σ_1 q_1 => ?_)
  obtain ⟨qs_1, qr_1⟩ := q_1
  rw [qs_1, qr_1]
  clear qs_1 qr_1
  refine g_if_ne (pc9 := 13) C rfl 27 dX11_triple_10 rfl (fun c_2 => ?_) (fun c_2 => ?_)
  · have hns : ¬ (okI 12 x ∧ okI 12 y ∧ okI 12 u) := fun h => pI_ye c_2 h.1
    refine g_iconst (pc9 := 28) C rfl (nI (1)) dX11_triple_27 rfl ?_
    refine g_goto C 32 dX11_triple_28 rfl ?_
    refine g_iconst (pc9 := 33) C rfl (nI (1)) dX11_triple_32 rfl ?_
    refine g_callVi (nn := 2) (rest := []) (pc9 := 36) C rfl (0) [.int (nI (1)), .int (nI (1))] rfl dX11_triple_33 (m_throws1 l w (sN σ (0) 0 (nI (0))) 1) gX11_triple_X11_throwsIf (by decide) (ce_0 w (sN σ (0) 0 (nI (0)))) rfl rfl rfl rfl rfl (by decide +kernel) ⟨by decide, by decide⟩ rfl (Nat.le_of_ble_eq_true rfl) ⟨by decide, by decide⟩ (fun r_3 σ_3 q_3 => ?_)
    obtain ⟨qs_3, qr_3⟩ := q_3
    rw [qr_3]
    refine g_st (σ9 := sN σ (0) 0 (nI (1))) (qs_3.trans (by show sN (sN σ (0) 0 (nI (0))) (0) 0 (nI (1)) = sN σ (0) 0 (nI (1)); rw [sN_sN])) ?_
    refine g_if_ne (pc9 := 39) C rfl 89 dX11_triple_36 rfl (fun c_4 => ?_) (fun c_4 => ?_)
    · refine g_iconst (pc9 := 90) C rfl (nI (0)) dX11_triple_89 rfl ?_
      exact g_ireturn C hr hlk dX11_triple_90 (by first | exact Or.inl ⟨hns, rfl⟩ | exact Or.inr ⟨a, b, d, hb_a, hb_b, hb_d, rfl, rfl, rfl, Or.inr (Or.inl ⟨hbd, hz8, rfl⟩)⟩ | exact Or.inr ⟨a, b, d, hb_a, hb_b, hb_d, rfl, rfl, rfl, Or.inl ⟨hbd, rfl⟩⟩)
    · exact absurd c_4 (by decide)
  · have hs_10 := Classical.not_not.mp (pI_no c_2)
    refine g_iload_n (pc9 := 14) C rfl 2 dX11_triple_13 rfl rfl ?_
    refine g_callSi (nn := 1) (rest := [.ref (w.1 (0))]) (pc9 := 17) C rfl [.int (y)] rfl dX11_triple_14 (m_X11_noKind l w (sN σ (0) 0 (nI (0))) y) gX11_triple_X11_noKind rfl rfl rfl (by decide +kernel) ⟨by decide, by decide⟩ rfl (Nat.le_of_ble_eq_true rfl) ⟨by decide, by decide⟩ (fun r_5 σ_5 q_5 => ?_)
    obtain ⟨qs_5, qr_5⟩ := q_5
    rw [qs_5, qr_5]
    clear qs_5 qr_5
    refine g_if_ne (pc9 := 20) C rfl 27 dX11_triple_17 rfl (fun c_6 => ?_) (fun c_6 => ?_)
    · have hns : ¬ (okI 12 x ∧ okI 12 y ∧ okI 12 u) := fun h => pI_ye c_6 h.2.1
      refine g_iconst (pc9 := 28) C rfl (nI (1)) dX11_triple_27 rfl ?_
      refine g_goto C 32 dX11_triple_28 rfl ?_
      refine g_iconst (pc9 := 33) C rfl (nI (1)) dX11_triple_32 rfl ?_
      refine g_callVi (nn := 2) (rest := []) (pc9 := 36) C rfl (0) [.int (nI (1)), .int (nI (1))] rfl dX11_triple_33 (m_throws1 l w (sN σ (0) 0 (nI (0))) 1) gX11_triple_X11_throwsIf (by decide) (ce_0 w (sN σ (0) 0 (nI (0)))) rfl rfl rfl rfl rfl (by decide +kernel) ⟨by decide, by decide⟩ rfl (Nat.le_of_ble_eq_true rfl) ⟨by decide, by decide⟩ (fun r_7 σ_7 q_7 => ?_)
      obtain ⟨qs_7, qr_7⟩ := q_7
      rw [qr_7]
      refine g_st (σ9 := sN σ (0) 0 (nI (1))) (qs_7.trans (by show sN (sN σ (0) 0 (nI (0))) (0) 0 (nI (1)) = sN σ (0) 0 (nI (1)); rw [sN_sN])) ?_
      refine g_if_ne (pc9 := 39) C rfl 89 dX11_triple_36 rfl (fun c_8 => ?_) (fun c_8 => ?_)
      · refine g_iconst (pc9 := 90) C rfl (nI (0)) dX11_triple_89 rfl ?_
        exact g_ireturn C hr hlk dX11_triple_90 (by first | exact Or.inl ⟨hns, rfl⟩ | exact Or.inr ⟨a, b, d, hb_a, hb_b, hb_d, rfl, rfl, rfl, Or.inr (Or.inl ⟨hbd, hz8, rfl⟩)⟩ | exact Or.inr ⟨a, b, d, hb_a, hb_b, hb_d, rfl, rfl, rfl, Or.inl ⟨hbd, rfl⟩⟩)
      · exact absurd c_8 (by decide)
    · have hs_17 := Classical.not_not.mp (pI_no c_6)
      refine g_iload_n (pc9 := 21) C rfl 3 dX11_triple_20 rfl rfl ?_
      refine g_callSi (nn := 1) (rest := [.ref (w.1 (0))]) (pc9 := 24) C rfl [.int (u)] rfl dX11_triple_21 (m_X11_noKind l w (sN σ (0) 0 (nI (0))) u) gX11_triple_X11_noKind rfl rfl rfl (by decide +kernel) ⟨by decide, by decide⟩ rfl (Nat.le_of_ble_eq_true rfl) ⟨by decide, by decide⟩ (fun r_9 σ_9 q_9 => ?_)
      obtain ⟨qs_9, qr_9⟩ := q_9
      rw [qs_9, qr_9]
      clear qs_9 qr_9
      refine g_if_eq (pc9 := 27) C rfl 31 dX11_triple_24 rfl (fun c_10 => ?_) (fun c_10 => ?_)
      · have hs_24 := Classical.not_not.mp (pI_no c_10)
        obtain ⟨a, hb_a, hx_a⟩ := hs_10
        obtain ⟨b, hb_b, hx_b⟩ := hs_17
        obtain ⟨d, hb_d, hx_d⟩ := hs_24
        subst hx_a
        subst hx_b
        subst hx_d
        refine g_iconst (pc9 := 32) C rfl (nI (0)) dX11_triple_31 rfl ?_
        refine g_iconst (pc9 := 33) C rfl (nI (1)) dX11_triple_32 rfl ?_
        refine g_callVi (nn := 2) (rest := []) (pc9 := 36) C rfl (0) [.int (nI (0)), .int (nI (1))] rfl dX11_triple_33 (m_throws0 l w (sN σ (0) 0 (nI (0))) 1) gX11_triple_X11_throwsIf (by decide) (ce_0 w (sN σ (0) 0 (nI (0)))) rfl rfl rfl rfl rfl (by decide +kernel) ⟨by decide, by decide⟩ rfl (Nat.le_of_ble_eq_true rfl) ⟨by decide, by decide⟩ (fun r_11 σ_11 q_11 => ?_)
        obtain ⟨qs_11, qr_11⟩ := q_11
        rw [qs_11, qr_11]
        refine g_if_ne (pc9 := 39) C rfl 89 dX11_triple_36 rfl (fun c_12 => ?_) (fun c_12 => ?_)
        · exact absurd c_12 (by decide)
        · refine g_aload_n (pc9 := 40) C rfl 0 dX11_triple_39 rfl rfl ?_
          refine g_iload_n (pc9 := 41) C rfl 1 dX11_triple_40 rfl rfl ?_
          refine g_iload_n (pc9 := 42) C rfl 2 dX11_triple_41 rfl rfl ?_
          refine g_icmp_eq (pc9 := 45) C rfl 55 dX11_triple_42 rfl (fun c_13 => ?_) (fun c_13 => ?_)
          · replace c_13 := (nI_eq (by omega) (by omega)).mp c_13
            have hbd : a = b ∨ a = d ∨ b = d := Or.inl c_13
            refine g_iconst (pc9 := 56) C rfl (nI (1)) dX11_triple_55 rfl ?_
            refine g_goto C 60 dX11_triple_56 rfl ?_
            refine g_iconst (pc9 := 61) C rfl (nI (2)) dX11_triple_60 rfl ?_
            refine g_callVi (nn := 2) (rest := []) (pc9 := 64) C rfl (0) [.int (nI (1)), .int (nI (2))] rfl dX11_triple_61 (m_throws1 l w (sN σ (0) 0 (nI (0))) 2) gX11_triple_X11_throwsIf (by decide) (ce_0 w (sN σ (0) 0 (nI (0)))) rfl rfl rfl rfl rfl (by decide +kernel) ⟨by decide, by decide⟩ rfl (Nat.le_of_ble_eq_true rfl) ⟨by decide, by decide⟩ (fun r_14 σ_14 q_14 => ?_)
            obtain ⟨qs_14, qr_14⟩ := q_14
            rw [qr_14]
            refine g_st (σ9 := sN σ (0) 0 (nI (2))) (qs_14.trans (by show sN (sN σ (0) 0 (nI (0))) (0) 0 (nI (2)) = sN σ (0) 0 (nI (2)); rw [sN_sN])) ?_
            refine g_if_ne (pc9 := 67) C rfl 89 dX11_triple_64 rfl (fun c_15 => ?_) (fun c_15 => ?_)
            · refine g_iconst (pc9 := 90) C rfl (nI (0)) dX11_triple_89 rfl ?_
              exact g_ireturn C hr hlk dX11_triple_90 (by first | exact Or.inl ⟨hns, rfl⟩ | exact Or.inr ⟨a, b, d, hb_a, hb_b, hb_d, rfl, rfl, rfl, Or.inr (Or.inl ⟨hbd, hz8, rfl⟩)⟩ | exact Or.inr ⟨a, b, d, hb_a, hb_b, hb_d, rfl, rfl, rfl, Or.inl ⟨hbd, rfl⟩⟩)
            · exact absurd c_15 (by decide)
          · replace c_13 := (not_congr (nI_eq (by omega) (by omega))).mp c_13
            refine g_iload_n (pc9 := 46) C rfl 1 dX11_triple_45 rfl rfl ?_
            refine g_iload_n (pc9 := 47) C rfl 3 dX11_triple_46 rfl rfl ?_
            refine g_icmp_eq (pc9 := 50) C rfl 55 dX11_triple_47 rfl (fun c_16 => ?_) (fun c_16 => ?_)
            · replace c_16 := (nI_eq (by omega) (by omega)).mp c_16
              have hbd : a = b ∨ a = d ∨ b = d := Or.inr (Or.inl c_16)
              refine g_iconst (pc9 := 56) C rfl (nI (1)) dX11_triple_55 rfl ?_
              refine g_goto C 60 dX11_triple_56 rfl ?_
              refine g_iconst (pc9 := 61) C rfl (nI (2)) dX11_triple_60 rfl ?_
              refine g_callVi (nn := 2) (rest := []) (pc9 := 64) C rfl (0) [.int (nI (1)), .int (nI (2))] rfl dX11_triple_61 (m_throws1 l w (sN σ (0) 0 (nI (0))) 2) gX11_triple_X11_throwsIf (by decide) (ce_0 w (sN σ (0) 0 (nI (0)))) rfl rfl rfl rfl rfl (by decide +kernel) ⟨by decide, by decide⟩ rfl (Nat.le_of_ble_eq_true rfl) ⟨by decide, by decide⟩ (fun r_17 σ_17 q_17 => ?_)
              obtain ⟨qs_17, qr_17⟩ := q_17
              rw [qr_17]
              refine g_st (σ9 := sN σ (0) 0 (nI (2))) (qs_17.trans (by show sN (sN σ (0) 0 (nI (0))) (0) 0 (nI (2)) = sN σ (0) 0 (nI (2)); rw [sN_sN])) ?_
              refine g_if_ne (pc9 := 67) C rfl 89 dX11_triple_64 rfl (fun c_18 => ?_) (fun c_18 => ?_)
              · refine g_iconst (pc9 := 90) C rfl (nI (0)) dX11_triple_89 rfl ?_
                exact g_ireturn C hr hlk dX11_triple_90 (by first | exact Or.inl ⟨hns, rfl⟩ | exact Or.inr ⟨a, b, d, hb_a, hb_b, hb_d, rfl, rfl, rfl, Or.inr (Or.inl ⟨hbd, hz8, rfl⟩)⟩ | exact Or.inr ⟨a, b, d, hb_a, hb_b, hb_d, rfl, rfl, rfl, Or.inl ⟨hbd, rfl⟩⟩)
              · exact absurd c_18 (by decide)
            · replace c_16 := (not_congr (nI_eq (by omega) (by omega))).mp c_16
              refine g_iload_n (pc9 := 51) C rfl 2 dX11_triple_50 rfl rfl ?_
              refine g_iload_n (pc9 := 52) C rfl 3 dX11_triple_51 rfl rfl ?_
              refine g_icmp_ne (pc9 := 55) C rfl 59 dX11_triple_52 rfl (fun c_19 => ?_) (fun c_19 => ?_)
              · replace c_19 := (not_congr (nI_eq (by omega) (by omega))).mp c_19
                have hbd : ¬ (a = b ∨ a = d ∨ b = d) := fun h => by rcases h with h | h | h <;> contradiction
                refine g_iconst (pc9 := 60) C rfl (nI (0)) dX11_triple_59 rfl ?_
                refine g_iconst (pc9 := 61) C rfl (nI (2)) dX11_triple_60 rfl ?_
                refine g_callVi (nn := 2) (rest := []) (pc9 := 64) C rfl (0) [.int (nI (0)), .int (nI (2))] rfl dX11_triple_61 (m_throws0 l w (sN σ (0) 0 (nI (0))) 2) gX11_triple_X11_throwsIf (by decide) (ce_0 w (sN σ (0) 0 (nI (0)))) rfl rfl rfl rfl rfl (by decide +kernel) ⟨by decide, by decide⟩ rfl (Nat.le_of_ble_eq_true rfl) ⟨by decide, by decide⟩ (fun r_20 σ_20 q_20 => ?_)
                obtain ⟨qs_20, qr_20⟩ := q_20
                rw [qs_20, qr_20]
                refine g_if_ne (pc9 := 67) C rfl 89 dX11_triple_64 rfl (fun c_21 => ?_) (fun c_21 => ?_)
                · exact absurd c_21 (by decide)
                · refine g_aload_n (pc9 := 68) C rfl 0 dX11_triple_67 rfl rfl ?_
                  refine g_aload_n (pc9 := 69) C rfl 0 dX11_triple_68 rfl rfl ?_
                  refine g_get (v := .int (nI (z))) (pc9 := 72) C rfl (0) 11 dX11_triple_69 (by decide) (ce_0 w (sN σ (0) 0 (nI (0)))) hin_11 hl_222 rfl (by decide) rfl (congrArg (fun z => some (Value.int z)) ((nF_k (k := 0) (k9 := 11) (by decide)).trans hz)) ?_
                  refine g_bipush (pc9 := 74) C rfl (nI (80)) dX11_triple_72 rfl ?_
                  refine g_icmp_ne (pc9 := 77) C rfl 81 dX11_triple_74 rfl (fun c_22 => ?_) (fun c_22 => ?_)
                  · replace c_22 := (not_congr (nI_eq (by omega) (by omega))).mp c_22
                    have hz8 : ¬ z = 80 := by omega
                    refine g_iconst (pc9 := 82) C rfl (nI (0)) dX11_triple_81 rfl ?_
                    refine g_iconst (pc9 := 83) C rfl (nI (3)) dX11_triple_82 rfl ?_
                    refine g_callVi (nn := 2) (rest := []) (pc9 := 86) C rfl (0) [.int (nI (0)), .int (nI (3))] rfl dX11_triple_83 (m_throws0 l w (sN σ (0) 0 (nI (0))) 3) gX11_triple_X11_throwsIf (by decide) (ce_0 w (sN σ (0) 0 (nI (0)))) rfl rfl rfl rfl rfl (by decide +kernel) ⟨by decide, by decide⟩ rfl (Nat.le_of_ble_eq_true rfl) ⟨by decide, by decide⟩ (fun r_23 σ_23 q_23 => ?_)
                    obtain ⟨qs_23, qr_23⟩ := q_23
                    rw [qs_23, qr_23]
                    refine g_if_eq (pc9 := 89) C rfl 91 dX11_triple_86 rfl (fun c_24 => ?_) (fun c_24 => ?_)
                    · refine g_aload_n (pc9 := 92) C rfl 0 dX11_triple_91 rfl rfl ?_
                      refine g_get (v := .ref (w.1 (5))) (pc9 := 95) C rfl (0) 8 dX11_triple_92 (by decide) (ce_0 w (sN σ (0) 0 (nI (0)))) hin_11 hl_27 rfl (by decide) rfl rfl ?_
                      refine g_aload_n (pc9 := 96) C rfl 0 dX11_triple_95 rfl rfl ?_
                      refine g_get (v := .int (nI (z))) (pc9 := 99) C rfl (0) 11 dX11_triple_96 (by decide) (ce_0 w (sN σ (0) 0 (nI (0)))) hin_11 hl_222 rfl (by decide) rfl (congrArg (fun z => some (Value.int z)) ((nF_k (k := 0) (k9 := 11) (by decide)).trans hz)) ?_
                      refine g_iload_n (pc9 := 100) C rfl 1 dX11_triple_99 rfl rfl ?_
                      refine g_iast (pc9 := 101) C rfl (5) (z) (iA σ (5)) dX11_triple_100 (by decide) (fun _ => rfl) (ce_5 w (sN σ (0) 0 (nI (0)))) rfl (by omega) (by decide) (iA_N) ?_
                      refine g_aload_n (pc9 := 102) C rfl 0 dX11_triple_101 rfl rfl ?_
                      refine g_get (v := .ref (w.1 (6))) (pc9 := 105) C rfl (0) 9 dX11_triple_102 (by decide) (ce_0 w (sI (sN σ (0) 0 (nI (0))) (5) (upd (iA σ (5)) (z) (nI (a))))) hin_11 hl_30 rfl (by decide) rfl rfl ?_
                      refine g_aload_n (pc9 := 106) C rfl 0 dX11_triple_105 rfl rfl ?_
                      refine g_get (v := .int (nI (z))) (pc9 := 109) C rfl (0) 11 dX11_triple_106 (by decide) (ce_0 w (sI (sN σ (0) 0 (nI (0))) (5) (upd (iA σ (5)) (z) (nI (a))))) hin_11 hl_222 rfl (by decide) rfl (congrArg (fun z => some (Value.int z)) (((nF_I).trans (nF_k (k := 0) (k9 := 11) (by decide))).trans hz)) ?_
                      refine g_iload_n (pc9 := 110) C rfl 2 dX11_triple_109 rfl rfl ?_
                      refine g_iast (pc9 := 111) C rfl (6) (z) (iA σ (6)) dX11_triple_110 (by decide) (fun _ => rfl) (ce_6 w (sI (sN σ (0) 0 (nI (0))) (5) (upd (iA σ (5)) (z) (nI (a))))) rfl (by omega) (by decide) ((iA_n (by decide)).trans (iA_N)) ?_
                      refine g_aload_n (pc9 := 112) C rfl 0 dX11_triple_111 rfl rfl ?_
                      refine g_get (v := .ref (w.1 (7))) (pc9 := 115) C rfl (0) 10 dX11_triple_112 (by decide) (ce_0 w (sI (sI (sN σ (0) 0 (nI (0))) (5) (upd (iA σ (5)) (z) (nI (a)))) (6) (upd (iA σ (6)) (z) (nI (b))))) hin_11 hl_33 rfl (by decide) rfl rfl ?_
                      refine g_aload_n (pc9 := 116) C rfl 0 dX11_triple_115 rfl rfl ?_
                      refine g_get (v := .int (nI (z))) (pc9 := 119) C rfl (0) 11 dX11_triple_116 (by decide) (ce_0 w (sI (sI (sN σ (0) 0 (nI (0))) (5) (upd (iA σ (5)) (z) (nI (a)))) (6) (upd (iA σ (6)) (z) (nI (b))))) hin_11 hl_222 rfl (by decide) rfl (congrArg (fun z => some (Value.int z)) ((((nF_I).trans (nF_I)).trans (nF_k (k := 0) (k9 := 11) (by decide))).trans hz)) ?_
                      refine g_iload_n (pc9 := 120) C rfl 3 dX11_triple_119 rfl rfl ?_
                      refine g_iast (pc9 := 121) C rfl (7) (z) (iA σ (7)) dX11_triple_120 (by decide) (fun _ => rfl) (ce_7 w (sI (sI (sN σ (0) 0 (nI (0))) (5) (upd (iA σ (5)) (z) (nI (a)))) (6) (upd (iA σ (6)) (z) (nI (b))))) rfl (by omega) (by decide) (((iA_n (by decide)).trans (iA_n (by decide))).trans (iA_N)) ?_
                      refine g_aload_n (pc9 := 122) C rfl 0 dX11_triple_121 rfl rfl ?_
                      refine g_dup (pc9 := 123) C rfl dX11_triple_122 rfl ?_
                      refine g_get (v := .int (nI (z))) (pc9 := 126) C rfl (0) 11 dX11_triple_123 (by decide) (ce_0 w (sI (sI (sI (sN σ (0) 0 (nI (0))) (5) (upd (iA σ (5)) (z) (nI (a)))) (6) (upd (iA σ (6)) (z) (nI (b)))) (7) (upd (iA σ (7)) (z) (nI (d))))) hin_11 hl_222 rfl (by decide) rfl (congrArg (fun z => some (Value.int z)) (((((nF_I).trans (nF_I)).trans (nF_I)).trans (nF_k (k := 0) (k9 := 11) (by decide))).trans hz)) ?_
                      refine g_iconst (pc9 := 127) C rfl (nI (1)) dX11_triple_126 rfl ?_
                      refine g_iaddN (pc9 := 128) C rfl dX11_triple_127 ?_
                      refine g_put (pc9 := 131) C rfl (0) 11 dX11_triple_128 (by decide) (ce_0 w (sI (sI (sI (sN σ (0) 0 (nI (0))) (5) (upd (iA σ (5)) (z) (nI (a)))) (6) (upd (iA σ (6)) (z) (nI (b)))) (7) (upd (iA σ (7)) (z) (nI (d))))) (rfl) hin_11 hl_222 tyX11 tyX11_ok nmX11 rfl (by decide) rfl rfl rfl (Nat.le_of_ble_eq_true rfl) ?_
                      refine g_aload_n (pc9 := 132) C rfl 0 dX11_triple_131 rfl rfl ?_
                      refine g_get (v := .int (nI (z + 1))) (pc9 := 135) C rfl (0) 11 dX11_triple_132 (by decide) (ce_0 w (sN (sI (sI (sI (sN σ (0) 0 (nI (0))) (5) (upd (iA σ (5)) (z) (nI (a)))) (6) (upd (iA σ (6)) (z) (nI (b)))) (7) (upd (iA σ (7)) (z) (nI (d)))) (0) 11 (nI (z + 1)))) hin_11 hl_222 rfl (by decide) rfl (congrArg (fun z => some (Value.int z)) (nF_s)) ?_
                      exact g_ireturn C hr hlk dX11_triple_135 (Or.inr ⟨a, b, d, hb_a, hb_b, hb_d, rfl, rfl, rfl, Or.inr (Or.inr ⟨hbd, hz8, rfl, rfl⟩)⟩)
                    · exact absurd c_24 (by decide)
                  · replace c_22 := (nI_eq (by omega) (by omega)).mp c_22
                    have hz8 : z = 80 := by omega
                    refine g_iconst (pc9 := 78) C rfl (nI (1)) dX11_triple_77 rfl ?_
                    refine g_goto C 82 dX11_triple_78 rfl ?_
                    refine g_iconst (pc9 := 83) C rfl (nI (3)) dX11_triple_82 rfl ?_
                    refine g_callVi (nn := 2) (rest := []) (pc9 := 86) C rfl (0) [.int (nI (1)), .int (nI (3))] rfl dX11_triple_83 (m_throws1 l w (sN σ (0) 0 (nI (0))) 3) gX11_triple_X11_throwsIf (by decide) (ce_0 w (sN σ (0) 0 (nI (0)))) rfl rfl rfl rfl rfl (by decide +kernel) ⟨by decide, by decide⟩ rfl (Nat.le_of_ble_eq_true rfl) ⟨by decide, by decide⟩ (fun r_25 σ_25 q_25 => ?_)
                    obtain ⟨qs_25, qr_25⟩ := q_25
                    rw [qr_25]
                    refine g_st (σ9 := sN σ (0) 0 (nI (3))) (qs_25.trans (by show sN (sN σ (0) 0 (nI (0))) (0) 0 (nI (3)) = sN σ (0) 0 (nI (3)); rw [sN_sN])) ?_
                    refine g_if_eq (pc9 := 89) C rfl 91 dX11_triple_86 rfl (fun c_26 => ?_) (fun c_26 => ?_)
                    · exact absurd c_26 (by decide)
                    · refine g_iconst (pc9 := 90) C rfl (nI (0)) dX11_triple_89 rfl ?_
                      exact g_ireturn C hr hlk dX11_triple_90 (by first | exact Or.inl ⟨hns, rfl⟩ | exact Or.inr ⟨a, b, d, hb_a, hb_b, hb_d, rfl, rfl, rfl, Or.inr (Or.inl ⟨hbd, hz8, rfl⟩)⟩ | exact Or.inr ⟨a, b, d, hb_a, hb_b, hb_d, rfl, rfl, rfl, Or.inl ⟨hbd, rfl⟩⟩)
              · replace c_19 := (nI_eq (by omega) (by omega)).mp c_19
                have hbd : a = b ∨ a = d ∨ b = d := Or.inr (Or.inr c_19)
                refine g_iconst (pc9 := 56) C rfl (nI (1)) dX11_triple_55 rfl ?_
                refine g_goto C 60 dX11_triple_56 rfl ?_
                refine g_iconst (pc9 := 61) C rfl (nI (2)) dX11_triple_60 rfl ?_
                refine g_callVi (nn := 2) (rest := []) (pc9 := 64) C rfl (0) [.int (nI (1)), .int (nI (2))] rfl dX11_triple_61 (m_throws1 l w (sN σ (0) 0 (nI (0))) 2) gX11_triple_X11_throwsIf (by decide) (ce_0 w (sN σ (0) 0 (nI (0)))) rfl rfl rfl rfl rfl (by decide +kernel) ⟨by decide, by decide⟩ rfl (Nat.le_of_ble_eq_true rfl) ⟨by decide, by decide⟩ (fun r_27 σ_27 q_27 => ?_)
                obtain ⟨qs_27, qr_27⟩ := q_27
                rw [qr_27]
                refine g_st (σ9 := sN σ (0) 0 (nI (2))) (qs_27.trans (by show sN (sN σ (0) 0 (nI (0))) (0) 0 (nI (2)) = sN σ (0) 0 (nI (2)); rw [sN_sN])) ?_
                refine g_if_ne (pc9 := 67) C rfl 89 dX11_triple_64 rfl (fun c_28 => ?_) (fun c_28 => ?_)
                · refine g_iconst (pc9 := 90) C rfl (nI (0)) dX11_triple_89 rfl ?_
                  exact g_ireturn C hr hlk dX11_triple_90 (by first | exact Or.inl ⟨hns, rfl⟩ | exact Or.inr ⟨a, b, d, hb_a, hb_b, hb_d, rfl, rfl, rfl, Or.inr (Or.inl ⟨hbd, hz8, rfl⟩)⟩ | exact Or.inr ⟨a, b, d, hb_a, hb_b, hb_d, rfl, rfl, rfl, Or.inl ⟨hbd, rfl⟩⟩)
                · exact absurd c_28 (by decide)
      · have hns : ¬ (okI 12 x ∧ okI 12 y ∧ okI 12 u) := fun h => pI_ye c_10 h.2.2
        refine g_iconst (pc9 := 28) C rfl (nI (1)) dX11_triple_27 rfl ?_
        refine g_goto C 32 dX11_triple_28 rfl ?_
        refine g_iconst (pc9 := 33) C rfl (nI (1)) dX11_triple_32 rfl ?_
        refine g_callVi (nn := 2) (rest := []) (pc9 := 36) C rfl (0) [.int (nI (1)), .int (nI (1))] rfl dX11_triple_33 (m_throws1 l w (sN σ (0) 0 (nI (0))) 1) gX11_triple_X11_throwsIf (by decide) (ce_0 w (sN σ (0) 0 (nI (0)))) rfl rfl rfl rfl rfl (by decide +kernel) ⟨by decide, by decide⟩ rfl (Nat.le_of_ble_eq_true rfl) ⟨by decide, by decide⟩ (fun r_29 σ_29 q_29 => ?_)
        obtain ⟨qs_29, qr_29⟩ := q_29
        rw [qr_29]
        refine g_st (σ9 := sN σ (0) 0 (nI (1))) (qs_29.trans (by show sN (sN σ (0) 0 (nI (0))) (0) 0 (nI (1)) = sN σ (0) 0 (nI (1)); rw [sN_sN])) ?_
        refine g_if_ne (pc9 := 39) C rfl 89 dX11_triple_36 rfl (fun c_30 => ?_) (fun c_30 => ?_)
        · refine g_iconst (pc9 := 90) C rfl (nI (0)) dX11_triple_89 rfl ?_
          exact g_ireturn C hr hlk dX11_triple_90 (by first | exact Or.inl ⟨hns, rfl⟩ | exact Or.inr ⟨a, b, d, hb_a, hb_b, hb_d, rfl, rfl, rfl, Or.inr (Or.inl ⟨hbd, hz8, rfl⟩)⟩ | exact Or.inr ⟨a, b, d, hb_a, hb_b, hb_d, rfl, rfl, rfl, Or.inl ⟨hbd, rfl⟩⟩)
        · exact absurd c_30 (by decide)
def msiP (σ : St) (z : Nat) (x : Int32) (r : Int32) (σ9 : St) : Prop := (¬ okR 0 4095 x ∧ σ9 = mT σ 1) ∨ (okR 0 4095 x ∧ z = 16 ∧ σ9 = mT σ 2) ∨ (okR 0 4095 x ∧ ¬ z = 16 ∧ σ9 = sN (sI (mT σ 0) 8 (upd (iA σ 8) z x)) 0 13 (nI (z + 1)) ∧ r = nI (z + 1))
set_option maxRecDepth 100000 in
set_option maxHeartbeats 4000000 in
theorem m_X11_sign (l : Launch) (w : Wd) (σ : St) (z : Nat) (hz : nF σ 0 13 = nI z) (h16 : z ≤ 16) (x : Int32) : MI l yX11_sign wsX11_sign (rmL 2) w [.ref (w.1 (0)), .int (x)] (σ) (msiP σ z x) := by
  refine MI_of (cc := cX11_sign) (maxL := 2) (ret := .int) (by decide) rfl (Nat.le_of_ble_eq_true rfl) ?_
  intro p e s m args below meth c A C hr hlk
  have C : Cx p s m args c w A cX11_sign RX11 2 wsX11_sign := C
  have hin_11 : ∀ u ∈ wsX110, u ∈ wsX11_sign := by decide +kernel
  have hl_36 : Cond.fieldLink RX11 36 "LineageBenchModel" "signs" "[I" ∈ wsX11_sign := by decide +kernel
  have hl_107 : Cond.fieldLink RX11 107 "LineageBenchModel" "thrown" "I" ∈ wsX11_sign := by decide +kernel
  have hl_231 : Cond.fieldLink RX11 231 "LineageBenchModel" "signMany" "I" ∈ wsX11_sign := by decide +kernel
  refine g_aload_n (pc9 := 1) C rfl 0 dX11_sign_0 rfl rfl ?_
  refine g_iconst (pc9 := 2) C rfl (nI (0)) dX11_sign_1 rfl ?_
  refine g_put (pc9 := 5) C rfl (0) 0 dX11_sign_2 (by decide) (ce_0 w (σ)) (rfl) hin_11 hl_107 tyX11 tyX11_ok nmX11 rfl (by decide) rfl rfl rfl (Nat.le_of_ble_eq_true rfl) ?_
  refine g_aload_n (pc9 := 6) C rfl 0 dX11_sign_5 rfl rfl ?_
  refine g_iload_n (pc9 := 7) C rfl 1 dX11_sign_6 rfl rfl ?_
  refine g_if_lt (pc9 := 10) C rfl 17 dX11_sign_7 rfl (fun c_1 => ?_) (fun c_1 => ?_)
  · have hq : ¬ okR 0 4095 x := fun h => h.1 c_1
    refine g_iconst (pc9 := 18) C rfl (nI (1)) dX11_sign_17 rfl ?_
    refine g_goto C 22 dX11_sign_18 rfl ?_
    refine g_iconst (pc9 := 23) C rfl (nI (1)) dX11_sign_22 rfl ?_
    refine g_callVi (nn := 2) (rest := []) (pc9 := 26) C rfl (0) [.int (nI (1)), .int (nI (1))] rfl dX11_sign_23 (m_throws1 l w (sN σ (0) 0 (nI (0))) 1) gX11_sign_X11_throwsIf (by decide) (ce_0 w (sN σ (0) 0 (nI (0)))) rfl rfl rfl rfl rfl (by decide +kernel) ⟨by decide, by decide⟩ rfl (Nat.le_of_ble_eq_true rfl) ⟨by decide, by decide⟩ (fun r_2 σ_2 q_2 => ?_)
    obtain ⟨qs_2, qr_2⟩ := q_2
    rw [qr_2]
    refine g_st (σ9 := sN σ (0) 0 (nI (1))) (qs_2.trans (by show sN (sN σ (0) 0 (nI (0))) (0) 0 (nI (1)) = sN σ (0) 0 (nI (1)); rw [sN_sN])) ?_
    refine g_if_ne (pc9 := 29) C rfl 51 dX11_sign_26 rfl (fun c_3 => ?_) (fun c_3 => ?_)
    · refine g_iconst (pc9 := 52) C rfl (nI (0)) dX11_sign_51 rfl ?_
      exact g_ireturn C hr hlk dX11_sign_52 (by first | exact Or.inr (Or.inl ⟨hq, hz8, rfl⟩) | exact Or.inl ⟨hq, rfl⟩)
    · exact absurd c_3 (by decide)
  · have h0 : ¬ x < nI 0 := c_1
    refine g_iload_n (pc9 := 11) C rfl 1 dX11_sign_10 rfl rfl ?_
    refine g_sipush (pc9 := 14) C rfl (nI (4095)) dX11_sign_11 rfl ?_
    refine g_icmp_le (pc9 := 17) C rfl 21 dX11_sign_14 rfl (fun c_4 => ?_) (fun c_4 => ?_)
    · have hq : okR 0 4095 x := ⟨h0, Int32.not_lt.mpr c_4⟩
      refine g_iconst (pc9 := 22) C rfl (nI (0)) dX11_sign_21 rfl ?_
      refine g_iconst (pc9 := 23) C rfl (nI (1)) dX11_sign_22 rfl ?_
      refine g_callVi (nn := 2) (rest := []) (pc9 := 26) C rfl (0) [.int (nI (0)), .int (nI (1))] rfl dX11_sign_23 (m_throws0 l w (sN σ (0) 0 (nI (0))) 1) gX11_sign_X11_throwsIf (by decide) (ce_0 w (sN σ (0) 0 (nI (0)))) rfl rfl rfl rfl rfl (by decide +kernel) ⟨by decide, by decide⟩ rfl (Nat.le_of_ble_eq_true rfl) ⟨by decide, by decide⟩ (fun r_5 σ_5 q_5 => ?_)
      obtain ⟨qs_5, qr_5⟩ := q_5
      rw [qs_5, qr_5]
      refine g_if_ne (pc9 := 29) C rfl 51 dX11_sign_26 rfl (fun c_6 => ?_) (fun c_6 => ?_)
      · exact absurd c_6 (by decide)
      · refine g_aload_n (pc9 := 30) C rfl 0 dX11_sign_29 rfl rfl ?_
        refine g_aload_n (pc9 := 31) C rfl 0 dX11_sign_30 rfl rfl ?_
        refine g_get (v := .int (nI (z))) (pc9 := 34) C rfl (0) 13 dX11_sign_31 (by decide) (ce_0 w (sN σ (0) 0 (nI (0)))) hin_11 hl_231 rfl (by decide) rfl (congrArg (fun z => some (Value.int z)) ((nF_k (k := 0) (k9 := 13) (by decide)).trans hz)) ?_
        refine g_bipush (pc9 := 36) C rfl (nI (16)) dX11_sign_34 rfl ?_
        refine g_icmp_ne (pc9 := 39) C rfl 43 dX11_sign_36 rfl (fun c_7 => ?_) (fun c_7 => ?_)
        · replace c_7 := (not_congr (nI_eq (by omega) (by omega))).mp c_7
          have hz8 : ¬ z = 16 := by omega
          refine g_iconst (pc9 := 44) C rfl (nI (0)) dX11_sign_43 rfl ?_
          refine g_iconst (pc9 := 45) C rfl (nI (2)) dX11_sign_44 rfl ?_
          refine g_callVi (nn := 2) (rest := []) (pc9 := 48) C rfl (0) [.int (nI (0)), .int (nI (2))] rfl dX11_sign_45 (m_throws0 l w (sN σ (0) 0 (nI (0))) 2) gX11_sign_X11_throwsIf (by decide) (ce_0 w (sN σ (0) 0 (nI (0)))) rfl rfl rfl rfl rfl (by decide +kernel) ⟨by decide, by decide⟩ rfl (Nat.le_of_ble_eq_true rfl) ⟨by decide, by decide⟩ (fun r_8 σ_8 q_8 => ?_)
          obtain ⟨qs_8, qr_8⟩ := q_8
          rw [qs_8, qr_8]
          refine g_if_eq (pc9 := 51) C rfl 53 dX11_sign_48 rfl (fun c_9 => ?_) (fun c_9 => ?_)
          · refine g_aload_n (pc9 := 54) C rfl 0 dX11_sign_53 rfl rfl ?_
            refine g_get (v := .ref (w.1 (8))) (pc9 := 57) C rfl (0) 12 dX11_sign_54 (by decide) (ce_0 w (sN σ (0) 0 (nI (0)))) hin_11 hl_36 rfl (by decide) rfl rfl ?_
            refine g_aload_n (pc9 := 58) C rfl 0 dX11_sign_57 rfl rfl ?_
            refine g_get (v := .int (nI (z))) (pc9 := 61) C rfl (0) 13 dX11_sign_58 (by decide) (ce_0 w (sN σ (0) 0 (nI (0)))) hin_11 hl_231 rfl (by decide) rfl (congrArg (fun z => some (Value.int z)) ((nF_k (k := 0) (k9 := 13) (by decide)).trans hz)) ?_
            refine g_iload_n (pc9 := 62) C rfl 1 dX11_sign_61 rfl rfl ?_
            refine g_iast (pc9 := 63) C rfl (8) (z) (iA σ (8)) dX11_sign_62 (by decide) (fun _ => rfl) (ce_8 w (sN σ (0) 0 (nI (0)))) rfl (by omega) (by decide) (iA_N) ?_
            refine g_aload_n (pc9 := 64) C rfl 0 dX11_sign_63 rfl rfl ?_
            refine g_dup (pc9 := 65) C rfl dX11_sign_64 rfl ?_
            refine g_get (v := .int (nI (z))) (pc9 := 68) C rfl (0) 13 dX11_sign_65 (by decide) (ce_0 w (sI (sN σ (0) 0 (nI (0))) (8) (upd (iA σ (8)) (z) (x)))) hin_11 hl_231 rfl (by decide) rfl (congrArg (fun z => some (Value.int z)) (((nF_I).trans (nF_k (k := 0) (k9 := 13) (by decide))).trans hz)) ?_
            refine g_iconst (pc9 := 69) C rfl (nI (1)) dX11_sign_68 rfl ?_
            refine g_iaddN (pc9 := 70) C rfl dX11_sign_69 ?_
            refine g_put (pc9 := 73) C rfl (0) 13 dX11_sign_70 (by decide) (ce_0 w (sI (sN σ (0) 0 (nI (0))) (8) (upd (iA σ (8)) (z) (x)))) (rfl) hin_11 hl_231 tyX11 tyX11_ok nmX11 rfl (by decide) rfl rfl rfl (Nat.le_of_ble_eq_true rfl) ?_
            refine g_aload_n (pc9 := 74) C rfl 0 dX11_sign_73 rfl rfl ?_
            refine g_get (v := .int (nI (z + 1))) (pc9 := 77) C rfl (0) 13 dX11_sign_74 (by decide) (ce_0 w (sN (sI (sN σ (0) 0 (nI (0))) (8) (upd (iA σ (8)) (z) (x))) (0) 13 (nI (z + 1)))) hin_11 hl_231 rfl (by decide) rfl (congrArg (fun z => some (Value.int z)) (nF_s)) ?_
            exact g_ireturn C hr hlk dX11_sign_77 (Or.inr (Or.inr ⟨hq, hz8, rfl, rfl⟩))
          · exact absurd c_9 (by decide)
        · replace c_7 := (nI_eq (by omega) (by omega)).mp c_7
          have hz8 : z = 16 := by omega
          refine g_iconst (pc9 := 40) C rfl (nI (1)) dX11_sign_39 rfl ?_
          refine g_goto C 44 dX11_sign_40 rfl ?_
          refine g_iconst (pc9 := 45) C rfl (nI (2)) dX11_sign_44 rfl ?_
          refine g_callVi (nn := 2) (rest := []) (pc9 := 48) C rfl (0) [.int (nI (1)), .int (nI (2))] rfl dX11_sign_45 (m_throws1 l w (sN σ (0) 0 (nI (0))) 2) gX11_sign_X11_throwsIf (by decide) (ce_0 w (sN σ (0) 0 (nI (0)))) rfl rfl rfl rfl rfl (by decide +kernel) ⟨by decide, by decide⟩ rfl (Nat.le_of_ble_eq_true rfl) ⟨by decide, by decide⟩ (fun r_10 σ_10 q_10 => ?_)
          obtain ⟨qs_10, qr_10⟩ := q_10
          rw [qr_10]
          refine g_st (σ9 := sN σ (0) 0 (nI (2))) (qs_10.trans (by show sN (sN σ (0) 0 (nI (0))) (0) 0 (nI (2)) = sN σ (0) 0 (nI (2)); rw [sN_sN])) ?_
          refine g_if_eq (pc9 := 51) C rfl 53 dX11_sign_48 rfl (fun c_11 => ?_) (fun c_11 => ?_)
          · exact absurd c_11 (by decide)
          · refine g_iconst (pc9 := 52) C rfl (nI (0)) dX11_sign_51 rfl ?_
            exact g_ireturn C hr hlk dX11_sign_52 (by first | exact Or.inr (Or.inl ⟨hq, hz8, rfl⟩) | exact Or.inl ⟨hq, rfl⟩)
    · have hq : ¬ okR 0 4095 x := fun h => h.2 (Int32.not_le.mp c_4)
      refine g_iconst (pc9 := 18) C rfl (nI (1)) dX11_sign_17 rfl ?_
      refine g_goto C 22 dX11_sign_18 rfl ?_
      refine g_iconst (pc9 := 23) C rfl (nI (1)) dX11_sign_22 rfl ?_
      refine g_callVi (nn := 2) (rest := []) (pc9 := 26) C rfl (0) [.int (nI (1)), .int (nI (1))] rfl dX11_sign_23 (m_throws1 l w (sN σ (0) 0 (nI (0))) 1) gX11_sign_X11_throwsIf (by decide) (ce_0 w (sN σ (0) 0 (nI (0)))) rfl rfl rfl rfl rfl (by decide +kernel) ⟨by decide, by decide⟩ rfl (Nat.le_of_ble_eq_true rfl) ⟨by decide, by decide⟩ (fun r_12 σ_12 q_12 => ?_)
      obtain ⟨qs_12, qr_12⟩ := q_12
      rw [qr_12]
      refine g_st (σ9 := sN σ (0) 0 (nI (1))) (qs_12.trans (by show sN (sN σ (0) 0 (nI (0))) (0) 0 (nI (1)) = sN σ (0) 0 (nI (1)); rw [sN_sN])) ?_
      refine g_if_ne (pc9 := 29) C rfl 51 dX11_sign_26 rfl (fun c_13 => ?_) (fun c_13 => ?_)
      · refine g_iconst (pc9 := 52) C rfl (nI (0)) dX11_sign_51 rfl ?_
        exact g_ireturn C hr hlk dX11_sign_52 (by first | exact Or.inr (Or.inl ⟨hq, hz8, rfl⟩) | exact Or.inl ⟨hq, rfl⟩)
      · exact absurd c_13 (by decide)
def mstP (σ : St) (x y u : Int32) (σ9 : St) : Prop := (¬ okI 12 y ∧ σ9 = mT σ 1) ∨ (okI 12 y ∧ ¬ (okI 8 x ∧ okI 4 u) ∧ σ9 = mT σ 2) ∨ (∃ a b, a < 8 ∧ b < 12 ∧ x = nI a ∧ y = nI b ∧ okI 4 u ∧ σ9 = sI (mT σ 0) 9 (upd (iA σ 9) (12 * a + b) u))
theorem okI_le {n : Nat} (hn : n < 2 ^ 31) {x : Int32} (h1 : ¬ x < 0) (h2 : x ≤ nI n) : okI (n + 1) x := by
  rcases pk_ix x hn with h | h | ⟨i, hi, rfl⟩
  · exact absurd h h1
  · exact ⟨n, by omega, Int32.le_antisymm h2 h⟩
  · exact ⟨i, by omega, rfl⟩
theorem okI_gt {n : Nat} (hn : n < 2 ^ 31) {x : Int32} (h2 : ¬ x ≤ nI n) : ¬ okI (n + 1) x := by
  rintro ⟨i, hi, rfl⟩
  exact h2 (nI_le (by omega) hn)
set_option maxRecDepth 100000 in
set_option maxHeartbeats 4000000 in
theorem m_X11_state (l : Launch) (w : Wd) (σ : St) (x y u : Int32) : MV l yX11_state wsX11_state (rmL 2) w [.ref (w.1 (0)), .int (x), .int (y), .int (u)] (σ) (mstP σ x y u) := by
  refine MV_of (cc := cX11_state) (maxL := 4) (by decide) rfl (Nat.le_of_ble_eq_true rfl) ?_
  intro p e s m args below meth c A C hr hlk
  have C : Cx p s m args c w A cX11_state RX11 4 wsX11_state := C
  have hin_11 : ∀ u ∈ wsX110, u ∈ wsX11_state := by decide +kernel
  have hl_39 : Cond.fieldLink RX11 39 "LineageBenchModel" "states" "[I" ∈ wsX11_state := by decide +kernel
  have hl_107 : Cond.fieldLink RX11 107 "LineageBenchModel" "thrown" "I" ∈ wsX11_state := by decide +kernel
  refine g_aload_n (pc9 := 1) C rfl 0 dX11_state_0 rfl rfl ?_
  refine g_iconst (pc9 := 2) C rfl (nI (0)) dX11_state_1 rfl ?_
  refine g_put (pc9 := 5) C rfl (0) 0 dX11_state_2 (by decide) (ce_0 w (σ)) (rfl) hin_11 hl_107 tyX11 tyX11_ok nmX11 rfl (by decide) rfl rfl rfl (Nat.le_of_ble_eq_true rfl) ?_
  refine g_aload_n (pc9 := 6) C rfl 0 dX11_state_5 rfl rfl ?_
  refine g_iload_n (pc9 := 7) C rfl 2 dX11_state_6 rfl rfl ?_
  refine g_callSi (nn := 1) (rest := [.ref (w.1 (0))]) (pc9 := 10) C rfl [.int (y)] rfl dX11_state_7 (m_X11_noKind l w (sN σ (0) 0 (nI (0))) y) gX11_state_X11_noKind rfl rfl rfl (by decide +kernel) ⟨by decide, by decide⟩ rfl (Nat.le_of_ble_eq_true rfl) ⟨by decide, by decide⟩ (fun r_1 σ_1 q_1 => ?_)
  obtain ⟨qs_1, qr_1⟩ := q_1
  rw [qs_1, qr_1]
  clear qs_1 qr_1
  refine g_iconst (pc9 := 11) C rfl (nI (1)) dX11_state_10 rfl ?_
  refine g_callVi (nn := 2) (rest := []) (pc9 := 14) C rfl (0) [.int (pI (¬ okI 12 y)), .int (nI (1))] rfl dX11_state_11 (m_throwsP l w (sN σ (0) 0 (nI (0))) (¬ okI 12 y) 1) gX11_state_X11_throwsIf (by decide) (ce_0 w (sN σ (0) 0 (nI (0)))) rfl rfl rfl rfl rfl (by decide +kernel) ⟨by decide, by decide⟩ rfl (Nat.le_of_ble_eq_true rfl) ⟨by decide, by decide⟩ (fun r_2 σ_2 q_2 => ?_)
  obtain ⟨qr_2, qt_2, qf_2⟩ := q_2
  rw [qr_2]
  refine g_if_ne (pc9 := 17) C rfl 49 dX11_state_14 rfl (fun c_3 => ?_) (fun c_3 => ?_)
  · have hns : ¬ okI 12 y := pI_ye c_3
    refine g_st (σ9 := sN σ (0) 0 (nI (1))) ((qt_2 hns).trans (by show sN (sN σ (0) 0 (nI (0))) (0) 0 (nI (1)) = sN σ (0) 0 (nI (1)); rw [sN_sN])) ?_
    exact g_return C hr hlk dX11_state_49 (by first | exact Or.inl ⟨hns, rfl⟩ | exact Or.inr (Or.inl ⟨⟨b, hb_b, rfl⟩, hq, rfl⟩))
  · have hns : ¬ (¬ okI 12 y) := pI_no c_3
    rw [qf_2 hns]
    obtain ⟨b, hb_b, hx_b⟩ := Classical.not_not.mp hns
    subst hx_b
    refine g_aload_n (pc9 := 18) C rfl 0 dX11_state_17 rfl rfl ?_
    refine g_iload_n (pc9 := 19) C rfl 1 dX11_state_18 rfl rfl ?_
    refine g_if_lt (pc9 := 22) C rfl 37 dX11_state_19 rfl (fun c_4 => ?_) (fun c_4 => ?_)
    · have hq : ¬ (okI 8 x ∧ okI 4 u) := fun h => okI_neg (by decide) c_4 h.1
      refine g_iconst (pc9 := 38) C rfl (nI (1)) dX11_state_37 rfl ?_
      refine g_goto C 42 dX11_state_38 rfl ?_
      refine g_iconst (pc9 := 43) C rfl (nI (2)) dX11_state_42 rfl ?_
      refine g_callVi (nn := 2) (rest := []) (pc9 := 46) C rfl (0) [.int (nI (1)), .int (nI (2))] rfl dX11_state_43 (m_throws1 l w (sN σ (0) 0 (nI (0))) 2) gX11_state_X11_throwsIf (by decide) (ce_0 w (sN σ (0) 0 (nI (0)))) rfl rfl rfl rfl rfl (by decide +kernel) ⟨by decide, by decide⟩ rfl (Nat.le_of_ble_eq_true rfl) ⟨by decide, by decide⟩ (fun r_5 σ_5 q_5 => ?_)
      obtain ⟨qs_5, qr_5⟩ := q_5
      rw [qr_5]
      refine g_st (σ9 := sN σ (0) 0 (nI (2))) (qs_5.trans (by show sN (sN σ (0) 0 (nI (0))) (0) 0 (nI (2)) = sN σ (0) 0 (nI (2)); rw [sN_sN])) ?_
      refine g_if_eq (pc9 := 49) C rfl 50 dX11_state_46 rfl (fun c_6 => ?_) (fun c_6 => ?_)
      · exact absurd c_6 (by decide)
      · exact g_return C hr hlk dX11_state_49 (by first | exact Or.inl ⟨hns, rfl⟩ | exact Or.inr (Or.inl ⟨⟨b, hb_b, rfl⟩, hq, rfl⟩))
    · have hx0 : ¬ x < 0 := c_4
      refine g_iload_n (pc9 := 23) C rfl 1 dX11_state_22 rfl rfl ?_
      refine g_bipush (pc9 := 25) C rfl (nI (7)) dX11_state_23 rfl ?_
      refine g_icmp_gt (pc9 := 28) C rfl 37 dX11_state_25 rfl (fun c_7 => ?_) (fun c_7 => ?_)
      · have hq : ¬ (okI 8 x ∧ okI 4 u) := fun h => okI_gt (n := 7) (by decide) (Int32.not_le.mpr c_7) h.1
        refine g_iconst (pc9 := 38) C rfl (nI (1)) dX11_state_37 rfl ?_
        refine g_goto C 42 dX11_state_38 rfl ?_
        refine g_iconst (pc9 := 43) C rfl (nI (2)) dX11_state_42 rfl ?_
        refine g_callVi (nn := 2) (rest := []) (pc9 := 46) C rfl (0) [.int (nI (1)), .int (nI (2))] rfl dX11_state_43 (m_throws1 l w (sN σ (0) 0 (nI (0))) 2) gX11_state_X11_throwsIf (by decide) (ce_0 w (sN σ (0) 0 (nI (0)))) rfl rfl rfl rfl rfl (by decide +kernel) ⟨by decide, by decide⟩ rfl (Nat.le_of_ble_eq_true rfl) ⟨by decide, by decide⟩ (fun r_8 σ_8 q_8 => ?_)
        obtain ⟨qs_8, qr_8⟩ := q_8
        rw [qr_8]
        refine g_st (σ9 := sN σ (0) 0 (nI (2))) (qs_8.trans (by show sN (sN σ (0) 0 (nI (0))) (0) 0 (nI (2)) = sN σ (0) 0 (nI (2)); rw [sN_sN])) ?_
        refine g_if_eq (pc9 := 49) C rfl 50 dX11_state_46 rfl (fun c_9 => ?_) (fun c_9 => ?_)
        · exact absurd c_9 (by decide)
        · exact g_return C hr hlk dX11_state_49 (by first | exact Or.inl ⟨hns, rfl⟩ | exact Or.inr (Or.inl ⟨⟨b, hb_b, rfl⟩, hq, rfl⟩))
      · have hx8 : okI 8 x := okI_le (n := 7) (by decide) hx0 (Int32.not_lt.mp c_7)
        refine g_iload_n (pc9 := 29) C rfl 3 dX11_state_28 rfl rfl ?_
        refine g_if_lt (pc9 := 32) C rfl 37 dX11_state_29 rfl (fun c_10 => ?_) (fun c_10 => ?_)
        · have hq : ¬ (okI 8 x ∧ okI 4 u) := fun h => okI_neg (by decide) c_10 h.2
          refine g_iconst (pc9 := 38) C rfl (nI (1)) dX11_state_37 rfl ?_
          refine g_goto C 42 dX11_state_38 rfl ?_
          refine g_iconst (pc9 := 43) C rfl (nI (2)) dX11_state_42 rfl ?_
          refine g_callVi (nn := 2) (rest := []) (pc9 := 46) C rfl (0) [.int (nI (1)), .int (nI (2))] rfl dX11_state_43 (m_throws1 l w (sN σ (0) 0 (nI (0))) 2) gX11_state_X11_throwsIf (by decide) (ce_0 w (sN σ (0) 0 (nI (0)))) rfl rfl rfl rfl rfl (by decide +kernel) ⟨by decide, by decide⟩ rfl (Nat.le_of_ble_eq_true rfl) ⟨by decide, by decide⟩ (fun r_11 σ_11 q_11 => ?_)
          obtain ⟨qs_11, qr_11⟩ := q_11
          rw [qr_11]
          refine g_st (σ9 := sN σ (0) 0 (nI (2))) (qs_11.trans (by show sN (sN σ (0) 0 (nI (0))) (0) 0 (nI (2)) = sN σ (0) 0 (nI (2)); rw [sN_sN])) ?_
          refine g_if_eq (pc9 := 49) C rfl 50 dX11_state_46 rfl (fun c_12 => ?_) (fun c_12 => ?_)
          · exact absurd c_12 (by decide)
          · exact g_return C hr hlk dX11_state_49 (by first | exact Or.inl ⟨hns, rfl⟩ | exact Or.inr (Or.inl ⟨⟨b, hb_b, rfl⟩, hq, rfl⟩))
        · have hu0 : ¬ u < 0 := c_10
          refine g_iload_n (pc9 := 33) C rfl 3 dX11_state_32 rfl rfl ?_
          refine g_iconst (pc9 := 34) C rfl (nI (3)) dX11_state_33 rfl ?_
          refine g_icmp_le (pc9 := 37) C rfl 41 dX11_state_34 rfl (fun c_13 => ?_) (fun c_13 => ?_)
          · have hu4 : okI 4 u := okI_le (n := 3) (by decide) hu0 c_13
            obtain ⟨a, hb_a, hx_a⟩ := hx8
            subst hx_a
            refine g_iconst (pc9 := 42) C rfl (nI (0)) dX11_state_41 rfl ?_
            refine g_iconst (pc9 := 43) C rfl (nI (2)) dX11_state_42 rfl ?_
            refine g_callVi (nn := 2) (rest := []) (pc9 := 46) C rfl (0) [.int (nI (0)), .int (nI (2))] rfl dX11_state_43 (m_throws0 l w (sN σ (0) 0 (nI (0))) 2) gX11_state_X11_throwsIf (by decide) (ce_0 w (sN σ (0) 0 (nI (0)))) rfl rfl rfl rfl rfl (by decide +kernel) ⟨by decide, by decide⟩ rfl (Nat.le_of_ble_eq_true rfl) ⟨by decide, by decide⟩ (fun r_14 σ_14 q_14 => ?_)
            obtain ⟨qs_14, qr_14⟩ := q_14
            rw [qs_14, qr_14]
            refine g_if_eq (pc9 := 49) C rfl 50 dX11_state_46 rfl (fun c_15 => ?_) (fun c_15 => ?_)
            · refine g_aload_n (pc9 := 51) C rfl 0 dX11_state_50 rfl rfl ?_
              refine g_get (v := .ref (w.1 (9))) (pc9 := 54) C rfl (0) 14 dX11_state_51 (by decide) (ce_0 w (sN σ (0) 0 (nI (0)))) hin_11 hl_39 rfl (by decide) rfl rfl ?_
              refine g_bipush (pc9 := 56) C rfl (nI (12)) dX11_state_54 rfl ?_
              refine g_iload_n (pc9 := 57) C rfl 1 dX11_state_56 rfl rfl ?_
              refine g_imulN (pc9 := 58) C rfl dX11_state_57 ?_
              refine g_iload_n (pc9 := 59) C rfl 2 dX11_state_58 rfl rfl ?_
              refine g_iaddN (pc9 := 60) C rfl dX11_state_59 ?_
              refine g_iload_n (pc9 := 61) C rfl 3 dX11_state_60 rfl rfl ?_
              refine g_iast (pc9 := 62) C rfl (9) ((12 * a) + b) (iA σ (9)) dX11_state_61 (by decide) (fun _ => rfl) (ce_9 w (sN σ (0) 0 (nI (0)))) rfl (by omega) (by decide) (iA_N) ?_
              exact g_return C hr hlk dX11_state_62 (Or.inr (Or.inr ⟨a, b, hb_a, hb_b, rfl, rfl, hu4, rfl⟩))
            · exact absurd c_15 (by decide)
          · have hq : ¬ (okI 8 x ∧ okI 4 u) := fun h => okI_gt (n := 3) (by decide) c_13 h.2
            refine g_iconst (pc9 := 38) C rfl (nI (1)) dX11_state_37 rfl ?_
            refine g_goto C 42 dX11_state_38 rfl ?_
            refine g_iconst (pc9 := 43) C rfl (nI (2)) dX11_state_42 rfl ?_
            refine g_callVi (nn := 2) (rest := []) (pc9 := 46) C rfl (0) [.int (nI (1)), .int (nI (2))] rfl dX11_state_43 (m_throws1 l w (sN σ (0) 0 (nI (0))) 2) gX11_state_X11_throwsIf (by decide) (ce_0 w (sN σ (0) 0 (nI (0)))) rfl rfl rfl rfl rfl (by decide +kernel) ⟨by decide, by decide⟩ rfl (Nat.le_of_ble_eq_true rfl) ⟨by decide, by decide⟩ (fun r_16 σ_16 q_16 => ?_)
            obtain ⟨qs_16, qr_16⟩ := q_16
            rw [qr_16]
            refine g_st (σ9 := sN σ (0) 0 (nI (2))) (qs_16.trans (by show sN (sN σ (0) 0 (nI (0))) (0) 0 (nI (2)) = sN σ (0) 0 (nI (2)); rw [sN_sN])) ?_
            refine g_if_eq (pc9 := 49) C rfl 50 dX11_state_46 rfl (fun c_17 => ?_) (fun c_17 => ?_)
            · exact absurd c_17 (by decide)
            · exact g_return C hr hlk dX11_state_49 (by first | exact Or.inl ⟨hns, rfl⟩ | exact Or.inr (Or.inl ⟨⟨b, hb_b, rfl⟩, hq, rfl⟩))
set_option maxRecDepth 100000 in
set_option maxHeartbeats 4000000 in
theorem m_X11_kinds (l : Launch) (w : Wd) (σ : St) (x : Int32) : MV l yX11_kinds wsX11_kinds (rmL 2) w [.ref (w.1 (0)), .int (x)] (σ) (fun σ9 => (¬ okR 2 12 x ∧ σ9 = mT σ 1) ∨ (okR 2 12 x ∧ σ9 = sN (mT σ 0) 0 16 x)) := by
  refine MV_of (cc := cX11_kinds) (maxL := 2) (by decide) rfl (Nat.le_of_ble_eq_true rfl) ?_
  intro p e s m args below meth c A C hr hlk
  have C : Cx p s m args c w A cX11_kinds RX11 2 wsX11_kinds := C
  have hin_11 : ∀ u ∈ wsX110, u ∈ wsX11_kinds := by decide +kernel
  have hl_45 : Cond.fieldLink RX11 45 "LineageBenchModel" "n" "I" ∈ wsX11_kinds := by decide +kernel
  have hl_107 : Cond.fieldLink RX11 107 "LineageBenchModel" "thrown" "I" ∈ wsX11_kinds := by decide +kernel
  refine g_aload_n (pc9 := 1) C rfl 0 dX11_kinds_0 rfl rfl ?_
  refine g_iconst (pc9 := 2) C rfl (nI (0)) dX11_kinds_1 rfl ?_
  refine g_put (pc9 := 5) C rfl (0) 0 dX11_kinds_2 (by decide) (ce_0 w (σ)) (rfl) hin_11 hl_107 tyX11 tyX11_ok nmX11 rfl (by decide) rfl rfl rfl (Nat.le_of_ble_eq_true rfl) ?_
  refine g_aload_n (pc9 := 6) C rfl 0 dX11_kinds_5 rfl rfl ?_
  refine g_iload_n (pc9 := 7) C rfl 1 dX11_kinds_6 rfl rfl ?_
  refine g_iconst (pc9 := 8) C rfl (nI (2)) dX11_kinds_7 rfl ?_
  refine g_icmp_lt (pc9 := 11) C rfl 17 dX11_kinds_8 rfl (fun c_1 => ?_) (fun c_1 => ?_)
  · have hq : ¬ okR 2 12 x := fun h => h.1 c_1
    refine g_iconst (pc9 := 18) C rfl (nI (1)) dX11_kinds_17 rfl ?_
    refine g_goto C 22 dX11_kinds_18 rfl ?_
    refine g_iconst (pc9 := 23) C rfl (nI (1)) dX11_kinds_22 rfl ?_
    refine g_callVi (nn := 2) (rest := []) (pc9 := 26) C rfl (0) [.int (nI (1)), .int (nI (1))] rfl dX11_kinds_23 (m_throws1 l w (sN σ (0) 0 (nI (0))) 1) gX11_kinds_X11_throwsIf (by decide) (ce_0 w (sN σ (0) 0 (nI (0)))) rfl rfl rfl rfl rfl (by decide +kernel) ⟨by decide, by decide⟩ rfl (Nat.le_of_ble_eq_true rfl) ⟨by decide, by decide⟩ (fun r_2 σ_2 q_2 => ?_)
    obtain ⟨qs_2, qr_2⟩ := q_2
    rw [qr_2]
    refine g_st (σ9 := sN σ (0) 0 (nI (1))) (qs_2.trans (by show sN (sN σ (0) 0 (nI (0))) (0) 0 (nI (1)) = sN σ (0) 0 (nI (1)); rw [sN_sN])) ?_
    refine g_if_eq (pc9 := 29) C rfl 30 dX11_kinds_26 rfl (fun c_3 => ?_) (fun c_3 => ?_)
    · exact absurd c_3 (by decide)
    · exact g_return C hr hlk dX11_kinds_29 (Or.inl ⟨hq, rfl⟩)
  · have h0 : ¬ x < nI 2 := c_1
    refine g_iload_n (pc9 := 12) C rfl 1 dX11_kinds_11 rfl rfl ?_
    refine g_bipush (pc9 := 14) C rfl (nI (12)) dX11_kinds_12 rfl ?_
    refine g_icmp_le (pc9 := 17) C rfl 21 dX11_kinds_14 rfl (fun c_4 => ?_) (fun c_4 => ?_)
    · have hq : okR 2 12 x := ⟨h0, Int32.not_lt.mpr c_4⟩
      refine g_iconst (pc9 := 22) C rfl (nI (0)) dX11_kinds_21 rfl ?_
      refine g_iconst (pc9 := 23) C rfl (nI (1)) dX11_kinds_22 rfl ?_
      refine g_callVi (nn := 2) (rest := []) (pc9 := 26) C rfl (0) [.int (nI (0)), .int (nI (1))] rfl dX11_kinds_23 (m_throws0 l w (sN σ (0) 0 (nI (0))) 1) gX11_kinds_X11_throwsIf (by decide) (ce_0 w (sN σ (0) 0 (nI (0)))) rfl rfl rfl rfl rfl (by decide +kernel) ⟨by decide, by decide⟩ rfl (Nat.le_of_ble_eq_true rfl) ⟨by decide, by decide⟩ (fun r_5 σ_5 q_5 => ?_)
      obtain ⟨qs_5, qr_5⟩ := q_5
      rw [qs_5, qr_5]
      refine g_if_eq (pc9 := 29) C rfl 30 dX11_kinds_26 rfl (fun c_6 => ?_) (fun c_6 => ?_)
      · refine g_aload_n (pc9 := 31) C rfl 0 dX11_kinds_30 rfl rfl ?_
        refine g_iload_n (pc9 := 32) C rfl 1 dX11_kinds_31 rfl rfl ?_
        refine g_put (pc9 := 35) C rfl (0) 16 dX11_kinds_32 (by decide) (ce_0 w (sN σ (0) 0 (nI (0)))) (rfl) hin_11 hl_45 tyX11 tyX11_ok nmX11 rfl (by decide) rfl rfl rfl (Nat.le_of_ble_eq_true rfl) ?_
        exact g_return C hr hlk dX11_kinds_35 (Or.inr ⟨hq, rfl⟩)
      · exact absurd c_6 (by decide)
    · have hq : ¬ okR 2 12 x := fun h => h.2 (Int32.not_le.mp c_4)
      refine g_iconst (pc9 := 18) C rfl (nI (1)) dX11_kinds_17 rfl ?_
      refine g_goto C 22 dX11_kinds_18 rfl ?_
      refine g_iconst (pc9 := 23) C rfl (nI (1)) dX11_kinds_22 rfl ?_
      refine g_callVi (nn := 2) (rest := []) (pc9 := 26) C rfl (0) [.int (nI (1)), .int (nI (1))] rfl dX11_kinds_23 (m_throws1 l w (sN σ (0) 0 (nI (0))) 1) gX11_kinds_X11_throwsIf (by decide) (ce_0 w (sN σ (0) 0 (nI (0)))) rfl rfl rfl rfl rfl (by decide +kernel) ⟨by decide, by decide⟩ rfl (Nat.le_of_ble_eq_true rfl) ⟨by decide, by decide⟩ (fun r_7 σ_7 q_7 => ?_)
      obtain ⟨qs_7, qr_7⟩ := q_7
      rw [qr_7]
      refine g_st (σ9 := sN σ (0) 0 (nI (1))) (qs_7.trans (by show sN (sN σ (0) 0 (nI (0))) (0) 0 (nI (1)) = sN σ (0) 0 (nI (1)); rw [sN_sN])) ?_
      refine g_if_eq (pc9 := 29) C rfl 30 dX11_kinds_26 rfl (fun c_8 => ?_) (fun c_8 => ?_)
      · exact absurd c_8 (by decide)
      · exact g_return C hr hlk dX11_kinds_29 (Or.inl ⟨hq, rfl⟩)
def mdiP (σ : St) (x y u : Int32) (σ9 : St) : Prop := (¬ (okI 12 x ∧ okI 12 y) ∧ σ9 = mT σ 1) ∨ (∃ a b, a < 12 ∧ b < 12 ∧ x = nI a ∧ y = nI b ∧ (((a = b ∨ ¬ okR 0 100000 u) ∧ σ9 = mT σ 2) ∨ (¬ a = b ∧ okR 0 100000 u ∧ σ9 = sI (mT σ 0) 10 (upd (upd (iA σ 10) (12 * a + b) u) (12 * b + a) u))))
set_option maxRecDepth 100000 in
set_option maxHeartbeats 4000000 in
theorem m_X11_distance (l : Launch) (w : Wd) (σ : St) (x y u : Int32) : MV l yX11_distance wsX11_distance (rmL 2) w [.ref (w.1 (0)), .int (x), .int (y), .int (u)] (σ) (mdiP σ x y u) := by
  refine MV_of (cc := cX11_distance) (maxL := 4) (by decide) rfl (Nat.le_of_ble_eq_true rfl) ?_
  intro p e s m args below meth c A C hr hlk
  have C : Cx p s m args c w A cX11_distance RX11 4 wsX11_distance := C
  have hin_11 : ∀ u ∈ wsX110, u ∈ wsX11_distance := by decide +kernel
  have hl_42 : Cond.fieldLink RX11 42 "LineageBenchModel" "distances" "[I" ∈ wsX11_distance := by decide +kernel
  have hl_107 : Cond.fieldLink RX11 107 "LineageBenchModel" "thrown" "I" ∈ wsX11_distance := by decide +kernel
  refine g_aload_n (pc9 := 1) C rfl 0 dX11_distance_0 rfl rfl ?_
  refine g_iconst (pc9 := 2) C rfl (nI (0)) dX11_distance_1 rfl ?_
  refine g_put (pc9 := 5) C rfl (0) 0 dX11_distance_2 (by decide) (ce_0 w (σ)) (rfl) hin_11 hl_107 tyX11 tyX11_ok nmX11 rfl (by decide) rfl rfl rfl (Nat.le_of_ble_eq_true rfl) ?_
  refine g_aload_n (pc9 := 6) C rfl 0 dX11_distance_5 rfl rfl ?_
  refine g_iload_n (pc9 := 7) C rfl 1 dX11_distance_6 rfl rfl ?_
  refine g_callSi (nn := 1) (rest := [.ref (w.1 (0))]) (pc9 := 10) C rfl [.int (x)] rfl dX11_distance_7 (m_X11_noKind l w (sN σ (0) 0 (nI (0))) x) gX11_distance_X11_noKind rfl rfl rfl (by decide +kernel) ⟨by decide, by decide⟩ rfl (Nat.le_of_ble_eq_true rfl) ⟨by decide, by decide⟩ (fun r_1 σ_1 q_1 => ?_)
  obtain ⟨qs_1, qr_1⟩ := q_1
  rw [qs_1, qr_1]
  clear qs_1 qr_1
  refine g_if_ne (pc9 := 13) C rfl 20 dX11_distance_10 rfl (fun c_2 => ?_) (fun c_2 => ?_)
  · have hns : ¬ (okI 12 x ∧ okI 12 y) := fun h => pI_ye c_2 h.1
    refine g_iconst (pc9 := 21) C rfl (nI (1)) dX11_distance_20 rfl ?_
    refine g_goto C 25 dX11_distance_21 rfl ?_
    refine g_iconst (pc9 := 26) C rfl (nI (1)) dX11_distance_25 rfl ?_
    refine g_callVi (nn := 2) (rest := []) (pc9 := 29) C rfl (0) [.int (nI (1)), .int (nI (1))] rfl dX11_distance_26 (m_throws1 l w (sN σ (0) 0 (nI (0))) 1) gX11_distance_X11_throwsIf (by decide) (ce_0 w (sN σ (0) 0 (nI (0)))) rfl rfl rfl rfl rfl (by decide +kernel) ⟨by decide, by decide⟩ rfl (Nat.le_of_ble_eq_true rfl) ⟨by decide, by decide⟩ (fun r_3 σ_3 q_3 => ?_)
    obtain ⟨qs_3, qr_3⟩ := q_3
    rw [qr_3]
    refine g_st (σ9 := sN σ (0) 0 (nI (1))) (qs_3.trans (by show sN (sN σ (0) 0 (nI (0))) (0) 0 (nI (1)) = sN σ (0) 0 (nI (1)); rw [sN_sN])) ?_
    refine g_if_ne (pc9 := 32) C rfl 60 dX11_distance_29 rfl (fun c_4 => ?_) (fun c_4 => ?_)
    · exact g_return C hr hlk dX11_distance_60 (by first | exact Or.inl ⟨hns, rfl⟩ | exact Or.inr ⟨a, b, hb_a, hb_b, rfl, rfl, Or.inl ⟨hbd, rfl⟩⟩)
    · exact absurd c_4 (by decide)
  · have hs_10 := Classical.not_not.mp (pI_no c_2)
    refine g_iload_n (pc9 := 14) C rfl 2 dX11_distance_13 rfl rfl ?_
    refine g_callSi (nn := 1) (rest := [.ref (w.1 (0))]) (pc9 := 17) C rfl [.int (y)] rfl dX11_distance_14 (m_X11_noKind l w (sN σ (0) 0 (nI (0))) y) gX11_distance_X11_noKind rfl rfl rfl (by decide +kernel) ⟨by decide, by decide⟩ rfl (Nat.le_of_ble_eq_true rfl) ⟨by decide, by decide⟩ (fun r_5 σ_5 q_5 => ?_)
    obtain ⟨qs_5, qr_5⟩ := q_5
    rw [qs_5, qr_5]
    clear qs_5 qr_5
    refine g_if_eq (pc9 := 20) C rfl 24 dX11_distance_17 rfl (fun c_6 => ?_) (fun c_6 => ?_)
    · have hs_17 := Classical.not_not.mp (pI_no c_6)
      obtain ⟨a, hb_a, hx_a⟩ := hs_10
      obtain ⟨b, hb_b, hx_b⟩ := hs_17
      subst hx_a
      subst hx_b
      refine g_iconst (pc9 := 25) C rfl (nI (0)) dX11_distance_24 rfl ?_
      refine g_iconst (pc9 := 26) C rfl (nI (1)) dX11_distance_25 rfl ?_
      refine g_callVi (nn := 2) (rest := []) (pc9 := 29) C rfl (0) [.int (nI (0)), .int (nI (1))] rfl dX11_distance_26 (m_throws0 l w (sN σ (0) 0 (nI (0))) 1) gX11_distance_X11_throwsIf (by decide) (ce_0 w (sN σ (0) 0 (nI (0)))) rfl rfl rfl rfl rfl (by decide +kernel) ⟨by decide, by decide⟩ rfl (Nat.le_of_ble_eq_true rfl) ⟨by decide, by decide⟩ (fun r_7 σ_7 q_7 => ?_)
      obtain ⟨qs_7, qr_7⟩ := q_7
      rw [qs_7, qr_7]
      refine g_if_ne (pc9 := 32) C rfl 60 dX11_distance_29 rfl (fun c_8 => ?_) (fun c_8 => ?_)
      · exact absurd c_8 (by decide)
      · refine g_aload_n (pc9 := 33) C rfl 0 dX11_distance_32 rfl rfl ?_
        refine g_iload_n (pc9 := 34) C rfl 1 dX11_distance_33 rfl rfl ?_
        refine g_iload_n (pc9 := 35) C rfl 2 dX11_distance_34 rfl rfl ?_
        refine g_icmp_eq (pc9 := 38) C rfl 48 dX11_distance_35 rfl (fun c_9 => ?_) (fun c_9 => ?_)
        · replace c_9 := (nI_eq (by omega) (by omega)).mp c_9
          have hbd : a = b ∨ ¬ okR 0 100000 u := Or.inl c_9
          refine g_iconst (pc9 := 49) C rfl (nI (1)) dX11_distance_48 rfl ?_
          refine g_goto C 53 dX11_distance_49 rfl ?_
          refine g_iconst (pc9 := 54) C rfl (nI (2)) dX11_distance_53 rfl ?_
          refine g_callVi (nn := 2) (rest := []) (pc9 := 57) C rfl (0) [.int (nI (1)), .int (nI (2))] rfl dX11_distance_54 (m_throws1 l w (sN σ (0) 0 (nI (0))) 2) gX11_distance_X11_throwsIf (by decide) (ce_0 w (sN σ (0) 0 (nI (0)))) rfl rfl rfl rfl rfl (by decide +kernel) ⟨by decide, by decide⟩ rfl (Nat.le_of_ble_eq_true rfl) ⟨by decide, by decide⟩ (fun r_10 σ_10 q_10 => ?_)
          obtain ⟨qs_10, qr_10⟩ := q_10
          rw [qr_10]
          refine g_st (σ9 := sN σ (0) 0 (nI (2))) (qs_10.trans (by show sN (sN σ (0) 0 (nI (0))) (0) 0 (nI (2)) = sN σ (0) 0 (nI (2)); rw [sN_sN])) ?_
          refine g_if_eq (pc9 := 60) C rfl 61 dX11_distance_57 rfl (fun c_11 => ?_) (fun c_11 => ?_)
          · exact absurd c_11 (by decide)
          · exact g_return C hr hlk dX11_distance_60 (by first | exact Or.inl ⟨hns, rfl⟩ | exact Or.inr ⟨a, b, hb_a, hb_b, rfl, rfl, Or.inl ⟨hbd, rfl⟩⟩)
        · replace c_9 := (not_congr (nI_eq (by omega) (by omega))).mp c_9
          have hne : ¬ a = b := c_9
          refine g_iload_n (pc9 := 39) C rfl 3 dX11_distance_38 rfl rfl ?_
          refine g_if_lt (pc9 := 42) C rfl 48 dX11_distance_39 rfl (fun c_12 => ?_) (fun c_12 => ?_)
          · have hbd : a = b ∨ ¬ okR 0 100000 u := Or.inr (fun h => h.1 c_12)
            refine g_iconst (pc9 := 49) C rfl (nI (1)) dX11_distance_48 rfl ?_
            refine g_goto C 53 dX11_distance_49 rfl ?_
            refine g_iconst (pc9 := 54) C rfl (nI (2)) dX11_distance_53 rfl ?_
            refine g_callVi (nn := 2) (rest := []) (pc9 := 57) C rfl (0) [.int (nI (1)), .int (nI (2))] rfl dX11_distance_54 (m_throws1 l w (sN σ (0) 0 (nI (0))) 2) gX11_distance_X11_throwsIf (by decide) (ce_0 w (sN σ (0) 0 (nI (0)))) rfl rfl rfl rfl rfl (by decide +kernel) ⟨by decide, by decide⟩ rfl (Nat.le_of_ble_eq_true rfl) ⟨by decide, by decide⟩ (fun r_13 σ_13 q_13 => ?_)
            obtain ⟨qs_13, qr_13⟩ := q_13
            rw [qr_13]
            refine g_st (σ9 := sN σ (0) 0 (nI (2))) (qs_13.trans (by show sN (sN σ (0) 0 (nI (0))) (0) 0 (nI (2)) = sN σ (0) 0 (nI (2)); rw [sN_sN])) ?_
            refine g_if_eq (pc9 := 60) C rfl 61 dX11_distance_57 rfl (fun c_14 => ?_) (fun c_14 => ?_)
            · exact absurd c_14 (by decide)
            · exact g_return C hr hlk dX11_distance_60 (by first | exact Or.inl ⟨hns, rfl⟩ | exact Or.inr ⟨a, b, hb_a, hb_b, rfl, rfl, Or.inl ⟨hbd, rfl⟩⟩)
          · have h0 : ¬ u < nI 0 := c_12
            refine g_iload_n (pc9 := 43) C rfl 3 dX11_distance_42 rfl rfl ?_
            refine g_ldc (pc9 := 45) C rfl (nI (100000)) dX11_distance_43 (by decide +kernel) ?_
            refine g_icmp_le (pc9 := 48) C rfl 52 dX11_distance_45 rfl (fun c_15 => ?_) (fun c_15 => ?_)
            · have hu : okR 0 100000 u := ⟨h0, Int32.not_lt.mpr c_15⟩
              refine g_iconst (pc9 := 53) C rfl (nI (0)) dX11_distance_52 rfl ?_
              refine g_iconst (pc9 := 54) C rfl (nI (2)) dX11_distance_53 rfl ?_
              refine g_callVi (nn := 2) (rest := []) (pc9 := 57) C rfl (0) [.int (nI (0)), .int (nI (2))] rfl dX11_distance_54 (m_throws0 l w (sN σ (0) 0 (nI (0))) 2) gX11_distance_X11_throwsIf (by decide) (ce_0 w (sN σ (0) 0 (nI (0)))) rfl rfl rfl rfl rfl (by decide +kernel) ⟨by decide, by decide⟩ rfl (Nat.le_of_ble_eq_true rfl) ⟨by decide, by decide⟩ (fun r_16 σ_16 q_16 => ?_)
              obtain ⟨qs_16, qr_16⟩ := q_16
              rw [qs_16, qr_16]
              refine g_if_eq (pc9 := 60) C rfl 61 dX11_distance_57 rfl (fun c_17 => ?_) (fun c_17 => ?_)
              · refine g_aload_n (pc9 := 62) C rfl 0 dX11_distance_61 rfl rfl ?_
                refine g_get (v := .ref (w.1 (10))) (pc9 := 65) C rfl (0) 15 dX11_distance_62 (by decide) (ce_0 w (sN σ (0) 0 (nI (0)))) hin_11 hl_42 rfl (by decide) rfl rfl ?_
                refine g_bipush (pc9 := 67) C rfl (nI (12)) dX11_distance_65 rfl ?_
                refine g_iload_n (pc9 := 68) C rfl 1 dX11_distance_67 rfl rfl ?_
                refine g_imulN (pc9 := 69) C rfl dX11_distance_68 ?_
                refine g_iload_n (pc9 := 70) C rfl 2 dX11_distance_69 rfl rfl ?_
                refine g_iaddN (pc9 := 71) C rfl dX11_distance_70 ?_
                refine g_iload_n (pc9 := 72) C rfl 3 dX11_distance_71 rfl rfl ?_
                refine g_iast (pc9 := 73) C rfl (10) ((12 * a) + b) (iA σ (10)) dX11_distance_72 (by decide) (fun _ => rfl) (ce_10 w (sN σ (0) 0 (nI (0)))) rfl (by omega) (by decide) (iA_N) ?_
                refine g_aload_n (pc9 := 74) C rfl 0 dX11_distance_73 rfl rfl ?_
                refine g_get (v := .ref (w.1 (10))) (pc9 := 77) C rfl (0) 15 dX11_distance_74 (by decide) (ce_0 w (sI (sN σ (0) 0 (nI (0))) (10) (upd (iA σ (10)) ((12 * a) + b) (u)))) hin_11 hl_42 rfl (by decide) rfl rfl ?_
                refine g_bipush (pc9 := 79) C rfl (nI (12)) dX11_distance_77 rfl ?_
                refine g_iload_n (pc9 := 80) C rfl 2 dX11_distance_79 rfl rfl ?_
                refine g_imulN (pc9 := 81) C rfl dX11_distance_80 ?_
                refine g_iload_n (pc9 := 82) C rfl 1 dX11_distance_81 rfl rfl ?_
                refine g_iaddN (pc9 := 83) C rfl dX11_distance_82 ?_
                refine g_iload_n (pc9 := 84) C rfl 3 dX11_distance_83 rfl rfl ?_
                refine g_iast (pc9 := 85) C rfl (10) ((12 * b) + a) (upd (iA σ (10)) ((12 * a) + b) (u)) dX11_distance_84 (by decide) (fun _ => rfl) (ce_10 w (sI (sN σ (0) 0 (nI (0))) (10) (upd (iA σ (10)) ((12 * a) + b) (u)))) rfl (by omega) (by decide) (iA_s) ?_
                rw [sI_sI (a := 10)]
                exact g_return C hr hlk dX11_distance_85 (Or.inr ⟨a, b, hb_a, hb_b, rfl, rfl, Or.inr ⟨hne, hu, rfl⟩⟩)
              · exact absurd c_17 (by decide)
            · have hbd : a = b ∨ ¬ okR 0 100000 u := Or.inr (fun h => h.2 (Int32.not_le.mp c_15))
              refine g_iconst (pc9 := 49) C rfl (nI (1)) dX11_distance_48 rfl ?_
              refine g_goto C 53 dX11_distance_49 rfl ?_
              refine g_iconst (pc9 := 54) C rfl (nI (2)) dX11_distance_53 rfl ?_
              refine g_callVi (nn := 2) (rest := []) (pc9 := 57) C rfl (0) [.int (nI (1)), .int (nI (2))] rfl dX11_distance_54 (m_throws1 l w (sN σ (0) 0 (nI (0))) 2) gX11_distance_X11_throwsIf (by decide) (ce_0 w (sN σ (0) 0 (nI (0)))) rfl rfl rfl rfl rfl (by decide +kernel) ⟨by decide, by decide⟩ rfl (Nat.le_of_ble_eq_true rfl) ⟨by decide, by decide⟩ (fun r_18 σ_18 q_18 => ?_)
              obtain ⟨qs_18, qr_18⟩ := q_18
              rw [qr_18]
              refine g_st (σ9 := sN σ (0) 0 (nI (2))) (qs_18.trans (by show sN (sN σ (0) 0 (nI (0))) (0) 0 (nI (2)) = sN σ (0) 0 (nI (2)); rw [sN_sN])) ?_
              refine g_if_eq (pc9 := 60) C rfl 61 dX11_distance_57 rfl (fun c_19 => ?_) (fun c_19 => ?_)
              · exact absurd c_19 (by decide)
              · exact g_return C hr hlk dX11_distance_60 (by first | exact Or.inl ⟨hns, rfl⟩ | exact Or.inr ⟨a, b, hb_a, hb_b, rfl, rfl, Or.inl ⟨hbd, rfl⟩⟩)
    · have hns : ¬ (okI 12 x ∧ okI 12 y) := fun h => pI_ye c_6 h.2
      refine g_iconst (pc9 := 21) C rfl (nI (1)) dX11_distance_20 rfl ?_
      refine g_goto C 25 dX11_distance_21 rfl ?_
      refine g_iconst (pc9 := 26) C rfl (nI (1)) dX11_distance_25 rfl ?_
      refine g_callVi (nn := 2) (rest := []) (pc9 := 29) C rfl (0) [.int (nI (1)), .int (nI (1))] rfl dX11_distance_26 (m_throws1 l w (sN σ (0) 0 (nI (0))) 1) gX11_distance_X11_throwsIf (by decide) (ce_0 w (sN σ (0) 0 (nI (0)))) rfl rfl rfl rfl rfl (by decide +kernel) ⟨by decide, by decide⟩ rfl (Nat.le_of_ble_eq_true rfl) ⟨by decide, by decide⟩ (fun r_20 σ_20 q_20 => ?_)
      obtain ⟨qs_20, qr_20⟩ := q_20
      rw [qr_20]
      refine g_st (σ9 := sN σ (0) 0 (nI (1))) (qs_20.trans (by show sN (sN σ (0) 0 (nI (0))) (0) 0 (nI (1)) = sN σ (0) 0 (nI (1)); rw [sN_sN])) ?_
      refine g_if_ne (pc9 := 32) C rfl 60 dX11_distance_29 rfl (fun c_21 => ?_) (fun c_21 => ?_)
      · exact g_return C hr hlk dX11_distance_60 (by first | exact Or.inl ⟨hns, rfl⟩ | exact Or.inr ⟨a, b, hb_a, hb_b, rfl, rfl, Or.inl ⟨hbd, rfl⟩⟩)
      · exact absurd c_21 (by decide)
def mfuU (σ : St) : Nat → Int32
  | 0 => nI 0
  | k + 1 => mfuU σ k ||| (if mN σ k = 0 then nI 0 else nI 1 <<< (nI k &&& 31))
def mctR (σ : St) (x : Int32) : Int32 := if x = nI 0 then mfuU σ 8 else if x = nI 1 then nF σ 0 11 else if x = nI 2 then nF σ 0 13 else if x = nI 3 then nF σ 0 16 else if x = nI 4 then nF σ 0 2 else if x = nI 5 then nF σ 0 18 else -1
set_option maxRecDepth 100000 in
set_option maxHeartbeats 4000000 in
theorem m_X11_count (l : Launch) (w : Wd) (σ : St) (hM : ∀ i, i < 8 → mtOk σ i) (x : Int32) : MI l yX11_count wsX11_count (rmL 1) w [.ref (w.1 (0)), .int (x)] (σ) (fun r σ9 => σ9 = mT σ 0 ∧ r = mctR σ x) := by
  refine MI_of (cc := cX11_count) (maxL := 4) (ret := .int) (by decide) rfl (Nat.le_of_ble_eq_true rfl) ?_
  intro p e s m args below meth c A C hr hlk
  have C : Cx p s m args c w A cX11_count RX11 4 wsX11_count := C
  have hin_11 : ∀ u ∈ wsX110, u ∈ wsX11_count := by decide +kernel
  have hl_17 : Cond.fieldLink RX11 17 "LineageBenchModel" "many" "[I" ∈ wsX11_count := by decide +kernel
  have hl_45 : Cond.fieldLink RX11 45 "LineageBenchModel" "n" "I" ∈ wsX11_count := by decide +kernel
  have hl_107 : Cond.fieldLink RX11 107 "LineageBenchModel" "thrown" "I" ∈ wsX11_count := by decide +kernel
  have hl_161 : Cond.fieldLink RX11 161 "LineageBenchModel" "taped" "I" ∈ wsX11_count := by decide +kernel
  have hl_181 : Cond.fieldLink RX11 181 "LineageBenchModel" "writtenMany" "I" ∈ wsX11_count := by decide +kernel
  have hl_222 : Cond.fieldLink RX11 222 "LineageBenchModel" "triples" "I" ∈ wsX11_count := by decide +kernel
  have hl_231 : Cond.fieldLink RX11 231 "LineageBenchModel" "signMany" "I" ∈ wsX11_count := by decide +kernel
  refine g_aload_n (pc9 := 1) C rfl 0 dX11_count_0 rfl rfl ?_
  refine g_iconst (pc9 := 2) C rfl (nI (0)) dX11_count_1 rfl ?_
  refine g_put (pc9 := 5) C rfl (0) 0 dX11_count_2 (by decide) (ce_0 w (σ)) (rfl) hin_11 hl_107 tyX11 tyX11_ok nmX11 rfl (by decide) rfl rfl rfl (Nat.le_of_ble_eq_true rfl) ?_
  refine g_iload_n (pc9 := 6) C rfl 1 dX11_count_5 rfl rfl ?_
  rcases sw_in (x) (n := 6) (by decide) with ⟨i_1, hi_1, hx_1⟩ | hx_1
  · rcases (show i_1 = 0 ∨ i_1 = 1 ∨ i_1 = 2 ∨ i_1 = 3 ∨ i_1 = 4 ∨ i_1 = 5 by omega) with h_1 | h_1 | h_1 | h_1 | h_1 | h_1
    · subst h_1
      subst hx_1
      refine g_tableIn C 44 (off := 38) dX11_count_6 (by decide) (by decide) (by decide) rfl ?_
      refine g_iconst (pc9 := 45) C rfl (nI (0)) dX11_count_44 rfl ?_
      refine g_istore_n (pc9 := 46) C rfl [(2, .int (nI (0))), (0, .ref (w.1 (0))), (1, .int (nI (0)))] dX11_count_45 rfl (by decide) rfl ?_
      refine g_iconst (pc9 := 47) C rfl (nI (0)) dX11_count_46 rfl ?_
      refine g_istore_n (pc9 := 48) C rfl [(3, .int (nI (0))), (2, .int (nI (0))), (0, .ref (w.1 (0))), (1, .int (nI (0)))] dX11_count_47 rfl (by decide) rfl ?_
      refine g_sub [0, 1, 2, 3] [(3, .int (nI (0))), (2, .int (nI (0))), (0, .ref (w.1 (0))), (1, .int (nI (0)))] rfl ?_
      refine g_lp1 (α := Nat) (fun v => v ≤ 8) (fun v => 8 - v) (fun v => G p l e _ s m args below meth c _ w A _ (sN σ (0) 0 (nI (0))) 0 0 48 [(3, .int (nI (v))), (2, .int (mfuU σ v)), (0, .ref (w.1 (0))), (1, .int (nI (0)))] []) (fun v hI ih => ?_) (0) (Nat.zero_le _)
      obtain hv := hI
      refine g_iload_n (pc9 := 49) C rfl 0 dX11_count_48 rfl rfl ?_
      refine g_bipush (pc9 := 51) C rfl (nI (8)) dX11_count_49 rfl ?_
      refine g_icmp_ge (pc9 := 54) C rfl 79 dX11_count_51 rfl (fun c_2 => ?_) (fun c_2 => ?_)
      · replace c_2 := (nI_leI (by omega) (by omega)).mp c_2
        refine g_iload_n (pc9 := 80) C rfl 1 dX11_count_79 rfl rfl ?_
        exact g_ireturn C hr hlk dX11_count_80 ⟨rfl, by rw [show v = 8 by omega]; rfl⟩
      · replace c_2 := (not_congr (nI_leI (by omega) (by omega))).mp c_2
        refine g_iload_n (pc9 := 55) C rfl 1 dX11_count_54 rfl rfl ?_
        refine g_aload_n (pc9 := 56) C rfl 2 dX11_count_55 rfl rfl ?_
        refine g_get (v := .ref (w.1 (2))) (pc9 := 59) C rfl (0) 5 dX11_count_56 (by decide) (ce_0 w (sN σ (0) 0 (nI (0)))) hin_11 hl_17 rfl (by decide) rfl rfl ?_
        refine g_iload_n (pc9 := 60) C rfl 0 dX11_count_59 rfl rfl ?_
        refine g_iald (x := nI (mN σ (v))) (pc9 := 61) C rfl (2) (v) dX11_count_60 (by decide) (ce_2 w (sN σ (0) 0 (nI (0)))) rfl (by omega) (by decide) ((congrFun (iA_N) _).trans (hM v (by omega)).1) ?_
        have h47 := (hM v (by omega)).2.1
        refine g_if_le (pc9 := 64) C rfl 70 dX11_count_61 rfl (fun c_3 => ?_) (fun c_3 => ?_)
        · replace c_3 := (z_le (by omega)).mp c_3
          have hs : mfuU σ (v + 1) = mfuU σ v ||| nI 0 := congrArg (mfuU σ v ||| ·) (if_pos (by omega))
          refine g_iconst (pc9 := 71) C rfl (nI (0)) dX11_count_70 rfl ?_
          refine g_ior (pc9 := 72) C rfl dX11_count_71 ?_
          refine g_istore_n (pc9 := 73) C rfl [(2, .int ((mfuU σ v) ||| (nI (0)))), (3, .int (nI (v))), (0, .ref (w.1 (0))), (1, .int (nI (0)))] dX11_count_72 rfl (by decide) rfl ?_
          refine g_iinc (pc9 := 76) C rfl [(3, .int (nI (v + 1))), (2, .int ((mfuU σ v) ||| (nI (0)))), (0, .ref (w.1 (0))), (1, .int (nI (0)))] 1 (nI (v + 1)) dX11_count_73 rfl (nI_1 (v)) (by decide) rfl ?_
          refine g_goto C 48 dX11_count_76 rfl ?_
          refine g_sub [0, 1, 2, 3] [(3, .int (nI (v + 1))), (2, .int ((mfuU σ v) ||| (nI (0)))), (0, .ref (w.1 (0))), (1, .int (nI (0)))] rfl ?_
          refine g_l2 hs.symm ?_
          exact ih (v + 1) (by omega) (by omega)
        · replace c_3 := (not_congr (z_le (by omega))).mp c_3
          have hs : mfuU σ (v + 1) = mfuU σ v ||| (nI 1 <<< (nI v &&& 31)) := congrArg (mfuU σ v ||| ·) (if_neg (by omega))
          refine g_iconst (pc9 := 65) C rfl (nI (1)) dX11_count_64 rfl ?_
          refine g_iload_n (pc9 := 66) C rfl 0 dX11_count_65 rfl rfl ?_
          refine g_ishl (pc9 := 67) C rfl dX11_count_66 ?_
          refine g_goto C 71 dX11_count_67 rfl ?_
          refine g_ior (pc9 := 72) C rfl dX11_count_71 ?_
          refine g_istore_n (pc9 := 73) C rfl [(2, .int ((mfuU σ v) ||| ((nI (1)) <<< ((nI (v)) &&& 31)))), (3, .int (nI (v))), (0, .ref (w.1 (0))), (1, .int (nI (0)))] dX11_count_72 rfl (by decide) rfl ?_
          refine g_iinc (pc9 := 76) C rfl [(3, .int (nI (v + 1))), (2, .int ((mfuU σ v) ||| ((nI (1)) <<< ((nI (v)) &&& 31)))), (0, .ref (w.1 (0))), (1, .int (nI (0)))] 1 (nI (v + 1)) dX11_count_73 rfl (nI_1 (v)) (by decide) rfl ?_
          refine g_goto C 48 dX11_count_76 rfl ?_
          refine g_sub [0, 1, 2, 3] [(3, .int (nI (v + 1))), (2, .int ((mfuU σ v) ||| ((nI (1)) <<< ((nI (v)) &&& 31)))), (0, .ref (w.1 (0))), (1, .int (nI (0)))] rfl ?_
          refine g_l2 hs.symm ?_
          exact ih (v + 1) (by omega) (by omega)
    · subst h_1
      subst hx_1
      refine g_tableIn C 81 (off := 75) dX11_count_6 (by decide) (by decide) (by decide) rfl ?_
      refine g_aload_n (pc9 := 82) C rfl 0 dX11_count_81 rfl rfl ?_
      refine g_get (v := .int (nF σ (0) 11)) (pc9 := 85) C rfl (0) 11 dX11_count_82 (by decide) (ce_0 w (sN σ (0) 0 (nI (0)))) hin_11 hl_222 rfl (by decide) rfl (congrArg (fun z => some (Value.int z)) (nF_k (k := 0) (k9 := 11) (by decide))) ?_
      exact g_ireturn C hr hlk dX11_count_85 ⟨rfl, rfl⟩
    · subst h_1
      subst hx_1
      refine g_tableIn C 86 (off := 80) dX11_count_6 (by decide) (by decide) (by decide) rfl ?_
      refine g_aload_n (pc9 := 87) C rfl 0 dX11_count_86 rfl rfl ?_
      refine g_get (v := .int (nF σ (0) 13)) (pc9 := 90) C rfl (0) 13 dX11_count_87 (by decide) (ce_0 w (sN σ (0) 0 (nI (0)))) hin_11 hl_231 rfl (by decide) rfl (congrArg (fun z => some (Value.int z)) (nF_k (k := 0) (k9 := 13) (by decide))) ?_
      exact g_ireturn C hr hlk dX11_count_90 ⟨rfl, rfl⟩
    · subst h_1
      subst hx_1
      refine g_tableIn C 91 (off := 85) dX11_count_6 (by decide) (by decide) (by decide) rfl ?_
      refine g_aload_n (pc9 := 92) C rfl 0 dX11_count_91 rfl rfl ?_
      refine g_get (v := .int (nF σ (0) 16)) (pc9 := 95) C rfl (0) 16 dX11_count_92 (by decide) (ce_0 w (sN σ (0) 0 (nI (0)))) hin_11 hl_45 rfl (by decide) rfl (congrArg (fun z => some (Value.int z)) (nF_k (k := 0) (k9 := 16) (by decide))) ?_
      exact g_ireturn C hr hlk dX11_count_95 ⟨rfl, rfl⟩
    · subst h_1
      subst hx_1
      refine g_tableIn C 96 (off := 90) dX11_count_6 (by decide) (by decide) (by decide) rfl ?_
      refine g_aload_n (pc9 := 97) C rfl 0 dX11_count_96 rfl rfl ?_
      refine g_get (v := .int (nF σ (0) 2)) (pc9 := 100) C rfl (0) 2 dX11_count_97 (by decide) (ce_0 w (sN σ (0) 0 (nI (0)))) hin_11 hl_161 rfl (by decide) rfl (congrArg (fun z => some (Value.int z)) (nF_k (k := 0) (k9 := 2) (by decide))) ?_
      exact g_ireturn C hr hlk dX11_count_100 ⟨rfl, rfl⟩
    · subst h_1
      subst hx_1
      refine g_tableIn C 101 (off := 95) dX11_count_6 (by decide) (by decide) (by decide) rfl ?_
      refine g_aload_n (pc9 := 102) C rfl 0 dX11_count_101 rfl rfl ?_
      refine g_get (v := .int (nF σ (0) 18)) (pc9 := 105) C rfl (0) 18 dX11_count_102 (by decide) (ce_0 w (sN σ (0) 0 (nI (0)))) hin_11 hl_181 rfl (by decide) rfl (congrArg (fun z => some (Value.int z)) (nF_k (k := 0) (k9 := 18) (by decide))) ?_
      exact g_ireturn C hr hlk dX11_count_105 ⟨rfl, rfl⟩
  · refine g_tableOut C 106 dX11_count_6 hx_1 rfl ?_
    have ho : ∀ i, i < 6 → ¬ x = nI i := fun i hi => sw_no (n := 6) hx_1 hi (by decide)
    refine g_iconst (pc9 := 107) C rfl ((-1)) dX11_count_106 rfl ?_
    exact g_ireturn C hr hlk dX11_count_107 ⟨rfl, by unfold mctR; rw [if_neg (ho 0 (by decide)), if_neg (ho 1 (by decide)), if_neg (ho 2 (by decide)), if_neg (ho 3 (by decide)), if_neg (ho 4 (by decide)), if_neg (ho 5 (by decide))]⟩

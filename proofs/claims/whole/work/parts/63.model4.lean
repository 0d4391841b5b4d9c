/-! The reference: reads -/
abbrev mX (σ : St) (L : Nat) : Int32 × Int32 × RdS := exF (iA σ 1) L L 0 (0, 0, 0, iA σ 15)
abbrev rdT (σ : St) (q : GT) (op c : Nat → Int32) (a : Nat) : St := rdM σ q.1 q.2.2.2.1 q.2.2.2.2.1 op c a
def reR (σ : St) (L : Nat) (r : Int32) (σ9 : St) : Prop := ((mX σ L).1 = 0 ∧ r = nI (rdU (iA σ 1) (0, 0, 0, iA σ 15) L).2.1 ∧ ∃ op c a, σ9 = rdT σ (gwU (iA σ 1) gz L) op c a) ∨ (¬ (mX σ L).1 = 0 ∧ r = -1 ∧ ∃ n h k op c a, σ9 = sN (sN (rdM σ n h k op c a) 0 3 (mX σ L).1) 0 4 (mX σ L).2.1)
theorem ex_end {σ : St} {L : Nat} {r : RdS} (h : pfx (iA σ 1) (0, 0, 0, iA σ 15) L) (hr : rdU (iA σ 1) (0, 0, 0, iA σ 15) L = r) (h2 : ¬ r.2.2.1 = 2) : (mX σ L).1 = nI 1 ∧ (mX σ L).2.1 = nI L := by
  have e := exF_pre L (Nat.le_refl _) h
  unfold mX
  rw [e, hr, Nat.sub_self]
  unfold exF
  rw [if_neg h2]
  exact ⟨rfl, rfl⟩
theorem ex_bad {σ : St} {L b : Nat} {x : Int32} (h : pfx (iA σ 1) (0, 0, 0, iA σ 15) b) (hb : b < L) (hx : (rdR (iA σ 1 b) (rdU (iA σ 1) (0, 0, 0, iA σ 15) b)).1 = x) (h0 : ¬ x = 0) : (mX σ L).1 = x ∧ (mX σ L).2.1 = nI b := by
  have e := exF_pre (L := L) b (by omega) h
  unfold mX
  rw [e, exF_s hb, if_neg (by rw [hx]; exact h0)]
  exact ⟨hx, rfl⟩
theorem ex_good {σ : St} {L : Nat} (h : pfx (iA σ 1) (0, 0, 0, iA σ 15) L) (h2 : (rdU (iA σ 1) (0, 0, 0, iA σ 15) L).2.2.1 = 2) : (mX σ L).1 = 0 := by
  have e := exF_pre L (Nat.le_refl _) h
  unfold mX
  rw [e, Nat.sub_self]
  unfold exF
  rw [if_pos h2]
  rfl
theorem re_w {σ : St} {L n a : Nat} {h k op c : Nat → Int32} {x y : Int32} (hx : (mX σ L).1 = x ∧ (mX σ L).2.1 = y) (h0 : ¬ x = 0) : reR σ L (-1) (sN (sN (rdM σ n h k op c a) 0 3 x) 0 4 y) := Or.inr ⟨by rw [hx.1]; exact h0, rfl, n, h, k, op, c, a, by rw [hx.1, hx.2]⟩
theorem le_108 {x : Int32} (h : ¬ x < nI 97) (h2 : x ≤ nI 108) : letP x := ⟨h, fun q => absurd (Int32.le_trans q h2) (by decide)⟩
theorem gt_108 {x : Int32} (h2 : ¬ x ≤ nI 108) : ¬ letP x := fun h => by
  obtain ⟨k, hk, rfl⟩ := letP_k h
  exact h2 (nI_le (by omega) (by decide))
theorem upd_8 (f : Nat → Int32) (x : Int32) : upd f 8 x 8 = x := pk_us
theorem rd_st (σ : St) : sN (sI (sI (sI (sI (sI σ 2 (upd (iA σ 2) 8 (nI 0))) 3 (iA σ 3)) 4 (iA σ 4)) 14 (iA σ 14)) 15 (iA σ 15)) 0 22 (nI 0) = sN (sI σ 2 (upd (iA σ 2) 8 (nI 0))) 0 22 (nI 0) := by
  refine congrArg (fun z => sN z 0 22 (nI 0)) ?_
  refine Prod.ext (funext fun q => ?_) rfl
  show va_up (va_up (va_up (va_up (va_up σ.1 2 _) 3 _) 4 _) 14 _) 15 _ q = va_up σ.1 2 _ q
  unfold va_up
  by_cases h3 : q = 3
  · subst h3; rfl
  · by_cases h4 : q = 4
    · subst h4; rfl
    · by_cases h5 : q = 14
      · subst h5; rfl
      · by_cases h6 : q = 15
        · subst h6; rfl
        · simp only [if_neg h3, if_neg h4, if_neg h5, if_neg h6]
set_option maxRecDepth 100000 in
set_option maxHeartbeats 4000000 in
theorem m_X11_reads (l : Launch) (w : Wd) (σ : St) (L : Nat) (hL4 : L ≤ 400) : MI l yX11_reads wsX11_reads (rmL 2) w [.ref (w.1 (0)), .int (nI (L))] (σ) (reR σ L) := by
  refine MI_of (cc := cX11_reads) (maxL := 9) (ret := .int) (by decide) rfl (Nat.le_of_ble_eq_true rfl) ?_
  intro p e s m args below meth c A C hr hlk
  have C : Cx p s m args c w A cX11_reads RX11 9 wsX11_reads := C
  have hin_11 : ∀ u ∈ wsX110, u ∈ wsX11_reads := by decide +kernel
  have hl_9 : Cond.fieldLink RX11 9 "LineageBenchModel" "tape" "[B" ∈ wsX11_reads := by decide +kernel
  have hl_17 : Cond.fieldLink RX11 17 "LineageBenchModel" "many" "[I" ∈ wsX11_reads := by decide +kernel
  have hl_57 : Cond.fieldLink RX11 57 "LineageBenchModel" "open" "[I" ∈ wsX11_reads := by decide +kernel
  have hl_60 : Cond.fieldLink RX11 60 "LineageBenchModel" "had" "[I" ∈ wsX11_reads := by decide +kernel
  have hl_141 : Cond.fieldLink RX11 141 "LineageBenchModel" "at" "I" ∈ wsX11_reads := by decide +kernel
  refine g_aload_n (pc9 := 1) C rfl 0 dX11_reads_0 rfl rfl ?_
  refine g_get (v := .ref (w.1 (2))) (pc9 := 4) C rfl (0) 5 dX11_reads_1 (by decide) (ce_0 w (σ)) hin_11 hl_17 rfl (by decide) rfl rfl ?_
  refine g_bipush (pc9 := 6) C rfl (nI (8)) dX11_reads_4 rfl ?_
  refine g_iconst (pc9 := 7) C rfl (nI (0)) dX11_reads_6 rfl ?_
  refine g_iast (pc9 := 8) C rfl (2) (8) (iA σ (2)) dX11_reads_7 (by decide) (fun _ => rfl) (ce_2 w (σ)) rfl (by omega) (by decide) rfl ?_
  refine g_aload_n (pc9 := 9) C rfl 0 dX11_reads_8 rfl rfl ?_
  refine g_iconst (pc9 := 10) C rfl (nI (0)) dX11_reads_9 rfl ?_
  refine g_put (pc9 := 13) C rfl (0) 22 dX11_reads_10 (by decide) (ce_0 w (sI σ (2) (upd (iA σ (2)) (8) (nI (0))))) (rfl) hin_11 hl_141 tyX11 tyX11_ok nmX11 rfl (by decide) rfl rfl rfl (Nat.le_of_ble_eq_true rfl) ?_
  refine g_iconst (pc9 := 14) C rfl (nI (0)) dX11_reads_13 rfl ?_
  refine g_istore_n (pc9 := 15) C rfl [(2, .int (nI (0))), (0, .ref (w.1 (0))), (1, .int (nI (L)))] dX11_reads_14 rfl (by decide) rfl ?_
  refine g_iconst (pc9 := 16) C rfl (nI (0)) dX11_reads_15 rfl ?_
  refine g_istore_n (pc9 := 17) C rfl [(3, .int (nI (0))), (2, .int (nI (0))), (0, .ref (w.1 (0))), (1, .int (nI (L)))] dX11_reads_16 rfl (by decide) rfl ?_
  refine g_iconst (pc9 := 18) C rfl (nI (0)) dX11_reads_17 rfl ?_
  refine g_istore (pc9 := 20) C rfl [(4, .int (nI (0))), (3, .int (nI (0))), (2, .int (nI (0))), (0, .ref (w.1 (0))), (1, .int (nI (L)))] dX11_reads_18 (by decide) rfl ?_
  refine g_sub [0, 1, 2, 3, 4] [(4, .int (nI (0))), (3, .int (nI (0))), (2, .int (nI (0))), (0, .ref (w.1 (0))), (1, .int (nI (L)))] rfl ?_
  refine g_st (σ9 := sN (sI (sI (sI (sI (sI σ (2) (upd (iA σ 2) 8 (nI ((gwU (iA σ 1) gz 0).1)))) (3) (put47 ((gwU (iA σ 1) gz 0).2.2.2.1) (iA σ 3) 8 ((gwU (iA σ 1) gz 0).1))) (4) (put47 ((gwU (iA σ 1) gz 0).2.2.2.2.1) (iA σ 4) 8 ((gwU (iA σ 1) gz 0).1))) (14) ((iA σ 14))) (15) ((rdU (iA σ 1) (0, 0, 0, iA σ 15) 0).2.2.2)) (0) 22 (nI (0))) (by rw [show put47 (gwU (iA σ 1) gz 0).2.2.2.1 (iA σ 3) 8 (gwU (iA σ 1) gz 0).1 = iA σ 3 from put47_0 _ _ _, show put47 (gwU (iA σ 1) gz 0).2.2.2.2.1 (iA σ 4) 8 (gwU (iA σ 1) gz 0).1 = iA σ 4 from put47_0 _ _ _]; exact (rd_st σ).symm) ?_
  refine g_lp2 (α := Nat) (β := Nat → Int32) (fun a op => a ≤ L ∧ pfx (iA σ 1) (0, 0, 0, iA σ 15) a ∧ (rdU (iA σ 1) (0, 0, 0, iA σ 15) a).2.2.1 = 0 ∧ OPk (rdU (iA σ 1) (0, 0, 0, iA σ 15) a) op (gwU (iA σ 1) gz a)) (fun a op => L - a) (fun a op => G p l e _ s m args below meth c _ w A _ (sN (sI (sI (sI (sI (sI σ (2) (upd (iA σ 2) 8 (nI ((gwU (iA σ 1) gz a).1)))) (3) (put47 ((gwU (iA σ 1) gz a).2.2.2.1) (iA σ 3) 8 ((gwU (iA σ 1) gz a).1))) (4) (put47 ((gwU (iA σ 1) gz a).2.2.2.2.1) (iA σ 4) 8 ((gwU (iA σ 1) gz a).1))) (14) (op)) (15) ((rdU (iA σ 1) (0, 0, 0, iA σ 15) a).2.2.2)) (0) 22 (nI (a))) 0 0 20 [(4, .int (nI (0))), (3, .int (nI ((rdU (iA σ 1) (0, 0, 0, iA σ 15) a).2.1))), (2, .int (nI ((rdU (iA σ 1) (0, 0, 0, iA σ 15) a).1))), (0, .ref (w.1 (0))), (1, .int (nI (L)))] []) (fun a op hI ih => ?_) (0) (iA σ 14) ⟨Nat.zero_le _, fun i hi => absurd hi (by omega), rfl, ⟨fun z => absurd (show 0 < 0 from z) (by decide), fun k hk => absurd (show k < 0 from hk) (by omega), fun k hk => absurd (show k + 1 < 0 from hk) (by omega), fun z => absurd (show 0 < 0 from z) (by decide), fun _ => rfl, (by show 0 < 80; decide)⟩⟩
  obtain ⟨ha, hpf, hph, hop⟩ := hI
  refine g_iload (pc9 := 22) C rfl 0 dX11_reads_20 rfl ?_
  refine g_if_ne (pc9 := 25) C rfl 338 dX11_reads_22 rfl (fun c_1 => ?_) (fun c_1 => ?_)
  · exact absurd c_1 (by decide)
  · refine g_aload_n (pc9 := 26) C rfl 3 dX11_reads_25 rfl rfl ?_
    refine g_iload_n (pc9 := 27) C rfl 4 dX11_reads_26 rfl rfl ?_
    refine g_callVv (nn := 1) (rest := []) (pc9 := 30) C rfl (0) [.int (nI (L))] rfl dX11_reads_27 (m_X11_blanks l w (sN (sI (sI (sI (sI (sI σ (2) (upd (iA σ 2) 8 (nI ((gwU (iA σ 1) gz a).1)))) (3) (put47 ((gwU (iA σ 1) gz a).2.2.2.1) (iA σ 3) 8 ((gwU (iA σ 1) gz a).1))) (4) (put47 ((gwU (iA σ 1) gz a).2.2.2.2.1) (iA σ 4) 8 ((gwU (iA σ 1) gz a).1))) (14) (op)) (15) ((rdU (iA σ 1) (0, 0, 0, iA σ 15) a).2.2.2)) (0) 22 (nI (a))) a L ((nF_s)) (by omega) hL4) gX11_reads_X11_blanks (by decide) (ce_0 w (sN (sI (sI (sI (sI (sI σ (2) (upd (iA σ 2) 8 (nI ((gwU (iA σ 1) gz a).1)))) (3) (put47 ((gwU (iA σ 1) gz a).2.2.2.1) (iA σ 3) 8 ((gwU (iA σ 1) gz a).1))) (4) (put47 ((gwU (iA σ 1) gz a).2.2.2.2.1) (iA σ 4) 8 ((gwU (iA σ 1) gz a).1))) (14) (op)) (15) ((rdU (iA σ 1) (0, 0, 0, iA σ 15) a).2.2.2)) (0) 22 (nI (a)))) rfl rfl rfl rfl rfl (by decide +kernel) ⟨by decide, by decide⟩ rfl (Nat.le_of_ble_eq_true rfl) ⟨by decide, by decide⟩ (fun σ_2 q_2 => ?_)
    obtain ⟨b, hb1_b, hb2_b, hb3_b, hb4_b, qs_2⟩ := q_2
    replace hb3_b : ∀ u, a ≤ u → u < b → iA σ 1 u = nI 32 := hb3_b
    replace hb4_b : b < L → ¬ iA σ 1 b = nI 32 := hb4_b
    obtain ⟨eb1_b, eb2_b, eb3_b⟩ := blk (f := iA σ 1) (r := (0, 0, 0, iA σ 15)) (q := gz) b hb1_b hb3_b
    rw [qs_2, sN_sN, ← eb1_b, ← eb2_b]
    have hpf_b := eb3_b hpf
    have hgw := gw_pre b (by omega) hpf_b
    have hrk := rdU_ok (f := iA σ 1) (r := (0, 0, 0, iA σ 15)) ⟨Nat.zero_le _, Nat.zero_le _, Nat.zero_le _⟩ b
    rw [← eb1_b] at hph
    rw [← eb1_b, ← eb2_b] at hop
    have hr1 := hrk.1
    have hr2 := hrk.2.1
    refine g_aload_n (pc9 := 31) C rfl 3 dX11_reads_30 rfl rfl ?_
    refine g_get (v := .int (nI (b))) (pc9 := 34) C rfl (0) 22 dX11_reads_31 (by decide) (ce_0 w (sN (sI (sI (sI (sI (sI σ (2) (upd (iA σ 2) 8 (nI ((gwU (iA σ 1) gz b).1)))) (3) (put47 ((gwU (iA σ 1) gz b).2.2.2.1) (iA σ 3) 8 ((gwU (iA σ 1) gz b).1))) (4) (put47 ((gwU (iA σ 1) gz b).2.2.2.2.1) (iA σ 4) 8 ((gwU (iA σ 1) gz b).1))) (14) (op)) (15) ((rdU (iA σ 1) (0, 0, 0, iA σ 15) b).2.2.2)) (0) 22 (nI (b)))) hin_11 hl_141 rfl (by decide) rfl (congrArg (fun z => some (Value.int z)) (nF_s)) ?_
    refine g_iload_n (pc9 := 35) C rfl 4 dX11_reads_34 rfl rfl ?_
    refine g_icmp_ne (pc9 := 38) C rfl 44 dX11_reads_35 rfl (fun c_3 => ?_) (fun c_3 => ?_)
    · replace c_3 := (not_congr (nI_eq (by omega) (by omega))).mp c_3
      have hbL : b < L := by omega
      have h32 := hb4_b hbL
      refine g_aload_n (pc9 := 45) C rfl 3 dX11_reads_44 rfl rfl ?_
      refine g_get (v := .ref (w.1 (1))) (pc9 := 48) C rfl (0) 1 dX11_reads_45 (by decide) (ce_0 w (sN (sI (sI (sI (sI (sI σ (2) (upd (iA σ 2) 8 (nI ((gwU (iA σ 1) gz b).1)))) (3) (put47 ((gwU (iA σ 1) gz b).2.2.2.1) (iA σ 3) 8 ((gwU (iA σ 1) gz b).1))) (4) (put47 ((gwU (iA σ 1) gz b).2.2.2.2.1) (iA σ 4) 8 ((gwU (iA σ 1) gz b).1))) (14) (op)) (15) ((rdU (iA σ 1) (0, 0, 0, iA σ 15) b).2.2.2)) (0) 22 (nI (b)))) hin_11 hl_9 rfl (by decide) rfl rfl ?_
      refine g_aload_n (pc9 := 49) C rfl 3 dX11_reads_48 rfl rfl ?_
      refine g_get (v := .int (nI (b))) (pc9 := 52) C rfl (0) 22 dX11_reads_49 (by decide) (ce_0 w (sN (sI (sI (sI (sI (sI σ (2) (upd (iA σ 2) 8 (nI ((gwU (iA σ 1) gz b).1)))) (3) (put47 ((gwU (iA σ 1) gz b).2.2.2.1) (iA σ 3) 8 ((gwU (iA σ 1) gz b).1))) (4) (put47 ((gwU (iA σ 1) gz b).2.2.2.2.1) (iA σ 4) 8 ((gwU (iA σ 1) gz b).1))) (14) (op)) (15) ((rdU (iA σ 1) (0, 0, 0, iA σ 15) b).2.2.2)) (0) 22 (nI (b)))) hin_11 hl_141 rfl (by decide) rfl (congrArg (fun z => some (Value.int z)) (nF_s)) ?_
      refine g_bald (x := (iA σ (1)) (b)) (pc9 := 53) C rfl (1) (b) dX11_reads_52 (by decide) (ce_1 w (sN (sI (sI (sI (sI (sI σ (2) (upd (iA σ 2) 8 (nI ((gwU (iA σ 1) gz b).1)))) (3) (put47 ((gwU (iA σ 1) gz b).2.2.2.1) (iA σ 3) 8 ((gwU (iA σ 1) gz b).1))) (4) (put47 ((gwU (iA σ 1) gz b).2.2.2.2.1) (iA σ 4) 8 ((gwU (iA σ 1) gz b).1))) (14) (op)) (15) ((rdU (iA σ 1) (0, 0, 0, iA σ 15) b).2.2.2)) (0) 22 (nI (b)))) rfl (by omega) (by decide) (congrFun ((((((iA_N).trans (iA_n (by decide))).trans (iA_n (by decide))).trans (iA_n (by decide))).trans (iA_n (by decide))).trans (iA_n (by decide))) _) ?_
      refine g_istore (pc9 := 55) C rfl [(5, .int ((iA σ (1)) (b))), (4, .int (nI (0))), (3, .int (nI ((rdU (iA σ 1) (0, 0, 0, iA σ 15) b).2.1))), (2, .int (nI ((rdU (iA σ 1) (0, 0, 0, iA σ 15) b).1))), (0, .ref (w.1 (0))), (1, .int (nI (L)))] dX11_reads_53 (by decide) rfl ?_
      refine g_iload_n (pc9 := 56) C rfl 3 dX11_reads_55 rfl rfl ?_
      refine g_if_le (pc9 := 59) C rfl 70 dX11_reads_56 rfl (fun c_4 => ?_) (fun c_4 => ?_)
      · replace c_4 := (z_le (by omega)).mp c_4
        have ho0 : (rdU (iA σ 1) (0, 0, 0, iA σ 15) b).1 = 0 := by omega
        have hab : (-1 : Int32) = (gwU (iA σ 1) gz b).2.1 := (hop.2.2.2.2.1 ho0).symm
        refine g_iconst (pc9 := 71) C rfl ((-1)) dX11_reads_70 rfl ?_
        rw [hab]
        refine g_istore (pc9 := 73) C rfl [(6, .int ((gwU (iA σ 1) gz b).2.1)), (5, .int ((iA σ (1)) (b))), (4, .int (nI (0))), (3, .int (nI ((rdU (iA σ 1) (0, 0, 0, iA σ 15) b).2.1))), (2, .int (nI ((rdU (iA σ 1) (0, 0, 0, iA σ 15) b).1))), (0, .ref (w.1 (0))), (1, .int (nI (L)))] dX11_reads_71 (by decide) rfl ?_
        refine g_iload (pc9 := 75) C rfl 1 dX11_reads_73 rfl ?_
        refine g_bipush (pc9 := 77) C rfl (nI (40)) dX11_reads_75 rfl ?_
        refine g_icmp_ne (pc9 := 80) C rfl 128 dX11_reads_77 rfl (fun c_5 => ?_) (fun c_5 => ?_)
        · have h40 : ¬ iA σ 1 b = nI 40 := c_5
          refine g_iload (pc9 := 130) C rfl 1 dX11_reads_128 rfl ?_
          refine g_bipush (pc9 := 132) C rfl (nI (97)) dX11_reads_130 rfl ?_
          refine g_icmp_lt (pc9 := 135) C rfl 142 dX11_reads_132 rfl (fun c_6 => ?_) (fun c_6 => ?_)
          · have hnl : ¬ letP (iA σ 1 b) := fun h => h.1 c_6
            refine g_aload_n (pc9 := 143) C rfl 5 dX11_reads_142 rfl rfl ?_
            refine g_iconst (pc9 := 144) C rfl (nI (1)) dX11_reads_143 rfl ?_
            refine g_callVi (nn := 1) (rest := []) (pc9 := 147) C rfl (0) [.int (nI (1))] rfl dX11_reads_144 (m_X11_wrong l w (sN (sI (sI (sI (sI (sI σ (2) (upd (iA σ 2) 8 (nI ((gwU (iA σ 1) gz b).1)))) (3) (put47 ((gwU (iA σ 1) gz b).2.2.2.1) (iA σ 3) 8 ((gwU (iA σ 1) gz b).1))) (4) (put47 ((gwU (iA σ 1) gz b).2.2.2.2.1) (iA σ 4) 8 ((gwU (iA σ 1) gz b).1))) (14) (op)) (15) ((rdU (iA σ 1) (0, 0, 0, iA σ 15) b).2.2.2)) (0) 22 (nI (b))) 1) gX11_reads_X11_wrong (by decide) (ce_0 w (sN (sI (sI (sI (sI (sI σ (2) (upd (iA σ 2) 8 (nI ((gwU (iA σ 1) gz b).1)))) (3) (put47 ((gwU (iA σ 1) gz b).2.2.2.1) (iA σ 3) 8 ((gwU (iA σ 1) gz b).1))) (4) (put47 ((gwU (iA σ 1) gz b).2.2.2.2.1) (iA σ 4) 8 ((gwU (iA σ 1) gz b).1))) (14) (op)) (15) ((rdU (iA σ 1) (0, 0, 0, iA σ 15) b).2.2.2)) (0) 22 (nI (b)))) rfl rfl rfl rfl rfl (by decide +kernel) ⟨by decide, by decide⟩ rfl (Nat.le_of_ble_eq_true rfl) ⟨by decide, by decide⟩ (fun r_7 σ_7 q_7 => ?_)
            obtain ⟨qs_7, qr_7⟩ := q_7
            have hx9 := ex_bad (σ := σ) hpf_b hbL (rd_nox h32 h40 hnl hph) (by decide)
            rw [qs_7, qr_7]
            exact g_ireturn C hr hlk dX11_reads_147 (re_w hx9 (by decide))
          · have h97 : ¬ iA σ 1 b < nI 97 := c_6
            refine g_iload (pc9 := 137) C rfl 1 dX11_reads_135 rfl ?_
            refine g_bipush (pc9 := 139) C rfl (nI (108)) dX11_reads_137 rfl ?_
            refine g_icmp_le (pc9 := 142) C rfl 148 dX11_reads_139 rfl (fun c_8 => ?_) (fun c_8 => ?_)
            · have hle : letP (iA σ 1 b) := le_108 h97 c_8
              refine g_iload_n (pc9 := 149) C rfl 3 dX11_reads_148 rfl rfl ?_
              refine g_bipush (pc9 := 151) C rfl (nI (24)) dX11_reads_149 rfl ?_
              refine g_icmp_ne (pc9 := 154) C rfl 160 dX11_reads_151 rfl (fun c_9 => ?_) (fun c_9 => ?_)
              · replace c_9 := (not_congr (nI_eq (by omega) (by omega))).mp c_9
                refine g_iinc (pc9 := 163) C rfl [(3, .int (nI ((rdU (iA σ 1) (0, 0, 0, iA σ 15) b).2.1 + 1))), (6, .int ((gwU (iA σ 1) gz b).2.1)), (5, .int ((iA σ (1)) (b))), (4, .int (nI (0))), (2, .int (nI ((rdU (iA σ 1) (0, 0, 0, iA σ 15) b).1))), (0, .ref (w.1 (0))), (1, .int (nI (L)))] 3 (nI ((rdU (iA σ 1) (0, 0, 0, iA σ 15) b).2.1 + 1)) dX11_reads_160 rfl (nI_1 ((rdU (iA σ 1) (0, 0, 0, iA σ 15) b).2.1)) (by decide) rfl ?_
                refine g_aload_n (pc9 := 164) C rfl 5 dX11_reads_163 rfl rfl ?_
                refine g_iload (pc9 := 166) C rfl 1 dX11_reads_164 rfl ?_
                refine g_iload (pc9 := 168) C rfl 2 dX11_reads_166 rfl ?_
                refine g_bipush (pc9 := 170) C rfl (nI (97)) dX11_reads_168 rfl ?_
                refine g_isub (pc9 := 171) C rfl dX11_reads_170 ?_
                refine g_callVi (nn := 2) (rest := []) (pc9 := 174) C rfl (0) [.int ((gwU (iA σ 1) gz b).2.1), .int (((iA σ (1)) (b)) - (nI (97)))] rfl dX11_reads_171 (m_X11_draft l w (sN (sI (sI (sI (sI (sI σ (2) (upd (iA σ 2) 8 (nI ((gwU (iA σ 1) gz b).1)))) (3) (put47 ((gwU (iA σ 1) gz b).2.2.2.1) (iA σ 3) 8 ((gwU (iA σ 1) gz b).1))) (4) (put47 ((gwU (iA σ 1) gz b).2.2.2.2.1) (iA σ 4) 8 ((gwU (iA σ 1) gz b).1))) (14) (op)) (15) ((rdU (iA σ 1) (0, 0, 0, iA σ 15) b).2.2.2)) (0) 22 (nI (b))) (gwU (iA σ 1) gz b).1 (upd_8 (iA σ 2) (nI (gwU (iA σ 1) gz b).1)) hop.2.2.2.2.2 _ _) gX11_reads_X11_draft (by decide) (ce_0 w (sN (sI (sI (sI (sI (sI σ (2) (upd (iA σ 2) 8 (nI ((gwU (iA σ 1) gz b).1)))) (3) (put47 ((gwU (iA σ 1) gz b).2.2.2.1) (iA σ 3) 8 ((gwU (iA σ 1) gz b).1))) (4) (put47 ((gwU (iA σ 1) gz b).2.2.2.2.1) (iA σ 4) 8 ((gwU (iA σ 1) gz b).1))) (14) (op)) (15) ((rdU (iA σ 1) (0, 0, 0, iA σ 15) b).2.2.2)) (0) 22 (nI (b)))) rfl rfl rfl rfl rfl (by decide +kernel) ⟨by decide, by decide⟩ rfl (Nat.le_of_ble_eq_true rfl) ⟨by decide, by decide⟩ (fun r_10 σ_10 q_10 => ?_)
                obtain ⟨qs_10, qr_10⟩ := q_10
                replace qs_10 : σ_10 = sN (sI (sI (sI (sI (sI σ (2) (upd (iA σ 2) 8 (nI ((gwU (iA σ 1) gz b).1 + 1)))) (3) (put47 (upd (gwU (iA σ 1) gz b).2.2.2.1 (gwU (iA σ 1) gz b).1 ((gwU (iA σ 1) gz b).2.1)) (iA σ 3) 8 ((gwU (iA σ 1) gz b).1 + 1))) (4) (put47 (upd (gwU (iA σ 1) gz b).2.2.2.2.1 (gwU (iA σ 1) gz b).1 (iA σ 1 b - nI 97)) (iA σ 4) 8 ((gwU (iA σ 1) gz b).1 + 1))) (14) (op)) (15) ((rdU (iA σ 1) (0, 0, 0, iA σ 15) b).2.2.2)) (0) 22 (nI (b)) := qs_10.trans drS_rdM
                rw [qs_10, qr_10]
                refine g_istore (pc9 := 176) C rfl [(7, .int (nI ((gwU (iA σ 1) gz b).1))), (3, .int (nI ((rdU (iA σ 1) (0, 0, 0, iA σ 15) b).2.1 + 1))), (6, .int ((gwU (iA σ 1) gz b).2.1)), (5, .int ((iA σ (1)) (b))), (4, .int (nI (0))), (2, .int (nI ((rdU (iA σ 1) (0, 0, 0, iA σ 15) b).1))), (0, .ref (w.1 (0))), (1, .int (nI (L)))] dX11_reads_174 (by decide) rfl ?_
                refine g_aload_n (pc9 := 177) C rfl 6 dX11_reads_176 rfl rfl ?_
                refine g_dup (pc9 := 178) C rfl dX11_reads_177 rfl ?_
                refine g_get (v := .int (nI (b))) (pc9 := 181) C rfl (0) 22 dX11_reads_178 (by decide) (ce_0 w (sN (sI (sI (sI (sI (sI σ (2) (upd (iA σ 2) 8 (nI ((gwU (iA σ 1) gz b).1 + 1)))) (3) (put47 (upd (gwU (iA σ 1) gz b).2.2.2.1 (gwU (iA σ 1) gz b).1 ((gwU (iA σ 1) gz b).2.1)) (iA σ 3) 8 ((gwU (iA σ 1) gz b).1 + 1))) (4) (put47 (upd (gwU (iA σ 1) gz b).2.2.2.2.1 (gwU (iA σ 1) gz b).1 (iA σ 1 b - nI 97)) (iA σ 4) 8 ((gwU (iA σ 1) gz b).1 + 1))) (14) (op)) (15) ((rdU (iA σ 1) (0, 0, 0, iA σ 15) b).2.2.2)) (0) 22 (nI (b)))) hin_11 hl_141 rfl (by decide) rfl (congrArg (fun z => some (Value.int z)) (nF_s)) ?_
                refine g_iconst (pc9 := 182) C rfl (nI (1)) dX11_reads_181 rfl ?_
                refine g_iaddN (pc9 := 183) C rfl dX11_reads_182 ?_
                refine g_put (pc9 := 186) C rfl (0) 22 dX11_reads_183 (by decide) (ce_0 w (sN (sI (sI (sI (sI (sI σ (2) (upd (iA σ 2) 8 (nI ((gwU (iA σ 1) gz b).1 + 1)))) (3) (put47 (upd (gwU (iA σ 1) gz b).2.2.2.1 (gwU (iA σ 1) gz b).1 ((gwU (iA σ 1) gz b).2.1)) (iA σ 3) 8 ((gwU (iA σ 1) gz b).1 + 1))) (4) (put47 (upd (gwU (iA σ 1) gz b).2.2.2.2.1 (gwU (iA σ 1) gz b).1 (iA σ 1 b - nI 97)) (iA σ 4) 8 ((gwU (iA σ 1) gz b).1 + 1))) (14) (op)) (15) ((rdU (iA σ 1) (0, 0, 0, iA σ 15) b).2.2.2)) (0) 22 (nI (b)))) (rfl) hin_11 hl_141 tyX11 tyX11_ok nmX11 rfl (by decide) rfl rfl rfl (Nat.le_of_ble_eq_true rfl) ?_
                rw [sN_sN]
                refine g_iconst (pc9 := 187) C rfl (nI (1)) dX11_reads_186 rfl ?_
                refine g_istore (pc9 := 189) C rfl [(8, .int (nI (1))), (7, .int (nI ((gwU (iA σ 1) gz b).1))), (3, .int (nI ((rdU (iA σ 1) (0, 0, 0, iA σ 15) b).2.1 + 1))), (6, .int ((gwU (iA σ 1) gz b).2.1)), (5, .int ((iA σ (1)) (b))), (4, .int (nI (0))), (2, .int (nI ((rdU (iA σ 1) (0, 0, 0, iA σ 15) b).1))), (0, .ref (w.1 (0))), (1, .int (nI (L)))] dX11_reads_187 (by decide) rfl ?_
                refine g_sub [0, 5, 2, 6, 7, 8] [(8, .int (nI (1))), (4, .int (nI (0))), (3, .int (nI ((rdU (iA σ 1) (0, 0, 0, iA σ 15) b).2.1 + 1))), (2, .int (nI ((rdU (iA σ 1) (0, 0, 0, iA σ 15) b).1))), (0, .ref (w.1 (0))), (1, .int (nI (L)))] rfl ?_
                have hO := OPk_let hop hgw hrk hle hph (by omega)
                have e1 : rdU (iA σ 1) (0, 0, 0, iA σ 15) (b + 1) = ((rdU (iA σ 1) (0, 0, 0, iA σ 15) b).1, (rdU (iA σ 1) (0, 0, 0, iA σ 15) b).2.1 + 1, 1, (rdU (iA σ 1) (0, 0, 0, iA σ 15) b).2.2.2) := congrArg Prod.snd (rd_let hle hph (by omega))
                have e2 : gwU (iA σ 1) gz (b + 1) = ((gwU (iA σ 1) gz b).1 + 1, (gwU (iA σ 1) gz b).2.1, tdA (gwU (iA σ 1) gz b).1 (gwU (iA σ 1) gz b).2.1.toNatClampNeg (iA σ 1 b - nI 97) (gwU (iA σ 1) gz b).2.2) := gw_let (let_no hle).2.1 (let_no hle).2.2 hle
                have hpf1 := pfx_s hpf_b (by rw [rd_let hle hph (by omega)]; rfl)
                have hO1 := hO.1
                rw [← hO.2]
                suffices hgo : G p l e _ s m args below meth c _ w A _ (sN (sI (sI (sI (sI (sI σ (2) (upd (iA σ 2) 8 (nI ((gwU (iA σ 1) gz (b + 1)).1)))) (3) (put47 ((gwU (iA σ 1) gz (b + 1)).2.2.2.1) (iA σ 3) 8 ((gwU (iA σ 1) gz (b + 1)).1))) (4) (put47 ((gwU (iA σ 1) gz (b + 1)).2.2.2.2.1) (iA σ 4) 8 ((gwU (iA σ 1) gz (b + 1)).1))) (14) (op)) (15) ((rdU (iA σ 1) (0, 0, 0, iA σ 15) (b + 1)).2.2.2)) (0) 22 (nI ((b + 1)))) 0 0 189 [(8, .int (nI (1))), (4, .int (nI (0))), (3, .int (nI ((rdU (iA σ 1) (0, 0, 0, iA σ 15) (b + 1)).2.1))), (2, .int (nI ((rdU (iA σ 1) (0, 0, 0, iA σ 15) (b + 1)).1))), (0, .ref (w.1 (0))), (1, .int (nI (L)))] [] from by
                  rw [e1, e2] at hgo
                  exact hgo
                refine g_lp1 (α := Nat) (fun c9 => c9 ≤ L ∧ b < c9 ∧ pfx (iA σ 1) (0, 0, 0, iA σ 15) c9 ∧ (rdU (iA σ 1) (0, 0, 0, iA σ 15) c9).2.2.1 = 1 ∧ OPk (rdU (iA σ 1) (0, 0, 0, iA σ 15) c9) op (gwU (iA σ 1) gz c9)) (fun c9 => L - c9) (fun c9 => G p l e _ s m args below meth c _ w A _ (sN (sI (sI (sI (sI (sI σ (2) (upd (iA σ 2) 8 (nI ((gwU (iA σ 1) gz c9).1)))) (3) (put47 ((gwU (iA σ 1) gz c9).2.2.2.1) (iA σ 3) 8 ((gwU (iA σ 1) gz c9).1))) (4) (put47 ((gwU (iA σ 1) gz c9).2.2.2.2.1) (iA σ 4) 8 ((gwU (iA σ 1) gz c9).1))) (14) (op)) (15) ((rdU (iA σ 1) (0, 0, 0, iA σ 15) c9).2.2.2)) (0) 22 (nI (c9))) 0 0 189 [(8, .int (nI (1))), (4, .int (nI (0))), (3, .int (nI ((rdU (iA σ 1) (0, 0, 0, iA σ 15) c9).2.1))), (2, .int (nI ((rdU (iA σ 1) (0, 0, 0, iA σ 15) c9).1))), (0, .ref (w.1 (0))), (1, .int (nI (L)))] []) (fun c9 hI ih2 => ?_) (b + 1) ⟨by omega, by omega, hpf1, by rw [e1], hO1⟩
                obtain ⟨hc1, hc2, hpf_c, hph_c, hop_c⟩ := hI
                refine g_iload (pc9 := 191) C rfl 0 dX11_reads_189 rfl ?_
                refine g_if_eq (pc9 := 194) C rfl 335 dX11_reads_191 rfl (fun c_11 => ?_) (fun c_11 => ?_)
                · exact absurd c_11 (by decide)
                · refine g_aload_n (pc9 := 195) C rfl 4 dX11_reads_194 rfl rfl ?_
                  refine g_iload_n (pc9 := 196) C rfl 5 dX11_reads_195 rfl rfl ?_
                  refine g_callVv (nn := 1) (rest := []) (pc9 := 199) C rfl (0) [.int (nI (L))] rfl dX11_reads_196 (m_X11_blanks l w (sN (sI (sI (sI (sI (sI σ (2) (upd (iA σ 2) 8 (nI ((gwU (iA σ 1) gz c9).1)))) (3) (put47 ((gwU (iA σ 1) gz c9).2.2.2.1) (iA σ 3) 8 ((gwU (iA σ 1) gz c9).1))) (4) (put47 ((gwU (iA σ 1) gz c9).2.2.2.2.1) (iA σ 4) 8 ((gwU (iA σ 1) gz c9).1))) (14) (op)) (15) ((rdU (iA σ 1) (0, 0, 0, iA σ 15) c9).2.2.2)) (0) 22 (nI (c9))) c9 L ((nF_s)) (by omega) hL4) gX11_reads_X11_blanks (by decide) (ce_0 w (sN (sI (sI (sI (sI (sI σ (2) (upd (iA σ 2) 8 (nI ((gwU (iA σ 1) gz c9).1)))) (3) (put47 ((gwU (iA σ 1) gz c9).2.2.2.1) (iA σ 3) 8 ((gwU (iA σ 1) gz c9).1))) (4) (put47 ((gwU (iA σ 1) gz c9).2.2.2.2.1) (iA σ 4) 8 ((gwU (iA σ 1) gz c9).1))) (14) (op)) (15) ((rdU (iA σ 1) (0, 0, 0, iA σ 15) c9).2.2.2)) (0) 22 (nI (c9)))) rfl rfl rfl rfl rfl (by decide +kernel) ⟨by decide, by decide⟩ rfl (Nat.le_of_ble_eq_true rfl) ⟨by decide, by decide⟩ (fun σ_12 q_12 => ?_)
                  obtain ⟨d, hb1_d, hb2_d, hb3_d, hb4_d, qs_12⟩ := q_12
                  replace hb3_d : ∀ u, c9 ≤ u → u < d → iA σ 1 u = nI 32 := hb3_d
                  replace hb4_d : d < L → ¬ iA σ 1 d = nI 32 := hb4_d
                  obtain ⟨eb1_d, eb2_d, eb3_d⟩ := blk (f := iA σ 1) (r := (0, 0, 0, iA σ 15)) (q := gz) d hb1_d hb3_d
                  rw [qs_12, sN_sN, ← eb1_d, ← eb2_d]
                  have hpf_d := eb3_d hpf_c
                  have hrk_d := rdU_ok (f := iA σ 1) (r := (0, 0, 0, iA σ 15)) ⟨Nat.zero_le _, Nat.zero_le _, Nat.zero_le _⟩ d
                  rw [← eb1_d] at hph_c
                  rw [← eb1_d, ← eb2_d] at hop_c
                  have hr1_d := hrk_d.1
                  have hr2_d := hrk_d.2.1
                  refine g_aload_n (pc9 := 200) C rfl 4 dX11_reads_199 rfl rfl ?_
                  refine g_get (v := .int (nI (d))) (pc9 := 203) C rfl (0) 22 dX11_reads_200 (by decide) (ce_0 w (sN (sI (sI (sI (sI (sI σ (2) (upd (iA σ 2) 8 (nI ((gwU (iA σ 1) gz d).1)))) (3) (put47 ((gwU (iA σ 1) gz d).2.2.2.1) (iA σ 3) 8 ((gwU (iA σ 1) gz d).1))) (4) (put47 ((gwU (iA σ 1) gz d).2.2.2.2.1) (iA σ 4) 8 ((gwU (iA σ 1) gz d).1))) (14) (op)) (15) ((rdU (iA σ 1) (0, 0, 0, iA σ 15) d).2.2.2)) (0) 22 (nI (d)))) hin_11 hl_141 rfl (by decide) rfl (congrArg (fun z => some (Value.int z)) (nF_s)) ?_
                  refine g_iload_n (pc9 := 204) C rfl 5 dX11_reads_203 rfl rfl ?_
                  refine g_icmp_ne (pc9 := 207) C rfl 213 dX11_reads_204 rfl (fun c_13 => ?_) (fun c_13 => ?_)
                  · replace c_13 := (not_congr (nI_eq (by omega) (by omega))).mp c_13
                    have hdL : d < L := by omega
                    have h32_d := hb4_d hdL
                    refine g_aload_n (pc9 := 214) C rfl 4 dX11_reads_213 rfl rfl ?_
                    refine g_get (v := .ref (w.1 (1))) (pc9 := 217) C rfl (0) 1 dX11_reads_214 (by decide) (ce_0 w (sN (sI (sI (sI (sI (sI σ (2) (upd (iA σ 2) 8 (nI ((gwU (iA σ 1) gz d).1)))) (3) (put47 ((gwU (iA σ 1) gz d).2.2.2.1) (iA σ 3) 8 ((gwU (iA σ 1) gz d).1))) (4) (put47 ((gwU (iA σ 1) gz d).2.2.2.2.1) (iA σ 4) 8 ((gwU (iA σ 1) gz d).1))) (14) (op)) (15) ((rdU (iA σ 1) (0, 0, 0, iA σ 15) d).2.2.2)) (0) 22 (nI (d)))) hin_11 hl_9 rfl (by decide) rfl rfl ?_
                    refine g_aload_n (pc9 := 218) C rfl 4 dX11_reads_217 rfl rfl ?_
                    refine g_get (v := .int (nI (d))) (pc9 := 221) C rfl (0) 22 dX11_reads_218 (by decide) (ce_0 w (sN (sI (sI (sI (sI (sI σ (2) (upd (iA σ 2) 8 (nI ((gwU (iA σ 1) gz d).1)))) (3) (put47 ((gwU (iA σ 1) gz d).2.2.2.1) (iA σ 3) 8 ((gwU (iA σ 1) gz d).1))) (4) (put47 ((gwU (iA σ 1) gz d).2.2.2.2.1) (iA σ 4) 8 ((gwU (iA σ 1) gz d).1))) (14) (op)) (15) ((rdU (iA σ 1) (0, 0, 0, iA σ 15) d).2.2.2)) (0) 22 (nI (d)))) hin_11 hl_141 rfl (by decide) rfl (congrArg (fun z => some (Value.int z)) (nF_s)) ?_
                    refine g_bald (x := (iA σ (1)) (d)) (pc9 := 222) C rfl (1) (d) dX11_reads_221 (by decide) (ce_1 w (sN (sI (sI (sI (sI (sI σ (2) (upd (iA σ 2) 8 (nI ((gwU (iA σ 1) gz d).1)))) (3) (put47 ((gwU (iA σ 1) gz d).2.2.2.1) (iA σ 3) 8 ((gwU (iA σ 1) gz d).1))) (4) (put47 ((gwU (iA σ 1) gz d).2.2.2.2.1) (iA σ 4) 8 ((gwU (iA σ 1) gz d).1))) (14) (op)) (15) ((rdU (iA σ 1) (0, 0, 0, iA σ 15) d).2.2.2)) (0) 22 (nI (d)))) rfl (by omega) (by decide) (congrFun ((((((iA_N).trans (iA_n (by decide))).trans (iA_n (by decide))).trans (iA_n (by decide))).trans (iA_n (by decide))).trans (iA_n (by decide))) _) ?_
                    refine g_istore (pc9 := 224) C rfl [(5, .int ((iA σ (1)) (d))), (8, .int (nI (1))), (4, .int (nI (0))), (3, .int (nI ((rdU (iA σ 1) (0, 0, 0, iA σ 15) d).2.1))), (2, .int (nI ((rdU (iA σ 1) (0, 0, 0, iA σ 15) d).1))), (0, .ref (w.1 (0))), (1, .int (nI (L)))] dX11_reads_222 (by decide) rfl ?_
                    refine g_iload_n (pc9 := 225) C rfl 4 dX11_reads_224 rfl rfl ?_
                    refine g_if_ne (pc9 := 228) C rfl 260 dX11_reads_225 rfl (fun c_14 => ?_) (fun c_14 => ?_)
                    · replace c_14 := (not_congr (z_eq (by omega))).mp c_14
                      have ho_d : ¬ (rdU (iA σ 1) (0, 0, 0, iA σ 15) d).1 = 0 := by omega
                      refine g_iload (pc9 := 262) C rfl 0 dX11_reads_260 rfl ?_
                      refine g_bipush (pc9 := 264) C rfl (nI (44)) dX11_reads_262 rfl ?_
                      refine g_icmp_ne (pc9 := 267) C rfl 295 dX11_reads_264 rfl (fun c_15 => ?_) (fun c_15 => ?_)
                      · have h44 : ¬ iA σ 1 d = nI 44 := c_15
                        refine g_iload (pc9 := 297) C rfl 0 dX11_reads_295 rfl ?_
                        refine g_bipush (pc9 := 299) C rfl (nI (41)) dX11_reads_297 rfl ?_
                        refine g_icmp_ne (pc9 := 302) C rfl 329 dX11_reads_299 rfl (fun c_16 => ?_) (fun c_16 => ?_)
                        · have hb9 := rd_brx h32_d h44 c_16 hph_c ho_d
                          refine g_aload_n (pc9 := 330) C rfl 5 dX11_reads_329 rfl rfl ?_
                          refine g_iconst (pc9 := 331) C rfl (nI (1)) dX11_reads_330 rfl ?_
                          refine g_callVi (nn := 1) (rest := []) (pc9 := 334) C rfl (0) [.int (nI (1))] rfl dX11_reads_331 (m_X11_wrong l w (sN (sI (sI (sI (sI (sI σ (2) (upd (iA σ 2) 8 (nI ((gwU (iA σ 1) gz d).1)))) (3) (put47 ((gwU (iA σ 1) gz d).2.2.2.1) (iA σ 3) 8 ((gwU (iA σ 1) gz d).1))) (4) (put47 ((gwU (iA σ 1) gz d).2.2.2.2.1) (iA σ 4) 8 ((gwU (iA σ 1) gz d).1))) (14) (op)) (15) ((rdU (iA σ 1) (0, 0, 0, iA σ 15) d).2.2.2)) (0) 22 (nI (d))) 1) gX11_reads_X11_wrong (by decide) (ce_0 w (sN (sI (sI (sI (sI (sI σ (2) (upd (iA σ 2) 8 (nI ((gwU (iA σ 1) gz d).1)))) (3) (put47 ((gwU (iA σ 1) gz d).2.2.2.1) (iA σ 3) 8 ((gwU (iA σ 1) gz d).1))) (4) (put47 ((gwU (iA σ 1) gz d).2.2.2.2.1) (iA σ 4) 8 ((gwU (iA σ 1) gz d).1))) (14) (op)) (15) ((rdU (iA σ 1) (0, 0, 0, iA σ 15) d).2.2.2)) (0) 22 (nI (d)))) rfl rfl rfl rfl rfl (by decide +kernel) ⟨by decide, by decide⟩ rfl (Nat.le_of_ble_eq_true rfl) ⟨by decide, by decide⟩ (fun r_17 σ_17 q_17 => ?_)
                          obtain ⟨qs_17, qr_17⟩ := q_17
                          have hx9 := ex_bad (σ := σ) hpf_d hdL hb9 (by decide)
                          rw [qs_17, qr_17]
                          exact g_ireturn C hr hlk dX11_reads_334 (re_w hx9 (by decide))
                        · have h41 : iA σ 1 d = nI 41 := c_16
                          refine g_aload_n (pc9 := 303) C rfl 5 dX11_reads_302 rfl rfl ?_
                          refine g_get (v := .ref (w.1 (15))) (pc9 := 306) C rfl (0) 24 dX11_reads_303 (by decide) (ce_0 w (sN (sI (sI (sI (sI (sI σ (2) (upd (iA σ 2) 8 (nI ((gwU (iA σ 1) gz d).1)))) (3) (put47 ((gwU (iA σ 1) gz d).2.2.2.1) (iA σ 3) 8 ((gwU (iA σ 1) gz d).1))) (4) (put47 ((gwU (iA σ 1) gz d).2.2.2.2.1) (iA σ 4) 8 ((gwU (iA σ 1) gz d).1))) (14) (op)) (15) ((rdU (iA σ 1) (0, 0, 0, iA σ 15) d).2.2.2)) (0) 22 (nI (d)))) hin_11 hl_60 rfl (by decide) rfl rfl ?_
                          refine g_iload_n (pc9 := 307) C rfl 4 dX11_reads_306 rfl rfl ?_
                          refine g_iconst (pc9 := 308) C rfl (nI (1)) dX11_reads_307 rfl ?_
                          refine g_isubN (pc9 := 309) C rfl dX11_reads_308 (by omega) ?_
                          refine g_iald (x := ((rdU (iA σ 1) (0, 0, 0, iA σ 15) d).2.2.2) (((rdU (iA σ 1) (0, 0, 0, iA σ 15) d).1) - (1))) (pc9 := 310) C rfl (15) (((rdU (iA σ 1) (0, 0, 0, iA σ 15) d).1) - (1)) dX11_reads_309 (by decide) (ce_15 w (sN (sI (sI (sI (sI (sI σ (2) (upd (iA σ 2) 8 (nI ((gwU (iA σ 1) gz d).1)))) (3) (put47 ((gwU (iA σ 1) gz d).2.2.2.1) (iA σ 3) 8 ((gwU (iA σ 1) gz d).1))) (4) (put47 ((gwU (iA σ 1) gz d).2.2.2.2.1) (iA σ 4) 8 ((gwU (iA σ 1) gz d).1))) (14) (op)) (15) ((rdU (iA σ 1) (0, 0, 0, iA σ 15) d).2.2.2)) (0) 22 (nI (d)))) rfl (by omega) (by decide) (congrFun ((iA_N).trans (iA_s)) _) ?_
                          refine g_if_le (pc9 := 313) C rfl 329 dX11_reads_310 rfl (fun c_18 => ?_) (fun c_18 => ?_)
                          · have hb9 := rd_41x h41 hph_c ho_d c_18
                            refine g_aload_n (pc9 := 330) C rfl 5 dX11_reads_329 rfl rfl ?_
                            refine g_iconst (pc9 := 331) C rfl (nI (1)) dX11_reads_330 rfl ?_
                            refine g_callVi (nn := 1) (rest := []) (pc9 := 334) C rfl (0) [.int (nI (1))] rfl dX11_reads_331 (m_X11_wrong l w (sN (sI (sI (sI (sI (sI σ (2) (upd (iA σ 2) 8 (nI ((gwU (iA σ 1) gz d).1)))) (3) (put47 ((gwU (iA σ 1) gz d).2.2.2.1) (iA σ 3) 8 ((gwU (iA σ 1) gz d).1))) (4) (put47 ((gwU (iA σ 1) gz d).2.2.2.2.1) (iA σ 4) 8 ((gwU (iA σ 1) gz d).1))) (14) (op)) (15) ((rdU (iA σ 1) (0, 0, 0, iA σ 15) d).2.2.2)) (0) 22 (nI (d))) 1) gX11_reads_X11_wrong (by decide) (ce_0 w (sN (sI (sI (sI (sI (sI σ (2) (upd (iA σ 2) 8 (nI ((gwU (iA σ 1) gz d).1)))) (3) (put47 ((gwU (iA σ 1) gz d).2.2.2.1) (iA σ 3) 8 ((gwU (iA σ 1) gz d).1))) (4) (put47 ((gwU (iA σ 1) gz d).2.2.2.2.1) (iA σ 4) 8 ((gwU (iA σ 1) gz d).1))) (14) (op)) (15) ((rdU (iA σ 1) (0, 0, 0, iA σ 15) d).2.2.2)) (0) 22 (nI (d)))) rfl rfl rfl rfl rfl (by decide +kernel) ⟨by decide, by decide⟩ rfl (Nat.le_of_ble_eq_true rfl) ⟨by decide, by decide⟩ (fun r_19 σ_19 q_19 => ?_)
                            obtain ⟨qs_19, qr_19⟩ := q_19
                            have hx9 := ex_bad (σ := σ) hpf_d hdL hb9 (by decide)
                            rw [qs_19, qr_19]
                            exact g_ireturn C hr hlk dX11_reads_334 (re_w hx9 (by decide))
                          · have hcm : ¬ (rdU (iA σ 1) (0, 0, 0, iA σ 15) d).2.2.2 ((rdU (iA σ 1) (0, 0, 0, iA σ 15) d).1 - 1) ≤ 0 := c_18
                            refine g_iinc (pc9 := 316) C rfl [(2, .int (nI ((rdU (iA σ 1) (0, 0, 0, iA σ 15) d).1 - 1))), (5, .int ((iA σ (1)) (d))), (8, .int (nI (1))), (4, .int (nI (0))), (3, .int (nI ((rdU (iA σ 1) (0, 0, 0, iA σ 15) d).2.1))), (0, .ref (w.1 (0))), (1, .int (nI (L)))] 4 (nI ((rdU (iA σ 1) (0, 0, 0, iA σ 15) d).1 - 1)) dX11_reads_313 rfl (sb_m1 (by omega)) (by decide) rfl ?_
                            refine g_aload_n (pc9 := 317) C rfl 5 dX11_reads_316 rfl rfl ?_
                            refine g_dup (pc9 := 318) C rfl dX11_reads_317 rfl ?_
                            refine g_get (v := .int (nI (d))) (pc9 := 321) C rfl (0) 22 dX11_reads_318 (by decide) (ce_0 w (sN (sI (sI (sI (sI (sI σ (2) (upd (iA σ 2) 8 (nI ((gwU (iA σ 1) gz d).1)))) (3) (put47 ((gwU (iA σ 1) gz d).2.2.2.1) (iA σ 3) 8 ((gwU (iA σ 1) gz d).1))) (4) (put47 ((gwU (iA σ 1) gz d).2.2.2.2.1) (iA σ 4) 8 ((gwU (iA σ 1) gz d).1))) (14) (op)) (15) ((rdU (iA σ 1) (0, 0, 0, iA σ 15) d).2.2.2)) (0) 22 (nI (d)))) hin_11 hl_141 rfl (by decide) rfl (congrArg (fun z => some (Value.int z)) (nF_s)) ?_
                            refine g_iconst (pc9 := 322) C rfl (nI (1)) dX11_reads_321 rfl ?_
                            refine g_iaddN (pc9 := 323) C rfl dX11_reads_322 ?_
                            refine g_put (pc9 := 326) C rfl (0) 22 dX11_reads_323 (by decide) (ce_0 w (sN (sI (sI (sI (sI (sI σ (2) (upd (iA σ 2) 8 (nI ((gwU (iA σ 1) gz d).1)))) (3) (put47 ((gwU (iA σ 1) gz d).2.2.2.1) (iA σ 3) 8 ((gwU (iA σ 1) gz d).1))) (4) (put47 ((gwU (iA σ 1) gz d).2.2.2.2.1) (iA σ 4) 8 ((gwU (iA σ 1) gz d).1))) (14) (op)) (15) ((rdU (iA σ 1) (0, 0, 0, iA σ 15) d).2.2.2)) (0) 22 (nI (d)))) (rfl) hin_11 hl_141 tyX11 tyX11_ok nmX11 rfl (by decide) rfl rfl rfl (Nat.le_of_ble_eq_true rfl) ?_
                            rw [sN_sN]
                            refine g_goto C 189 dX11_reads_326 rfl ?_
                            refine g_sub [2, 3, 4, 0, 5, 6] [(8, .int (nI (1))), (4, .int (nI (0))), (3, .int (nI ((rdU (iA σ 1) (0, 0, 0, iA σ 15) d).2.1))), (2, .int (nI ((rdU (iA σ 1) (0, 0, 0, iA σ 15) d).1 - 1))), (0, .ref (w.1 (0))), (1, .int (nI (L)))] rfl ?_
                            have e1 : rdU (iA σ 1) (0, 0, 0, iA σ 15) (d + 1) = ((rdU (iA σ 1) (0, 0, 0, iA σ 15) d).1 - 1, (rdU (iA σ 1) (0, 0, 0, iA σ 15) d).2.1, (rdU (iA σ 1) (0, 0, 0, iA σ 15) d).2.2.1, (rdU (iA σ 1) (0, 0, 0, iA σ 15) d).2.2.2) := congrArg Prod.snd (rd_41 h41 hph_c ho_d hcm)
                            have e2 : gwU (iA σ 1) gz (d + 1) = ((gwU (iA σ 1) gz d).1, (gwU (iA σ 1) gz d).2.2.2.1 (gwU (iA σ 1) gz d).2.1.toNatClampNeg, (gwU (iA σ 1) gz d).2.2) := gw_41 h41
                            have hih := ih2 (d + 1) ⟨by omega, by omega, pfx_s hpf_d (by rw [rd_41 h41 hph_c ho_d hcm]; rfl), by rw [e1]; exact hph_c, OPk_close hop_c h41 hph_c ho_d hcm⟩ (by omega)
                            rw [e1, e2] at hih
                            exact hih
                      · have h44 : iA σ 1 d = nI 44 := c_15
                        refine g_aload_n (pc9 := 268) C rfl 5 dX11_reads_267 rfl rfl ?_
                        refine g_get (v := .ref (w.1 (15))) (pc9 := 271) C rfl (0) 24 dX11_reads_268 (by decide) (ce_0 w (sN (sI (sI (sI (sI (sI σ (2) (upd (iA σ 2) 8 (nI ((gwU (iA σ 1) gz d).1)))) (3) (put47 ((gwU (iA σ 1) gz d).2.2.2.1) (iA σ 3) 8 ((gwU (iA σ 1) gz d).1))) (4) (put47 ((gwU (iA σ 1) gz d).2.2.2.2.1) (iA σ 4) 8 ((gwU (iA σ 1) gz d).1))) (14) (op)) (15) ((rdU (iA σ 1) (0, 0, 0, iA σ 15) d).2.2.2)) (0) 22 (nI (d)))) hin_11 hl_60 rfl (by decide) rfl rfl ?_
                        refine g_iload_n (pc9 := 272) C rfl 4 dX11_reads_271 rfl rfl ?_
                        refine g_iconst (pc9 := 273) C rfl (nI (1)) dX11_reads_272 rfl ?_
                        refine g_isubN (pc9 := 274) C rfl dX11_reads_273 (by omega) ?_
                        refine g_dup2 (pc9 := 275) C rfl dX11_reads_274 rfl rfl ?_
                        refine g_iald (x := ((rdU (iA σ 1) (0, 0, 0, iA σ 15) d).2.2.2) (((rdU (iA σ 1) (0, 0, 0, iA σ 15) d).1) - (1))) (pc9 := 276) C rfl (15) (((rdU (iA σ 1) (0, 0, 0, iA σ 15) d).1) - (1)) dX11_reads_275 (by decide) (ce_15 w (sN (sI (sI (sI (sI (sI σ (2) (upd (iA σ 2) 8 (nI ((gwU (iA σ 1) gz d).1)))) (3) (put47 ((gwU (iA σ 1) gz d).2.2.2.1) (iA σ 3) 8 ((gwU (iA σ 1) gz d).1))) (4) (put47 ((gwU (iA σ 1) gz d).2.2.2.2.1) (iA σ 4) 8 ((gwU (iA σ 1) gz d).1))) (14) (op)) (15) ((rdU (iA σ 1) (0, 0, 0, iA σ 15) d).2.2.2)) (0) 22 (nI (d)))) rfl (by omega) (by decide) (congrFun ((iA_N).trans (iA_s)) _) ?_
                        refine g_iconst (pc9 := 277) C rfl (nI (1)) dX11_reads_276 rfl ?_
                        refine g_iadd (pc9 := 278) C rfl dX11_reads_277 ?_
                        refine g_iast (pc9 := 279) C rfl (15) (((rdU (iA σ 1) (0, 0, 0, iA σ 15) d).1) - (1)) ((rdU (iA σ 1) (0, 0, 0, iA σ 15) d).2.2.2) dX11_reads_278 (by decide) (fun _ => rfl) (ce_15 w (sN (sI (sI (sI (sI (sI σ (2) (upd (iA σ 2) 8 (nI ((gwU (iA σ 1) gz d).1)))) (3) (put47 ((gwU (iA σ 1) gz d).2.2.2.1) (iA σ 3) 8 ((gwU (iA σ 1) gz d).1))) (4) (put47 ((gwU (iA σ 1) gz d).2.2.2.2.1) (iA σ 4) 8 ((gwU (iA σ 1) gz d).1))) (14) (op)) (15) ((rdU (iA σ 1) (0, 0, 0, iA σ 15) d).2.2.2)) (0) 22 (nI (d)))) rfl (by omega) (by decide) ((iA_N).trans (iA_s)) ?_
                        rw [sI_sN (a := 0) (k := 22) (b := 15), sI_sI (a := 15)]
                        refine g_aload_n (pc9 := 280) C rfl 5 dX11_reads_279 rfl rfl ?_
                        refine g_dup (pc9 := 281) C rfl dX11_reads_280 rfl ?_
                        refine g_get (v := .int (nI (d))) (pc9 := 284) C rfl (0) 22 dX11_reads_281 (by decide) (ce_0 w (sN (sI (sI (sI (sI (sI σ (2) (upd (iA σ 2) 8 (nI ((gwU (iA σ 1) gz d).1)))) (3) (put47 ((gwU (iA σ 1) gz d).2.2.2.1) (iA σ 3) 8 ((gwU (iA σ 1) gz d).1))) (4) (put47 ((gwU (iA σ 1) gz d).2.2.2.2.1) (iA σ 4) 8 ((gwU (iA σ 1) gz d).1))) (14) (op)) (15) (upd ((rdU (iA σ 1) (0, 0, 0, iA σ 15) d).2.2.2) (((rdU (iA σ 1) (0, 0, 0, iA σ 15) d).1) - (1)) ((((rdU (iA σ 1) (0, 0, 0, iA σ 15) d).2.2.2) (((rdU (iA σ 1) (0, 0, 0, iA σ 15) d).1) - (1))) + (nI (1))))) (0) 22 (nI (d)))) hin_11 hl_141 rfl (by decide) rfl (congrArg (fun z => some (Value.int z)) (nF_s)) ?_
                        refine g_iconst (pc9 := 285) C rfl (nI (1)) dX11_reads_284 rfl ?_
                        refine g_iaddN (pc9 := 286) C rfl dX11_reads_285 ?_
                        refine g_put (pc9 := 289) C rfl (0) 22 dX11_reads_286 (by decide) (ce_0 w (sN (sI (sI (sI (sI (sI σ (2) (upd (iA σ 2) 8 (nI ((gwU (iA σ 1) gz d).1)))) (3) (put47 ((gwU (iA σ 1) gz d).2.2.2.1) (iA σ 3) 8 ((gwU (iA σ 1) gz d).1))) (4) (put47 ((gwU (iA σ 1) gz d).2.2.2.2.1) (iA σ 4) 8 ((gwU (iA σ 1) gz d).1))) (14) (op)) (15) (upd ((rdU (iA σ 1) (0, 0, 0, iA σ 15) d).2.2.2) (((rdU (iA σ 1) (0, 0, 0, iA σ 15) d).1) - (1)) ((((rdU (iA σ 1) (0, 0, 0, iA σ 15) d).2.2.2) (((rdU (iA σ 1) (0, 0, 0, iA σ 15) d).1) - (1))) + (nI (1))))) (0) 22 (nI (d)))) (rfl) hin_11 hl_141 tyX11 tyX11_ok nmX11 rfl (by decide) rfl rfl rfl (Nat.le_of_ble_eq_true rfl) ?_
                        rw [sN_sN]
                        refine g_iconst (pc9 := 290) C rfl (nI (0)) dX11_reads_289 rfl ?_
                        refine g_istore (pc9 := 292) C rfl [(8, .int (nI (0))), (5, .int ((iA σ (1)) (d))), (4, .int (nI (0))), (3, .int (nI ((rdU (iA σ 1) (0, 0, 0, iA σ 15) d).2.1))), (2, .int (nI ((rdU (iA σ 1) (0, 0, 0, iA σ 15) d).1))), (0, .ref (w.1 (0))), (1, .int (nI (L)))] dX11_reads_290 (by decide) rfl ?_
                        refine g_goto C 189 dX11_reads_292 rfl ?_
                        refine g_iload (pc9 := 191) C rfl 0 dX11_reads_189 rfl ?_
                        refine g_if_eq (pc9 := 194) C rfl 335 dX11_reads_191 rfl (fun c_20 => ?_) (fun c_20 => ?_)
                        · refine g_goto C 20 dX11_reads_335 rfl ?_
                          refine g_sub [2, 3, 4, 5, 6] [(4, .int (nI (0))), (3, .int (nI ((rdU (iA σ 1) (0, 0, 0, iA σ 15) d).2.1))), (2, .int (nI ((rdU (iA σ 1) (0, 0, 0, iA σ 15) d).1))), (0, .ref (w.1 (0))), (1, .int (nI (L)))] rfl ?_
                          have e1 : rdU (iA σ 1) (0, 0, 0, iA σ 15) (d + 1) = ((rdU (iA σ 1) (0, 0, 0, iA σ 15) d).1, (rdU (iA σ 1) (0, 0, 0, iA σ 15) d).2.1, 0, upd (rdU (iA σ 1) (0, 0, 0, iA σ 15) d).2.2.2 ((rdU (iA σ 1) (0, 0, 0, iA σ 15) d).1 - 1) ((rdU (iA σ 1) (0, 0, 0, iA σ 15) d).2.2.2 ((rdU (iA σ 1) (0, 0, 0, iA σ 15) d).1 - 1) + nI 1)) := congrArg Prod.snd (rd_44 h44 hph_c ho_d)
                          have e2 : gwU (iA σ 1) gz (d + 1) = (gwU (iA σ 1) gz d) := gw_skip (by rw [h44]; decide) (by rw [h44]; decide) (by rw [h44]; decide)
                          have hih := ih (d + 1) op ⟨by omega, pfx_s hpf_d (by rw [rd_44 h44 hph_c ho_d]; rfl), by rw [e1], by rw [e1, e2]; exact hop_c⟩ (by omega)
                          rw [e1, e2] at hih
                          exact hih
                        · exact absurd c_20 (by decide)
                    · replace c_14 := (z_eq (by omega)).mp c_14
                      have ho_d : (rdU (iA σ 1) (0, 0, 0, iA σ 15) d).1 = 0 := by omega
                      refine g_iload (pc9 := 230) C rfl 0 dX11_reads_228 rfl ?_
                      refine g_bipush (pc9 := 232) C rfl (nI (59)) dX11_reads_230 rfl ?_
                      refine g_icmp_eq (pc9 := 235) C rfl 241 dX11_reads_232 rfl (fun c_21 => ?_) (fun c_21 => ?_)
                      · have h59 : iA σ 1 d = nI 59 := c_21
                        refine g_aload_n (pc9 := 242) C rfl 5 dX11_reads_241 rfl rfl ?_
                        refine g_dup (pc9 := 243) C rfl dX11_reads_242 rfl ?_
                        refine g_get (v := .int (nI (d))) (pc9 := 246) C rfl (0) 22 dX11_reads_243 (by decide) (ce_0 w (sN (sI (sI (sI (sI (sI σ (2) (upd (iA σ 2) 8 (nI ((gwU (iA σ 1) gz d).1)))) (3) (put47 ((gwU (iA σ 1) gz d).2.2.2.1) (iA σ 3) 8 ((gwU (iA σ 1) gz d).1))) (4) (put47 ((gwU (iA σ 1) gz d).2.2.2.2.1) (iA σ 4) 8 ((gwU (iA σ 1) gz d).1))) (14) (op)) (15) ((rdU (iA σ 1) (0, 0, 0, iA σ 15) d).2.2.2)) (0) 22 (nI (d)))) hin_11 hl_141 rfl (by decide) rfl (congrArg (fun z => some (Value.int z)) (nF_s)) ?_
                        refine g_iconst (pc9 := 247) C rfl (nI (1)) dX11_reads_246 rfl ?_
                        refine g_iaddN (pc9 := 248) C rfl dX11_reads_247 ?_
                        refine g_put (pc9 := 251) C rfl (0) 22 dX11_reads_248 (by decide) (ce_0 w (sN (sI (sI (sI (sI (sI σ (2) (upd (iA σ 2) 8 (nI ((gwU (iA σ 1) gz d).1)))) (3) (put47 ((gwU (iA σ 1) gz d).2.2.2.1) (iA σ 3) 8 ((gwU (iA σ 1) gz d).1))) (4) (put47 ((gwU (iA σ 1) gz d).2.2.2.2.1) (iA σ 4) 8 ((gwU (iA σ 1) gz d).1))) (14) (op)) (15) ((rdU (iA σ 1) (0, 0, 0, iA σ 15) d).2.2.2)) (0) 22 (nI (d)))) (rfl) hin_11 hl_141 tyX11 tyX11_ok nmX11 rfl (by decide) rfl rfl rfl (Nat.le_of_ble_eq_true rfl) ?_
                        rw [sN_sN]
                        refine g_iconst (pc9 := 252) C rfl (nI (1)) dX11_reads_251 rfl ?_
                        refine g_istore (pc9 := 254) C rfl [(4, .int (nI (1))), (5, .int ((iA σ (1)) (d))), (8, .int (nI (1))), (3, .int (nI ((rdU (iA σ 1) (0, 0, 0, iA σ 15) d).2.1))), (2, .int (nI ((rdU (iA σ 1) (0, 0, 0, iA σ 15) d).1))), (0, .ref (w.1 (0))), (1, .int (nI (L)))] dX11_reads_252 (by decide) rfl ?_
                        refine g_iconst (pc9 := 255) C rfl (nI (0)) dX11_reads_254 rfl ?_
                        refine g_istore (pc9 := 257) C rfl [(8, .int (nI (0))), (4, .int (nI (1))), (5, .int ((iA σ (1)) (d))), (3, .int (nI ((rdU (iA σ 1) (0, 0, 0, iA σ 15) d).2.1))), (2, .int (nI ((rdU (iA σ 1) (0, 0, 0, iA σ 15) d).1))), (0, .ref (w.1 (0))), (1, .int (nI (L)))] dX11_reads_255 (by decide) rfl ?_
                        refine g_goto C 189 dX11_reads_257 rfl ?_
                        refine g_iload (pc9 := 191) C rfl 0 dX11_reads_189 rfl ?_
                        refine g_if_eq (pc9 := 194) C rfl 335 dX11_reads_191 rfl (fun c_22 => ?_) (fun c_22 => ?_)
                        · refine g_goto C 20 dX11_reads_335 rfl ?_
                          refine g_iload (pc9 := 22) C rfl 1 dX11_reads_20 rfl ?_
                          refine g_if_ne (pc9 := 25) C rfl 338 dX11_reads_22 rfl (fun c_23 => ?_) (fun c_23 => ?_)
                          · refine g_sub [1, 3, 4, 5, 6] [(4, .int (nI (1))), (3, .int (nI ((rdU (iA σ 1) (0, 0, 0, iA σ 15) d).2.1))), (2, .int (nI ((rdU (iA σ 1) (0, 0, 0, iA σ 15) d).1))), (0, .ref (w.1 (0))), (1, .int (nI (L)))] rfl ?_
                            have e1 : rdU (iA σ 1) (0, 0, 0, iA σ 15) (d + 1) = ((rdU (iA σ 1) (0, 0, 0, iA σ 15) d).1, (rdU (iA σ 1) (0, 0, 0, iA σ 15) d).2.1, 2, (rdU (iA σ 1) (0, 0, 0, iA σ 15) d).2.2.2) := congrArg Prod.snd (rd_59 h59 hph_c ho_d)
                            have e2 : gwU (iA σ 1) gz (d + 1) = (gwU (iA σ 1) gz d) := gw_skip (by rw [h59]; decide) (by rw [h59]; decide) (by rw [h59]; decide)
                            have hpf_f := pfx_s hpf_d (by rw [rd_59 h59 hph_c ho_d]; rfl)
                            have hph_f : (rdU (iA σ 1) (0, 0, 0, iA σ 15) (d + 1)).2.2.1 = 2 := by rw [e1]
                            suffices hgo : G p l e _ s m args below meth c _ w A _ (sN (sI (sI (sI (sI (sI σ (2) (upd (iA σ 2) 8 (nI ((gwU (iA σ 1) gz (d + 1)).1)))) (3) (put47 ((gwU (iA σ 1) gz (d + 1)).2.2.2.1) (iA σ 3) 8 ((gwU (iA σ 1) gz (d + 1)).1))) (4) (put47 ((gwU (iA σ 1) gz (d + 1)).2.2.2.2.1) (iA σ 4) 8 ((gwU (iA σ 1) gz (d + 1)).1))) (14) (op)) (15) ((rdU (iA σ 1) (0, 0, 0, iA σ 15) (d + 1)).2.2.2)) (0) 22 (nI ((d + 1)))) 0 0 338 [(4, .int (nI (1))), (3, .int (nI ((rdU (iA σ 1) (0, 0, 0, iA σ 15) (d + 1)).2.1))), (2, .int (nI ((rdU (iA σ 1) (0, 0, 0, iA σ 15) (d + 1)).1))), (0, .ref (w.1 (0))), (1, .int (nI (L)))] [] from by
                              rw [e1, e2] at hgo
                              exact hgo
                            refine g_aload_n (pc9 := 339) C rfl 3 dX11_reads_338 rfl rfl ?_
                            refine g_iload_n (pc9 := 340) C rfl 4 dX11_reads_339 rfl rfl ?_
                            refine g_callVv (nn := 1) (rest := []) (pc9 := 343) C rfl (0) [.int (nI (L))] rfl dX11_reads_340 (m_X11_blanks l w (sN (sI (sI (sI (sI (sI σ (2) (upd (iA σ 2) 8 (nI ((gwU (iA σ 1) gz (d + 1)).1)))) (3) (put47 ((gwU (iA σ 1) gz (d + 1)).2.2.2.1) (iA σ 3) 8 ((gwU (iA σ 1) gz (d + 1)).1))) (4) (put47 ((gwU (iA σ 1) gz (d + 1)).2.2.2.2.1) (iA σ 4) 8 ((gwU (iA σ 1) gz (d + 1)).1))) (14) (op)) (15) ((rdU (iA σ 1) (0, 0, 0, iA σ 15) (d + 1)).2.2.2)) (0) 22 (nI ((d + 1)))) (d + 1) L ((nF_s)) (by omega) hL4) gX11_reads_X11_blanks (by decide) (ce_0 w (sN (sI (sI (sI (sI (sI σ (2) (upd (iA σ 2) 8 (nI ((gwU (iA σ 1) gz (d + 1)).1)))) (3) (put47 ((gwU (iA σ 1) gz (d + 1)).2.2.2.1) (iA σ 3) 8 ((gwU (iA σ 1) gz (d + 1)).1))) (4) (put47 ((gwU (iA σ 1) gz (d + 1)).2.2.2.2.1) (iA σ 4) 8 ((gwU (iA σ 1) gz (d + 1)).1))) (14) (op)) (15) ((rdU (iA σ 1) (0, 0, 0, iA σ 15) (d + 1)).2.2.2)) (0) 22 (nI ((d + 1))))) rfl rfl rfl rfl rfl (by decide +kernel) ⟨by decide, by decide⟩ rfl (Nat.le_of_ble_eq_true rfl) ⟨by decide, by decide⟩ (fun σ_24 q_24 => ?_)
                            obtain ⟨g, hb1_g, hb2_g, hb3_g, hb4_g, qs_24⟩ := q_24
                            replace hb3_g : ∀ u, (d + 1) ≤ u → u < g → iA σ 1 u = nI 32 := hb3_g
                            replace hb4_g : g < L → ¬ iA σ 1 g = nI 32 := hb4_g
                            obtain ⟨eb1_g, eb2_g, eb3_g⟩ := blk (f := iA σ 1) (r := (0, 0, 0, iA σ 15)) (q := gz) g hb1_g hb3_g
                            rw [qs_24, sN_sN, ← eb1_g, ← eb2_g]
                            have hpf_g := eb3_g hpf_f
                            rw [← eb1_g] at hph_f
                            refine g_aload_n (pc9 := 344) C rfl 3 dX11_reads_343 rfl rfl ?_
                            refine g_get (v := .int (nI (g))) (pc9 := 347) C rfl (0) 22 dX11_reads_344 (by decide) (ce_0 w (sN (sI (sI (sI (sI (sI σ (2) (upd (iA σ 2) 8 (nI ((gwU (iA σ 1) gz g).1)))) (3) (put47 ((gwU (iA σ 1) gz g).2.2.2.1) (iA σ 3) 8 ((gwU (iA σ 1) gz g).1))) (4) (put47 ((gwU (iA σ 1) gz g).2.2.2.2.1) (iA σ 4) 8 ((gwU (iA σ 1) gz g).1))) (14) (op)) (15) ((rdU (iA σ 1) (0, 0, 0, iA σ 15) g).2.2.2)) (0) 22 (nI (g)))) hin_11 hl_141 rfl (by decide) rfl (congrArg (fun z => some (Value.int z)) (nF_s)) ?_
                            refine g_iload_n (pc9 := 348) C rfl 4 dX11_reads_347 rfl rfl ?_
                            refine g_icmp_ge (pc9 := 351) C rfl 359 dX11_reads_348 rfl (fun c_25 => ?_) (fun c_25 => ?_)
                            · replace c_25 := (nI_leI (by omega) (by omega)).mp c_25
                              have hgL : g = L := by omega
                              refine g_iload_n (pc9 := 360) C rfl 1 dX11_reads_359 rfl rfl ?_
                              exact g_ireturn C hr hlk dX11_reads_360 (by subst hgL; exact Or.inl ⟨ex_good hpf_g hph_f, rfl, _, _, _, rfl⟩)
                            · replace c_25 := (not_congr (nI_leI (by omega) (by omega))).mp c_25
                              have hgL : g < L := by omega
                              have h32_g := hb4_g hgL
                              refine g_aload_n (pc9 := 352) C rfl 3 dX11_reads_351 rfl rfl ?_
                              refine g_iconst (pc9 := 353) C rfl (nI (1)) dX11_reads_352 rfl ?_
                              refine g_callVi (nn := 1) (rest := []) (pc9 := 356) C rfl (0) [.int (nI (1))] rfl dX11_reads_353 (m_X11_wrong l w (sN (sI (sI (sI (sI (sI σ (2) (upd (iA σ 2) 8 (nI ((gwU (iA σ 1) gz g).1)))) (3) (put47 ((gwU (iA σ 1) gz g).2.2.2.1) (iA σ 3) 8 ((gwU (iA σ 1) gz g).1))) (4) (put47 ((gwU (iA σ 1) gz g).2.2.2.2.1) (iA σ 4) 8 ((gwU (iA σ 1) gz g).1))) (14) (op)) (15) ((rdU (iA σ 1) (0, 0, 0, iA σ 15) g).2.2.2)) (0) 22 (nI (g))) 1) gX11_reads_X11_wrong (by decide) (ce_0 w (sN (sI (sI (sI (sI (sI σ (2) (upd (iA σ 2) 8 (nI ((gwU (iA σ 1) gz g).1)))) (3) (put47 ((gwU (iA σ 1) gz g).2.2.2.1) (iA σ 3) 8 ((gwU (iA σ 1) gz g).1))) (4) (put47 ((gwU (iA σ 1) gz g).2.2.2.2.1) (iA σ 4) 8 ((gwU (iA σ 1) gz g).1))) (14) (op)) (15) ((rdU (iA σ 1) (0, 0, 0, iA σ 15) g).2.2.2)) (0) 22 (nI (g)))) rfl rfl rfl rfl rfl (by decide +kernel) ⟨by decide, by decide⟩ rfl (Nat.le_of_ble_eq_true rfl) ⟨by decide, by decide⟩ (fun r_26 σ_26 q_26 => ?_)
                              obtain ⟨qs_26, qr_26⟩ := q_26
                              have hx9 := ex_bad (σ := σ) hpf_g hgL (rd_2x h32_g hph_f) (by decide)
                              rw [qs_26, qr_26]
                              refine g_goto C 360 dX11_reads_356 rfl ?_
                              exact g_ireturn C hr hlk dX11_reads_360 (re_w hx9 (by decide))
                          · exact absurd c_23 (by decide)
                        · exact absurd c_22 (by decide)
                      · have h59 : ¬ iA σ 1 d = nI 59 := c_21
                        refine g_aload_n (pc9 := 236) C rfl 5 dX11_reads_235 rfl rfl ?_
                        refine g_iconst (pc9 := 237) C rfl (nI (1)) dX11_reads_236 rfl ?_
                        refine g_callVi (nn := 1) (rest := []) (pc9 := 240) C rfl (0) [.int (nI (1))] rfl dX11_reads_237 (m_X11_wrong l w (sN (sI (sI (sI (sI (sI σ (2) (upd (iA σ 2) 8 (nI ((gwU (iA σ 1) gz d).1)))) (3) (put47 ((gwU (iA σ 1) gz d).2.2.2.1) (iA σ 3) 8 ((gwU (iA σ 1) gz d).1))) (4) (put47 ((gwU (iA σ 1) gz d).2.2.2.2.1) (iA σ 4) 8 ((gwU (iA σ 1) gz d).1))) (14) (op)) (15) ((rdU (iA σ 1) (0, 0, 0, iA σ 15) d).2.2.2)) (0) 22 (nI (d))) 1) gX11_reads_X11_wrong (by decide) (ce_0 w (sN (sI (sI (sI (sI (sI σ (2) (upd (iA σ 2) 8 (nI ((gwU (iA σ 1) gz d).1)))) (3) (put47 ((gwU (iA σ 1) gz d).2.2.2.1) (iA σ 3) 8 ((gwU (iA σ 1) gz d).1))) (4) (put47 ((gwU (iA σ 1) gz d).2.2.2.2.1) (iA σ 4) 8 ((gwU (iA σ 1) gz d).1))) (14) (op)) (15) ((rdU (iA σ 1) (0, 0, 0, iA σ 15) d).2.2.2)) (0) 22 (nI (d)))) rfl rfl rfl rfl rfl (by decide +kernel) ⟨by decide, by decide⟩ rfl (Nat.le_of_ble_eq_true rfl) ⟨by decide, by decide⟩ (fun r_27 σ_27 q_27 => ?_)
                        obtain ⟨qs_27, qr_27⟩ := q_27
                        have hx9 := ex_bad (σ := σ) hpf_d hdL (rd_59x h32_d h59 hph_c ho_d) (by decide)
                        rw [qs_27, qr_27]
                        exact g_ireturn C hr hlk dX11_reads_240 (re_w hx9 (by decide))
                  · replace c_13 := (nI_eq (by omega) (by omega)).mp c_13
                    have hdL : d = L := by omega
                    refine g_aload_n (pc9 := 208) C rfl 4 dX11_reads_207 rfl rfl ?_
                    refine g_iconst (pc9 := 209) C rfl (nI (1)) dX11_reads_208 rfl ?_
                    refine g_callVi (nn := 1) (rest := []) (pc9 := 212) C rfl (0) [.int (nI (1))] rfl dX11_reads_209 (m_X11_wrong l w (sN (sI (sI (sI (sI (sI σ (2) (upd (iA σ 2) 8 (nI ((gwU (iA σ 1) gz d).1)))) (3) (put47 ((gwU (iA σ 1) gz d).2.2.2.1) (iA σ 3) 8 ((gwU (iA σ 1) gz d).1))) (4) (put47 ((gwU (iA σ 1) gz d).2.2.2.2.1) (iA σ 4) 8 ((gwU (iA σ 1) gz d).1))) (14) (op)) (15) ((rdU (iA σ 1) (0, 0, 0, iA σ 15) d).2.2.2)) (0) 22 (nI (d))) 1) gX11_reads_X11_wrong (by decide) (ce_0 w (sN (sI (sI (sI (sI (sI σ (2) (upd (iA σ 2) 8 (nI ((gwU (iA σ 1) gz d).1)))) (3) (put47 ((gwU (iA σ 1) gz d).2.2.2.1) (iA σ 3) 8 ((gwU (iA σ 1) gz d).1))) (4) (put47 ((gwU (iA σ 1) gz d).2.2.2.2.1) (iA σ 4) 8 ((gwU (iA σ 1) gz d).1))) (14) (op)) (15) ((rdU (iA σ 1) (0, 0, 0, iA σ 15) d).2.2.2)) (0) 22 (nI (d)))) rfl rfl rfl rfl rfl (by decide +kernel) ⟨by decide, by decide⟩ rfl (Nat.le_of_ble_eq_true rfl) ⟨by decide, by decide⟩ (fun r_28 σ_28 q_28 => ?_)
                    obtain ⟨qs_28, qr_28⟩ := q_28
                    have hx9 := (fun (q9 : (mX σ L).1 = nI 1 ∧ (mX σ L).2.1 = nI L) => (⟨q9.1, q9.2.trans (congrArg nI hdL.symm)⟩ : (mX σ L).1 = nI 1 ∧ (mX σ L).2.1 = nI d)) (ex_end (σ := σ) (L := L) (r := (rdU (iA σ 1) (0, 0, 0, iA σ 15) d)) (by rw [← hdL]; exact hpf_d) (by rw [hdL]) (by rw [hph_c]; decide))
                    rw [qs_28, qr_28]
                    exact g_ireturn C hr hlk dX11_reads_212 (re_w hx9 (by decide))
              · replace c_9 := (nI_eq (by omega) (by omega)).mp c_9
                refine g_aload_n (pc9 := 155) C rfl 5 dX11_reads_154 rfl rfl ?_
                refine g_iconst (pc9 := 156) C rfl (nI (2)) dX11_reads_155 rfl ?_
                refine g_callVi (nn := 1) (rest := []) (pc9 := 159) C rfl (0) [.int (nI (2))] rfl dX11_reads_156 (m_X11_wrong l w (sN (sI (sI (sI (sI (sI σ (2) (upd (iA σ 2) 8 (nI ((gwU (iA σ 1) gz b).1)))) (3) (put47 ((gwU (iA σ 1) gz b).2.2.2.1) (iA σ 3) 8 ((gwU (iA σ 1) gz b).1))) (4) (put47 ((gwU (iA σ 1) gz b).2.2.2.2.1) (iA σ 4) 8 ((gwU (iA σ 1) gz b).1))) (14) (op)) (15) ((rdU (iA σ 1) (0, 0, 0, iA σ 15) b).2.2.2)) (0) 22 (nI (b))) 2) gX11_reads_X11_wrong (by decide) (ce_0 w (sN (sI (sI (sI (sI (sI σ (2) (upd (iA σ 2) 8 (nI ((gwU (iA σ 1) gz b).1)))) (3) (put47 ((gwU (iA σ 1) gz b).2.2.2.1) (iA σ 3) 8 ((gwU (iA σ 1) gz b).1))) (4) (put47 ((gwU (iA σ 1) gz b).2.2.2.2.1) (iA σ 4) 8 ((gwU (iA σ 1) gz b).1))) (14) (op)) (15) ((rdU (iA σ 1) (0, 0, 0, iA σ 15) b).2.2.2)) (0) 22 (nI (b)))) rfl rfl rfl rfl rfl (by decide +kernel) ⟨by decide, by decide⟩ rfl (Nat.le_of_ble_eq_true rfl) ⟨by decide, by decide⟩ (fun r_29 σ_29 q_29 => ?_)
                obtain ⟨qs_29, qr_29⟩ := q_29
                have hx9 := ex_bad (σ := σ) hpf_b hbL (rd_letx hle hph (by omega)) (by decide)
                rw [qs_29, qr_29]
                exact g_ireturn C hr hlk dX11_reads_159 (re_w hx9 (by decide))
            · have hnl : ¬ letP (iA σ 1 b) := gt_108 c_8
              refine g_aload_n (pc9 := 143) C rfl 5 dX11_reads_142 rfl rfl ?_
              refine g_iconst (pc9 := 144) C rfl (nI (1)) dX11_reads_143 rfl ?_
              refine g_callVi (nn := 1) (rest := []) (pc9 := 147) C rfl (0) [.int (nI (1))] rfl dX11_reads_144 (m_X11_wrong l w (sN (sI (sI (sI (sI (sI σ (2) (upd (iA σ 2) 8 (nI ((gwU (iA σ 1) gz b).1)))) (3) (put47 ((gwU (iA σ 1) gz b).2.2.2.1) (iA σ 3) 8 ((gwU (iA σ 1) gz b).1))) (4) (put47 ((gwU (iA σ 1) gz b).2.2.2.2.1) (iA σ 4) 8 ((gwU (iA σ 1) gz b).1))) (14) (op)) (15) ((rdU (iA σ 1) (0, 0, 0, iA σ 15) b).2.2.2)) (0) 22 (nI (b))) 1) gX11_reads_X11_wrong (by decide) (ce_0 w (sN (sI (sI (sI (sI (sI σ (2) (upd (iA σ 2) 8 (nI ((gwU (iA σ 1) gz b).1)))) (3) (put47 ((gwU (iA σ 1) gz b).2.2.2.1) (iA σ 3) 8 ((gwU (iA σ 1) gz b).1))) (4) (put47 ((gwU (iA σ 1) gz b).2.2.2.2.1) (iA σ 4) 8 ((gwU (iA σ 1) gz b).1))) (14) (op)) (15) ((rdU (iA σ 1) (0, 0, 0, iA σ 15) b).2.2.2)) (0) 22 (nI (b)))) rfl rfl rfl rfl rfl (by decide +kernel) ⟨by decide, by decide⟩ rfl (Nat.le_of_ble_eq_true rfl) ⟨by decide, by decide⟩ (fun r_30 σ_30 q_30 => ?_)
              obtain ⟨qs_30, qr_30⟩ := q_30
              have hx9 := ex_bad (σ := σ) hpf_b hbL (rd_nox h32 h40 hnl hph) (by decide)
              rw [qs_30, qr_30]
              exact g_ireturn C hr hlk dX11_reads_147 (re_w hx9 (by decide))
        · have h40 : iA σ 1 b = nI 40 := c_5
          refine g_iload_n (pc9 := 81) C rfl 4 dX11_reads_80 rfl rfl ?_
          refine g_bipush (pc9 := 83) C rfl (nI (23)) dX11_reads_81 rfl ?_
          refine g_icmp_ne (pc9 := 86) C rfl 92 dX11_reads_83 rfl (fun c_31 => ?_) (fun c_31 => ?_)
          · replace c_31 := (not_congr (nI_eq (by omega) (by omega))).mp c_31
            refine g_aload_n (pc9 := 93) C rfl 5 dX11_reads_92 rfl rfl ?_
            refine g_get (v := .ref (w.1 (14))) (pc9 := 96) C rfl (0) 23 dX11_reads_93 (by decide) (ce_0 w (sN (sI (sI (sI (sI (sI σ (2) (upd (iA σ 2) 8 (nI ((gwU (iA σ 1) gz b).1)))) (3) (put47 ((gwU (iA σ 1) gz b).2.2.2.1) (iA σ 3) 8 ((gwU (iA σ 1) gz b).1))) (4) (put47 ((gwU (iA σ 1) gz b).2.2.2.2.1) (iA σ 4) 8 ((gwU (iA σ 1) gz b).1))) (14) (op)) (15) ((rdU (iA σ 1) (0, 0, 0, iA σ 15) b).2.2.2)) (0) 22 (nI (b)))) hin_11 hl_57 rfl (by decide) rfl rfl ?_
            refine g_iload_n (pc9 := 97) C rfl 4 dX11_reads_96 rfl rfl ?_
            refine g_aload_n (pc9 := 98) C rfl 5 dX11_reads_97 rfl rfl ?_
            refine g_iload (pc9 := 100) C rfl 0 dX11_reads_98 rfl ?_
            refine g_iconst (pc9 := 101) C rfl ((-1)) dX11_reads_100 rfl ?_
            refine g_callVi (nn := 2) (rest := [.int (nI ((rdU (iA σ 1) (0, 0, 0, iA σ 15) b).1)), .ref (w.1 (14))]) (pc9 := 104) C rfl (0) [.int ((gwU (iA σ 1) gz b).2.1), .int ((-1))] rfl dX11_reads_101 (m_X11_draft l w (sN (sI (sI (sI (sI (sI σ (2) (upd (iA σ 2) 8 (nI ((gwU (iA σ 1) gz b).1)))) (3) (put47 ((gwU (iA σ 1) gz b).2.2.2.1) (iA σ 3) 8 ((gwU (iA σ 1) gz b).1))) (4) (put47 ((gwU (iA σ 1) gz b).2.2.2.2.1) (iA σ 4) 8 ((gwU (iA σ 1) gz b).1))) (14) (op)) (15) ((rdU (iA σ 1) (0, 0, 0, iA σ 15) b).2.2.2)) (0) 22 (nI (b))) (gwU (iA σ 1) gz b).1 (upd_8 (iA σ 2) (nI (gwU (iA σ 1) gz b).1)) hop.2.2.2.2.2 _ _) gX11_reads_X11_draft (by decide) (ce_0 w (sN (sI (sI (sI (sI (sI σ (2) (upd (iA σ 2) 8 (nI ((gwU (iA σ 1) gz b).1)))) (3) (put47 ((gwU (iA σ 1) gz b).2.2.2.1) (iA σ 3) 8 ((gwU (iA σ 1) gz b).1))) (4) (put47 ((gwU (iA σ 1) gz b).2.2.2.2.1) (iA σ 4) 8 ((gwU (iA σ 1) gz b).1))) (14) (op)) (15) ((rdU (iA σ 1) (0, 0, 0, iA σ 15) b).2.2.2)) (0) 22 (nI (b)))) rfl rfl rfl rfl rfl (by decide +kernel) ⟨by decide, by decide⟩ rfl (Nat.le_of_ble_eq_true rfl) ⟨by decide, by decide⟩ (fun r_32 σ_32 q_32 => ?_)
            obtain ⟨qs_32, qr_32⟩ := q_32
            replace qs_32 : σ_32 = sN (sI (sI (sI (sI (sI σ (2) (upd (iA σ 2) 8 (nI ((gwU (iA σ 1) gz b).1 + 1)))) (3) (put47 (upd (gwU (iA σ 1) gz b).2.2.2.1 (gwU (iA σ 1) gz b).1 ((gwU (iA σ 1) gz b).2.1)) (iA σ 3) 8 ((gwU (iA σ 1) gz b).1 + 1))) (4) (put47 (upd (gwU (iA σ 1) gz b).2.2.2.2.1 (gwU (iA σ 1) gz b).1 (-1)) (iA σ 4) 8 ((gwU (iA σ 1) gz b).1 + 1))) (14) (op)) (15) ((rdU (iA σ 1) (0, 0, 0, iA σ 15) b).2.2.2)) (0) 22 (nI (b)) := qs_32.trans drS_rdM
            rw [qs_32, qr_32]
            refine g_iast (pc9 := 105) C rfl (14) ((rdU (iA σ 1) (0, 0, 0, iA σ 15) b).1) (op) dX11_reads_104 (by decide) (fun _ => rfl) (ce_14 w (sN (sI (sI (sI (sI (sI σ (2) (upd (iA σ 2) 8 (nI ((gwU (iA σ 1) gz b).1 + 1)))) (3) (put47 (upd (gwU (iA σ 1) gz b).2.2.2.1 (gwU (iA σ 1) gz b).1 ((gwU (iA σ 1) gz b).2.1)) (iA σ 3) 8 ((gwU (iA σ 1) gz b).1 + 1))) (4) (put47 (upd (gwU (iA σ 1) gz b).2.2.2.2.1 (gwU (iA σ 1) gz b).1 (-1)) (iA σ 4) 8 ((gwU (iA σ 1) gz b).1 + 1))) (14) (op)) (15) ((rdU (iA σ 1) (0, 0, 0, iA σ 15) b).2.2.2)) (0) 22 (nI (b)))) rfl (by omega) (by decide) (((iA_N).trans (iA_n (by decide))).trans (iA_s)) ?_
            rw [sI_sN (a := 0) (k := 22) (b := 14), sI_cm (a := 15) (b := 14) (by decide), sI_sI (a := 14)]
            refine g_aload_n (pc9 := 106) C rfl 5 dX11_reads_105 rfl rfl ?_
            refine g_get (v := .ref (w.1 (15))) (pc9 := 109) C rfl (0) 24 dX11_reads_106 (by decide) (ce_0 w (sN (sI (sI (sI (sI (sI σ (2) (upd (iA σ 2) 8 (nI ((gwU (iA σ 1) gz b).1 + 1)))) (3) (put47 (upd (gwU (iA σ 1) gz b).2.2.2.1 (gwU (iA σ 1) gz b).1 ((gwU (iA σ 1) gz b).2.1)) (iA σ 3) 8 ((gwU (iA σ 1) gz b).1 + 1))) (4) (put47 (upd (gwU (iA σ 1) gz b).2.2.2.2.1 (gwU (iA σ 1) gz b).1 (-1)) (iA σ 4) 8 ((gwU (iA σ 1) gz b).1 + 1))) (14) (upd (op) ((rdU (iA σ 1) (0, 0, 0, iA σ 15) b).1) (nI ((gwU (iA σ 1) gz b).1)))) (15) ((rdU (iA σ 1) (0, 0, 0, iA σ 15) b).2.2.2)) (0) 22 (nI (b)))) hin_11 hl_60 rfl (by decide) rfl rfl ?_
            refine g_iload_n (pc9 := 110) C rfl 4 dX11_reads_109 rfl rfl ?_
            refine g_iconst (pc9 := 111) C rfl (nI (0)) dX11_reads_110 rfl ?_
            refine g_iast (pc9 := 112) C rfl (15) ((rdU (iA σ 1) (0, 0, 0, iA σ 15) b).1) ((rdU (iA σ 1) (0, 0, 0, iA σ 15) b).2.2.2) dX11_reads_111 (by decide) (fun _ => rfl) (ce_15 w (sN (sI (sI (sI (sI (sI σ (2) (upd (iA σ 2) 8 (nI ((gwU (iA σ 1) gz b).1 + 1)))) (3) (put47 (upd (gwU (iA σ 1) gz b).2.2.2.1 (gwU (iA σ 1) gz b).1 ((gwU (iA σ 1) gz b).2.1)) (iA σ 3) 8 ((gwU (iA σ 1) gz b).1 + 1))) (4) (put47 (upd (gwU (iA σ 1) gz b).2.2.2.2.1 (gwU (iA σ 1) gz b).1 (-1)) (iA σ 4) 8 ((gwU (iA σ 1) gz b).1 + 1))) (14) (upd (op) ((rdU (iA σ 1) (0, 0, 0, iA σ 15) b).1) (nI ((gwU (iA σ 1) gz b).1)))) (15) ((rdU (iA σ 1) (0, 0, 0, iA σ 15) b).2.2.2)) (0) 22 (nI (b)))) rfl (by omega) (by decide) ((iA_N).trans (iA_s)) ?_
            rw [sI_sN (a := 0) (k := 22) (b := 15), sI_sI (a := 15)]
            refine g_iinc (pc9 := 115) C rfl [(2, .int (nI ((rdU (iA σ 1) (0, 0, 0, iA σ 15) b).1 + 1))), (6, .int ((gwU (iA σ 1) gz b).2.1)), (5, .int ((iA σ (1)) (b))), (4, .int (nI (0))), (3, .int (nI ((rdU (iA σ 1) (0, 0, 0, iA σ 15) b).2.1))), (0, .ref (w.1 (0))), (1, .int (nI (L)))] 4 (nI ((rdU (iA σ 1) (0, 0, 0, iA σ 15) b).1 + 1)) dX11_reads_112 rfl (nI_1 ((rdU (iA σ 1) (0, 0, 0, iA σ 15) b).1)) (by decide) rfl ?_
            refine g_aload_n (pc9 := 116) C rfl 5 dX11_reads_115 rfl rfl ?_
            refine g_dup (pc9 := 117) C rfl dX11_reads_116 rfl ?_
            refine g_get (v := .int (nI (b))) (pc9 := 120) C rfl (0) 22 dX11_reads_117 (by decide) (ce_0 w (sN (sI (sI (sI (sI (sI σ (2) (upd (iA σ 2) 8 (nI ((gwU (iA σ 1) gz b).1 + 1)))) (3) (put47 (upd (gwU (iA σ 1) gz b).2.2.2.1 (gwU (iA σ 1) gz b).1 ((gwU (iA σ 1) gz b).2.1)) (iA σ 3) 8 ((gwU (iA σ 1) gz b).1 + 1))) (4) (put47 (upd (gwU (iA σ 1) gz b).2.2.2.2.1 (gwU (iA σ 1) gz b).1 (-1)) (iA σ 4) 8 ((gwU (iA σ 1) gz b).1 + 1))) (14) (upd (op) ((rdU (iA σ 1) (0, 0, 0, iA σ 15) b).1) (nI ((gwU (iA σ 1) gz b).1)))) (15) (upd ((rdU (iA σ 1) (0, 0, 0, iA σ 15) b).2.2.2) ((rdU (iA σ 1) (0, 0, 0, iA σ 15) b).1) (nI (0)))) (0) 22 (nI (b)))) hin_11 hl_141 rfl (by decide) rfl (congrArg (fun z => some (Value.int z)) (nF_s)) ?_
            refine g_iconst (pc9 := 121) C rfl (nI (1)) dX11_reads_120 rfl ?_
            refine g_iaddN (pc9 := 122) C rfl dX11_reads_121 ?_
            refine g_put (pc9 := 125) C rfl (0) 22 dX11_reads_122 (by decide) (ce_0 w (sN (sI (sI (sI (sI (sI σ (2) (upd (iA σ 2) 8 (nI ((gwU (iA σ 1) gz b).1 + 1)))) (3) (put47 (upd (gwU (iA σ 1) gz b).2.2.2.1 (gwU (iA σ 1) gz b).1 ((gwU (iA σ 1) gz b).2.1)) (iA σ 3) 8 ((gwU (iA σ 1) gz b).1 + 1))) (4) (put47 (upd (gwU (iA σ 1) gz b).2.2.2.2.1 (gwU (iA σ 1) gz b).1 (-1)) (iA σ 4) 8 ((gwU (iA σ 1) gz b).1 + 1))) (14) (upd (op) ((rdU (iA σ 1) (0, 0, 0, iA σ 15) b).1) (nI ((gwU (iA σ 1) gz b).1)))) (15) (upd ((rdU (iA σ 1) (0, 0, 0, iA σ 15) b).2.2.2) ((rdU (iA σ 1) (0, 0, 0, iA σ 15) b).1) (nI (0)))) (0) 22 (nI (b)))) (rfl) hin_11 hl_141 tyX11 tyX11_ok nmX11 rfl (by decide) rfl rfl rfl (Nat.le_of_ble_eq_true rfl) ?_
            rw [sN_sN]
            refine g_goto C 20 dX11_reads_125 rfl ?_
            refine g_sub [3, 4, 0, 5, 6] [(4, .int (nI (0))), (3, .int (nI ((rdU (iA σ 1) (0, 0, 0, iA σ 15) b).2.1))), (2, .int (nI ((rdU (iA σ 1) (0, 0, 0, iA σ 15) b).1 + 1))), (0, .ref (w.1 (0))), (1, .int (nI (L)))] rfl ?_
            have hO := OPk_open hop hgw hrk h40 hph (by omega)
            have e1 : rdU (iA σ 1) (0, 0, 0, iA σ 15) (b + 1) = ((rdU (iA σ 1) (0, 0, 0, iA σ 15) b).1 + 1, (rdU (iA σ 1) (0, 0, 0, iA σ 15) b).2.1, (rdU (iA σ 1) (0, 0, 0, iA σ 15) b).2.2.1, upd (rdU (iA σ 1) (0, 0, 0, iA σ 15) b).2.2.2 (rdU (iA σ 1) (0, 0, 0, iA σ 15) b).1 (nI 0)) := congrArg Prod.snd (rd_40 h40 hph (by omega))
            have e2 : gwU (iA σ 1) gz (b + 1) = ((gwU (iA σ 1) gz b).1 + 1, nI (gwU (iA σ 1) gz b).1, tdA (gwU (iA σ 1) gz b).1 (gwU (iA σ 1) gz b).2.1.toNatClampNeg (-1) (gwU (iA σ 1) gz b).2.2) := gw_40 h40
            have hih := ih (b + 1) (upd op (rdU (iA σ 1) (0, 0, 0, iA σ 15) b).1 (nI (gwU (iA σ 1) gz b).1)) ⟨by omega, pfx_s hpf_b (by rw [rd_40 h40 hph (by omega)]; rfl), by rw [e1]; exact hph, hO.1⟩ (by omega)
            rw [e1, e2] at hih
            rw [← hO.2]
            exact hih
          · replace c_31 := (nI_eq (by omega) (by omega)).mp c_31
            refine g_aload_n (pc9 := 87) C rfl 5 dX11_reads_86 rfl rfl ?_
            refine g_iconst (pc9 := 88) C rfl (nI (2)) dX11_reads_87 rfl ?_
            refine g_callVi (nn := 1) (rest := []) (pc9 := 91) C rfl (0) [.int (nI (2))] rfl dX11_reads_88 (m_X11_wrong l w (sN (sI (sI (sI (sI (sI σ (2) (upd (iA σ 2) 8 (nI ((gwU (iA σ 1) gz b).1)))) (3) (put47 ((gwU (iA σ 1) gz b).2.2.2.1) (iA σ 3) 8 ((gwU (iA σ 1) gz b).1))) (4) (put47 ((gwU (iA σ 1) gz b).2.2.2.2.1) (iA σ 4) 8 ((gwU (iA σ 1) gz b).1))) (14) (op)) (15) ((rdU (iA σ 1) (0, 0, 0, iA σ 15) b).2.2.2)) (0) 22 (nI (b))) 2) gX11_reads_X11_wrong (by decide) (ce_0 w (sN (sI (sI (sI (sI (sI σ (2) (upd (iA σ 2) 8 (nI ((gwU (iA σ 1) gz b).1)))) (3) (put47 ((gwU (iA σ 1) gz b).2.2.2.1) (iA σ 3) 8 ((gwU (iA σ 1) gz b).1))) (4) (put47 ((gwU (iA σ 1) gz b).2.2.2.2.1) (iA σ 4) 8 ((gwU (iA σ 1) gz b).1))) (14) (op)) (15) ((rdU (iA σ 1) (0, 0, 0, iA σ 15) b).2.2.2)) (0) 22 (nI (b)))) rfl rfl rfl rfl rfl (by decide +kernel) ⟨by decide, by decide⟩ rfl (Nat.le_of_ble_eq_true rfl) ⟨by decide, by decide⟩ (fun r_33 σ_33 q_33 => ?_)
            obtain ⟨qs_33, qr_33⟩ := q_33
            have hx9 := ex_bad (σ := σ) hpf_b hbL (rd_40x h40 hph (by omega)) (by decide)
            rw [qs_33, qr_33]
            exact g_ireturn C hr hlk dX11_reads_91 (re_w hx9 (by decide))
      · replace c_4 := (not_congr (z_le (by omega))).mp c_4
        have ho0 : 0 < (rdU (iA σ 1) (0, 0, 0, iA σ 15) b).1 := by omega
        have hab : op ((rdU (iA σ 1) (0, 0, 0, iA σ 15) b).1 - 1) = (gwU (iA σ 1) gz b).2.1 := (hop.1 ho0).symm
        refine g_aload_n (pc9 := 60) C rfl 4 dX11_reads_59 rfl rfl ?_
        refine g_get (v := .ref (w.1 (14))) (pc9 := 63) C rfl (0) 23 dX11_reads_60 (by decide) (ce_0 w (sN (sI (sI (sI (sI (sI σ (2) (upd (iA σ 2) 8 (nI ((gwU (iA σ 1) gz b).1)))) (3) (put47 ((gwU (iA σ 1) gz b).2.2.2.1) (iA σ 3) 8 ((gwU (iA σ 1) gz b).1))) (4) (put47 ((gwU (iA σ 1) gz b).2.2.2.2.1) (iA σ 4) 8 ((gwU (iA σ 1) gz b).1))) (14) (op)) (15) ((rdU (iA σ 1) (0, 0, 0, iA σ 15) b).2.2.2)) (0) 22 (nI (b)))) hin_11 hl_57 rfl (by decide) rfl rfl ?_
        refine g_iload_n (pc9 := 64) C rfl 3 dX11_reads_63 rfl rfl ?_
        refine g_iconst (pc9 := 65) C rfl (nI (1)) dX11_reads_64 rfl ?_
        refine g_isubN (pc9 := 66) C rfl dX11_reads_65 (by omega) ?_
        refine g_iald (x := op (((rdU (iA σ 1) (0, 0, 0, iA σ 15) b).1) - (1))) (pc9 := 67) C rfl (14) (((rdU (iA σ 1) (0, 0, 0, iA σ 15) b).1) - (1)) dX11_reads_66 (by decide) (ce_14 w (sN (sI (sI (sI (sI (sI σ (2) (upd (iA σ 2) 8 (nI ((gwU (iA σ 1) gz b).1)))) (3) (put47 ((gwU (iA σ 1) gz b).2.2.2.1) (iA σ 3) 8 ((gwU (iA σ 1) gz b).1))) (4) (put47 ((gwU (iA σ 1) gz b).2.2.2.2.1) (iA σ 4) 8 ((gwU (iA σ 1) gz b).1))) (14) (op)) (15) ((rdU (iA σ 1) (0, 0, 0, iA σ 15) b).2.2.2)) (0) 22 (nI (b)))) rfl (by omega) (by decide) (congrFun (((iA_N).trans (iA_n (by decide))).trans (iA_s)) _) ?_
        refine g_goto C 71 dX11_reads_67 rfl ?_
        rw [hab]
        refine g_istore (pc9 := 73) C rfl [(6, .int ((gwU (iA σ 1) gz b).2.1)), (5, .int ((iA σ (1)) (b))), (4, .int (nI (0))), (3, .int (nI ((rdU (iA σ 1) (0, 0, 0, iA σ 15) b).2.1))), (2, .int (nI ((rdU (iA σ 1) (0, 0, 0, iA σ 15) b).1))), (0, .ref (w.1 (0))), (1, .int (nI (L)))] dX11_reads_71 (by decide) rfl ?_
        refine g_iload (pc9 := 75) C rfl 1 dX11_reads_73 rfl ?_
        refine g_bipush (pc9 := 77) C rfl (nI (40)) dX11_reads_75 rfl ?_
        refine g_icmp_ne (pc9 := 80) C rfl 128 dX11_reads_77 rfl (fun c_34 => ?_) (fun c_34 => ?_)
        · have h40 : ¬ iA σ 1 b = nI 40 := c_34
          refine g_iload (pc9 := 130) C rfl 1 dX11_reads_128 rfl ?_
          refine g_bipush (pc9 := 132) C rfl (nI (97)) dX11_reads_130 rfl ?_
          refine g_icmp_lt (pc9 := 135) C rfl 142 dX11_reads_132 rfl (fun c_35 => ?_) (fun c_35 => ?_)
          · have hnl : ¬ letP (iA σ 1 b) := fun h => h.1 c_35
            refine g_aload_n (pc9 := 143) C rfl 5 dX11_reads_142 rfl rfl ?_
            refine g_iconst (pc9 := 144) C rfl (nI (1)) dX11_reads_143 rfl ?_
            refine g_callVi (nn := 1) (rest := []) (pc9 := 147) C rfl (0) [.int (nI (1))] rfl dX11_reads_144 (m_X11_wrong l w (sN (sI (sI (sI (sI (sI σ (2) (upd (iA σ 2) 8 (nI ((gwU (iA σ 1) gz b).1)))) (3) (put47 ((gwU (iA σ 1) gz b).2.2.2.1) (iA σ 3) 8 ((gwU (iA σ 1) gz b).1))) (4) (put47 ((gwU (iA σ 1) gz b).2.2.2.2.1) (iA σ 4) 8 ((gwU (iA σ 1) gz b).1))) (14) (op)) (15) ((rdU (iA σ 1) (0, 0, 0, iA σ 15) b).2.2.2)) (0) 22 (nI (b))) 1) gX11_reads_X11_wrong (by decide) (ce_0 w (sN (sI (sI (sI (sI (sI σ (2) (upd (iA σ 2) 8 (nI ((gwU (iA σ 1) gz b).1)))) (3) (put47 ((gwU (iA σ 1) gz b).2.2.2.1) (iA σ 3) 8 ((gwU (iA σ 1) gz b).1))) (4) (put47 ((gwU (iA σ 1) gz b).2.2.2.2.1) (iA σ 4) 8 ((gwU (iA σ 1) gz b).1))) (14) (op)) (15) ((rdU (iA σ 1) (0, 0, 0, iA σ 15) b).2.2.2)) (0) 22 (nI (b)))) rfl rfl rfl rfl rfl (by decide +kernel) ⟨by decide, by decide⟩ rfl (Nat.le_of_ble_eq_true rfl) ⟨by decide, by decide⟩ (fun r_36 σ_36 q_36 => ?_)
            obtain ⟨qs_36, qr_36⟩ := q_36
            have hx9 := ex_bad (σ := σ) hpf_b hbL (rd_nox h32 h40 hnl hph) (by decide)
            rw [qs_36, qr_36]
            exact g_ireturn C hr hlk dX11_reads_147 (re_w hx9 (by decide))
          · have h97 : ¬ iA σ 1 b < nI 97 := c_35
            refine g_iload (pc9 := 137) C rfl 1 dX11_reads_135 rfl ?_
            refine g_bipush (pc9 := 139) C rfl (nI (108)) dX11_reads_137 rfl ?_
            refine g_icmp_le (pc9 := 142) C rfl 148 dX11_reads_139 rfl (fun c_37 => ?_) (fun c_37 => ?_)
            · have hle : letP (iA σ 1 b) := le_108 h97 c_37
              refine g_iload_n (pc9 := 149) C rfl 3 dX11_reads_148 rfl rfl ?_
              refine g_bipush (pc9 := 151) C rfl (nI (24)) dX11_reads_149 rfl ?_
              refine g_icmp_ne (pc9 := 154) C rfl 160 dX11_reads_151 rfl (fun c_38 => ?_) (fun c_38 => ?_)
              · replace c_38 := (not_congr (nI_eq (by omega) (by omega))).mp c_38
                refine g_iinc (pc9 := 163) C rfl [(3, .int (nI ((rdU (iA σ 1) (0, 0, 0, iA σ 15) b).2.1 + 1))), (6, .int ((gwU (iA σ 1) gz b).2.1)), (5, .int ((iA σ (1)) (b))), (4, .int (nI (0))), (2, .int (nI ((rdU (iA σ 1) (0, 0, 0, iA σ 15) b).1))), (0, .ref (w.1 (0))), (1, .int (nI (L)))] 3 (nI ((rdU (iA σ 1) (0, 0, 0, iA σ 15) b).2.1 + 1)) dX11_reads_160 rfl (nI_1 ((rdU (iA σ 1) (0, 0, 0, iA σ 15) b).2.1)) (by decide) rfl ?_
                refine g_aload_n (pc9 := 164) C rfl 5 dX11_reads_163 rfl rfl ?_
                refine g_iload (pc9 := 166) C rfl 1 dX11_reads_164 rfl ?_
                refine g_iload (pc9 := 168) C rfl 2 dX11_reads_166 rfl ?_
                refine g_bipush (pc9 := 170) C rfl (nI (97)) dX11_reads_168 rfl ?_
                refine g_isub (pc9 := 171) C rfl dX11_reads_170 ?_
                refine g_callVi (nn := 2) (rest := []) (pc9 := 174) C rfl (0) [.int ((gwU (iA σ 1) gz b).2.1), .int (((iA σ (1)) (b)) - (nI (97)))] rfl dX11_reads_171 (m_X11_draft l w (sN (sI (sI (sI (sI (sI σ (2) (upd (iA σ 2) 8 (nI ((gwU (iA σ 1) gz b).1)))) (3) (put47 ((gwU (iA σ 1) gz b).2.2.2.1) (iA σ 3) 8 ((gwU (iA σ 1) gz b).1))) (4) (put47 ((gwU (iA σ 1) gz b).2.2.2.2.1) (iA σ 4) 8 ((gwU (iA σ 1) gz b).1))) (14) (op)) (15) ((rdU (iA σ 1) (0, 0, 0, iA σ 15) b).2.2.2)) (0) 22 (nI (b))) (gwU (iA σ 1) gz b).1 (upd_8 (iA σ 2) (nI (gwU (iA σ 1) gz b).1)) hop.2.2.2.2.2 _ _) gX11_reads_X11_draft (by decide) (ce_0 w (sN (sI (sI (sI (sI (sI σ (2) (upd (iA σ 2) 8 (nI ((gwU (iA σ 1) gz b).1)))) (3) (put47 ((gwU (iA σ 1) gz b).2.2.2.1) (iA σ 3) 8 ((gwU (iA σ 1) gz b).1))) (4) (put47 ((gwU (iA σ 1) gz b).2.2.2.2.1) (iA σ 4) 8 ((gwU (iA σ 1) gz b).1))) (14) (op)) (15) ((rdU (iA σ 1) (0, 0, 0, iA σ 15) b).2.2.2)) (0) 22 (nI (b)))) rfl rfl rfl rfl rfl (by decide +kernel) ⟨by decide, by decide⟩ rfl (Nat.le_of_ble_eq_true rfl) ⟨by decide, by decide⟩ (fun r_39 σ_39 q_39 => ?_)
                obtain ⟨qs_39, qr_39⟩ := q_39
                replace qs_39 : σ_39 = sN (sI (sI (sI (sI (sI σ (2) (upd (iA σ 2) 8 (nI ((gwU (iA σ 1) gz b).1 + 1)))) (3) (put47 (upd (gwU (iA σ 1) gz b).2.2.2.1 (gwU (iA σ 1) gz b).1 ((gwU (iA σ 1) gz b).2.1)) (iA σ 3) 8 ((gwU (iA σ 1) gz b).1 + 1))) (4) (put47 (upd (gwU (iA σ 1) gz b).2.2.2.2.1 (gwU (iA σ 1) gz b).1 (iA σ 1 b - nI 97)) (iA σ 4) 8 ((gwU (iA σ 1) gz b).1 + 1))) (14) (op)) (15) ((rdU (iA σ 1) (0, 0, 0, iA σ 15) b).2.2.2)) (0) 22 (nI (b)) := qs_39.trans drS_rdM
                rw [qs_39, qr_39]
                refine g_istore (pc9 := 176) C rfl [(7, .int (nI ((gwU (iA σ 1) gz b).1))), (3, .int (nI ((rdU (iA σ 1) (0, 0, 0, iA σ 15) b).2.1 + 1))), (6, .int ((gwU (iA σ 1) gz b).2.1)), (5, .int ((iA σ (1)) (b))), (4, .int (nI (0))), (2, .int (nI ((rdU (iA σ 1) (0, 0, 0, iA σ 15) b).1))), (0, .ref (w.1 (0))), (1, .int (nI (L)))] dX11_reads_174 (by decide) rfl ?_
                refine g_aload_n (pc9 := 177) C rfl 6 dX11_reads_176 rfl rfl ?_
                refine g_dup (pc9 := 178) C rfl dX11_reads_177 rfl ?_
                refine g_get (v := .int (nI (b))) (pc9 := 181) C rfl (0) 22 dX11_reads_178 (by decide) (ce_0 w (sN (sI (sI (sI (sI (sI σ (2) (upd (iA σ 2) 8 (nI ((gwU (iA σ 1) gz b).1 + 1)))) (3) (put47 (upd (gwU (iA σ 1) gz b).2.2.2.1 (gwU (iA σ 1) gz b).1 ((gwU (iA σ 1) gz b).2.1)) (iA σ 3) 8 ((gwU (iA σ 1) gz b).1 + 1))) (4) (put47 (upd (gwU (iA σ 1) gz b).2.2.2.2.1 (gwU (iA σ 1) gz b).1 (iA σ 1 b - nI 97)) (iA σ 4) 8 ((gwU (iA σ 1) gz b).1 + 1))) (14) (op)) (15) ((rdU (iA σ 1) (0, 0, 0, iA σ 15) b).2.2.2)) (0) 22 (nI (b)))) hin_11 hl_141 rfl (by decide) rfl (congrArg (fun z => some (Value.int z)) (nF_s)) ?_
                refine g_iconst (pc9 := 182) C rfl (nI (1)) dX11_reads_181 rfl ?_
                refine g_iaddN (pc9 := 183) C rfl dX11_reads_182 ?_
                refine g_put (pc9 := 186) C rfl (0) 22 dX11_reads_183 (by decide) (ce_0 w (sN (sI (sI (sI (sI (sI σ (2) (upd (iA σ 2) 8 (nI ((gwU (iA σ 1) gz b).1 + 1)))) (3) (put47 (upd (gwU (iA σ 1) gz b).2.2.2.1 (gwU (iA σ 1) gz b).1 ((gwU (iA σ 1) gz b).2.1)) (iA σ 3) 8 ((gwU (iA σ 1) gz b).1 + 1))) (4) (put47 (upd (gwU (iA σ 1) gz b).2.2.2.2.1 (gwU (iA σ 1) gz b).1 (iA σ 1 b - nI 97)) (iA σ 4) 8 ((gwU (iA σ 1) gz b).1 + 1))) (14) (op)) (15) ((rdU (iA σ 1) (0, 0, 0, iA σ 15) b).2.2.2)) (0) 22 (nI (b)))) (rfl) hin_11 hl_141 tyX11 tyX11_ok nmX11 rfl (by decide) rfl rfl rfl (Nat.le_of_ble_eq_true rfl) ?_
                rw [sN_sN]
                refine g_iconst (pc9 := 187) C rfl (nI (1)) dX11_reads_186 rfl ?_
                refine g_istore (pc9 := 189) C rfl [(8, .int (nI (1))), (7, .int (nI ((gwU (iA σ 1) gz b).1))), (3, .int (nI ((rdU (iA σ 1) (0, 0, 0, iA σ 15) b).2.1 + 1))), (6, .int ((gwU (iA σ 1) gz b).2.1)), (5, .int ((iA σ (1)) (b))), (4, .int (nI (0))), (2, .int (nI ((rdU (iA σ 1) (0, 0, 0, iA σ 15) b).1))), (0, .ref (w.1 (0))), (1, .int (nI (L)))] dX11_reads_187 (by decide) rfl ?_
                refine g_sub [0, 5, 2, 6, 7, 8] [(8, .int (nI (1))), (4, .int (nI (0))), (3, .int (nI ((rdU (iA σ 1) (0, 0, 0, iA σ 15) b).2.1 + 1))), (2, .int (nI ((rdU (iA σ 1) (0, 0, 0, iA σ 15) b).1))), (0, .ref (w.1 (0))), (1, .int (nI (L)))] rfl ?_
                have hO := OPk_let hop hgw hrk hle hph (by omega)
                have e1 : rdU (iA σ 1) (0, 0, 0, iA σ 15) (b + 1) = ((rdU (iA σ 1) (0, 0, 0, iA σ 15) b).1, (rdU (iA σ 1) (0, 0, 0, iA σ 15) b).2.1 + 1, 1, (rdU (iA σ 1) (0, 0, 0, iA σ 15) b).2.2.2) := congrArg Prod.snd (rd_let hle hph (by omega))
                have e2 : gwU (iA σ 1) gz (b + 1) = ((gwU (iA σ 1) gz b).1 + 1, (gwU (iA σ 1) gz b).2.1, tdA (gwU (iA σ 1) gz b).1 (gwU (iA σ 1) gz b).2.1.toNatClampNeg (iA σ 1 b - nI 97) (gwU (iA σ 1) gz b).2.2) := gw_let (let_no hle).2.1 (let_no hle).2.2 hle
                have hpf1 := pfx_s hpf_b (by rw [rd_let hle hph (by omega)]; rfl)
                have hO1 := hO.1
                rw [← hO.2]
                suffices hgo : G p l e _ s m args below meth c _ w A _ (sN (sI (sI (sI (sI (sI σ (2) (upd (iA σ 2) 8 (nI ((gwU (iA σ 1) gz (b + 1)).1)))) (3) (put47 ((gwU (iA σ 1) gz (b + 1)).2.2.2.1) (iA σ 3) 8 ((gwU (iA σ 1) gz (b + 1)).1))) (4) (put47 ((gwU (iA σ 1) gz (b + 1)).2.2.2.2.1) (iA σ 4) 8 ((gwU (iA σ 1) gz (b + 1)).1))) (14) (op)) (15) ((rdU (iA σ 1) (0, 0, 0, iA σ 15) (b + 1)).2.2.2)) (0) 22 (nI ((b + 1)))) 0 0 189 [(8, .int (nI (1))), (4, .int (nI (0))), (3, .int (nI ((rdU (iA σ 1) (0, 0, 0, iA σ 15) (b + 1)).2.1))), (2, .int (nI ((rdU (iA σ 1) (0, 0, 0, iA σ 15) (b + 1)).1))), (0, .ref (w.1 (0))), (1, .int (nI (L)))] [] from by
                  rw [e1, e2] at hgo
                  exact hgo
                refine g_lp1 (α := Nat) (fun c9 => c9 ≤ L ∧ b < c9 ∧ pfx (iA σ 1) (0, 0, 0, iA σ 15) c9 ∧ (rdU (iA σ 1) (0, 0, 0, iA σ 15) c9).2.2.1 = 1 ∧ OPk (rdU (iA σ 1) (0, 0, 0, iA σ 15) c9) op (gwU (iA σ 1) gz c9)) (fun c9 => L - c9) (fun c9 => G p l e _ s m args below meth c _ w A _ (sN (sI (sI (sI (sI (sI σ (2) (upd (iA σ 2) 8 (nI ((gwU (iA σ 1) gz c9).1)))) (3) (put47 ((gwU (iA σ 1) gz c9).2.2.2.1) (iA σ 3) 8 ((gwU (iA σ 1) gz c9).1))) (4) (put47 ((gwU (iA σ 1) gz c9).2.2.2.2.1) (iA σ 4) 8 ((gwU (iA σ 1) gz c9).1))) (14) (op)) (15) ((rdU (iA σ 1) (0, 0, 0, iA σ 15) c9).2.2.2)) (0) 22 (nI (c9))) 0 0 189 [(8, .int (nI (1))), (4, .int (nI (0))), (3, .int (nI ((rdU (iA σ 1) (0, 0, 0, iA σ 15) c9).2.1))), (2, .int (nI ((rdU (iA σ 1) (0, 0, 0, iA σ 15) c9).1))), (0, .ref (w.1 (0))), (1, .int (nI (L)))] []) (fun c9 hI ih2 => ?_) (b + 1) ⟨by omega, by omega, hpf1, by rw [e1], hO1⟩
                obtain ⟨hc1, hc2, hpf_c, hph_c, hop_c⟩ := hI
                refine g_iload (pc9 := 191) C rfl 0 dX11_reads_189 rfl ?_
                refine g_if_eq (pc9 := 194) C rfl 335 dX11_reads_191 rfl (fun c_40 => ?_) (fun c_40 => ?_)
                · exact absurd c_40 (by decide)
                · refine g_aload_n (pc9 := 195) C rfl 4 dX11_reads_194 rfl rfl ?_
                  refine g_iload_n (pc9 := 196) C rfl 5 dX11_reads_195 rfl rfl ?_
                  refine g_callVv (nn := 1) (rest := []) (pc9 := 199) C rfl (0) [.int (nI (L))] rfl dX11_reads_196 (m_X11_blanks l w (sN (sI (sI (sI (sI (sI σ (2) (upd (iA σ 2) 8 (nI ((gwU (iA σ 1) gz c9).1)))) (3) (put47 ((gwU (iA σ 1) gz c9).2.2.2.1) (iA σ 3) 8 ((gwU (iA σ 1) gz c9).1))) (4) (put47 ((gwU (iA σ 1) gz c9).2.2.2.2.1) (iA σ 4) 8 ((gwU (iA σ 1) gz c9).1))) (14) (op)) (15) ((rdU (iA σ 1) (0, 0, 0, iA σ 15) c9).2.2.2)) (0) 22 (nI (c9))) c9 L ((nF_s)) (by omega) hL4) gX11_reads_X11_blanks (by decide) (ce_0 w (sN (sI (sI (sI (sI (sI σ (2) (upd (iA σ 2) 8 (nI ((gwU (iA σ 1) gz c9).1)))) (3) (put47 ((gwU (iA σ 1) gz c9).2.2.2.1) (iA σ 3) 8 ((gwU (iA σ 1) gz c9).1))) (4) (put47 ((gwU (iA σ 1) gz c9).2.2.2.2.1) (iA σ 4) 8 ((gwU (iA σ 1) gz c9).1))) (14) (op)) (15) ((rdU (iA σ 1) (0, 0, 0, iA σ 15) c9).2.2.2)) (0) 22 (nI (c9)))) rfl rfl rfl rfl rfl (by decide +kernel) ⟨by decide, by decide⟩ rfl (Nat.le_of_ble_eq_true rfl) ⟨by decide, by decide⟩ (fun σ_41 q_41 => ?_)
                  obtain ⟨d, hb1_d, hb2_d, hb3_d, hb4_d, qs_41⟩ := q_41
                  replace hb3_d : ∀ u, c9 ≤ u → u < d → iA σ 1 u = nI 32 := hb3_d
                  replace hb4_d : d < L → ¬ iA σ 1 d = nI 32 := hb4_d
                  obtain ⟨eb1_d, eb2_d, eb3_d⟩ := blk (f := iA σ 1) (r := (0, 0, 0, iA σ 15)) (q := gz) d hb1_d hb3_d
                  rw [qs_41, sN_sN, ← eb1_d, ← eb2_d]
                  have hpf_d := eb3_d hpf_c
                  have hrk_d := rdU_ok (f := iA σ 1) (r := (0, 0, 0, iA σ 15)) ⟨Nat.zero_le _, Nat.zero_le _, Nat.zero_le _⟩ d
                  rw [← eb1_d] at hph_c
                  rw [← eb1_d, ← eb2_d] at hop_c
                  have hr1_d := hrk_d.1
                  have hr2_d := hrk_d.2.1
                  refine g_aload_n (pc9 := 200) C rfl 4 dX11_reads_199 rfl rfl ?_
                  refine g_get (v := .int (nI (d))) (pc9 := 203) C rfl (0) 22 dX11_reads_200 (by decide) (ce_0 w (sN (sI (sI (sI (sI (sI σ (2) (upd (iA σ 2) 8 (nI ((gwU (iA σ 1) gz d).1)))) (3) (put47 ((gwU (iA σ 1) gz d).2.2.2.1) (iA σ 3) 8 ((gwU (iA σ 1) gz d).1))) (4) (put47 ((gwU (iA σ 1) gz d).2.2.2.2.1) (iA σ 4) 8 ((gwU (iA σ 1) gz d).1))) (14) (op)) (15) ((rdU (iA σ 1) (0, 0, 0, iA σ 15) d).2.2.2)) (0) 22 (nI (d)))) hin_11 hl_141 rfl (by decide) rfl (congrArg (fun z => some (Value.int z)) (nF_s)) ?_
                  refine g_iload_n (pc9 := 204) C rfl 5 dX11_reads_203 rfl rfl ?_
                  refine g_icmp_ne (pc9 := 207) C rfl 213 dX11_reads_204 rfl (fun c_42 => ?_) (fun c_42 => ?_)
                  · replace c_42 := (not_congr (nI_eq (by omega) (by omega))).mp c_42
                    have hdL : d < L := by omega
                    have h32_d := hb4_d hdL
                    refine g_aload_n (pc9 := 214) C rfl 4 dX11_reads_213 rfl rfl ?_
                    refine g_get (v := .ref (w.1 (1))) (pc9 := 217) C rfl (0) 1 dX11_reads_214 (by decide) (ce_0 w (sN (sI (sI (sI (sI (sI σ (2) (upd (iA σ 2) 8 (nI ((gwU (iA σ 1) gz d).1)))) (3) (put47 ((gwU (iA σ 1) gz d).2.2.2.1) (iA σ 3) 8 ((gwU (iA σ 1) gz d).1))) (4) (put47 ((gwU (iA σ 1) gz d).2.2.2.2.1) (iA σ 4) 8 ((gwU (iA σ 1) gz d).1))) (14) (op)) (15) ((rdU (iA σ 1) (0, 0, 0, iA σ 15) d).2.2.2)) (0) 22 (nI (d)))) hin_11 hl_9 rfl (by decide) rfl rfl ?_
                    refine g_aload_n (pc9 := 218) C rfl 4 dX11_reads_217 rfl rfl ?_
                    refine g_get (v := .int (nI (d))) (pc9 := 221) C rfl (0) 22 dX11_reads_218 (by decide) (ce_0 w (sN (sI (sI (sI (sI (sI σ (2) (upd (iA σ 2) 8 (nI ((gwU (iA σ 1) gz d).1)))) (3) (put47 ((gwU (iA σ 1) gz d).2.2.2.1) (iA σ 3) 8 ((gwU (iA σ 1) gz d).1))) (4) (put47 ((gwU (iA σ 1) gz d).2.2.2.2.1) (iA σ 4) 8 ((gwU (iA σ 1) gz d).1))) (14) (op)) (15) ((rdU (iA σ 1) (0, 0, 0, iA σ 15) d).2.2.2)) (0) 22 (nI (d)))) hin_11 hl_141 rfl (by decide) rfl (congrArg (fun z => some (Value.int z)) (nF_s)) ?_
                    refine g_bald (x := (iA σ (1)) (d)) (pc9 := 222) C rfl (1) (d) dX11_reads_221 (by decide) (ce_1 w (sN (sI (sI (sI (sI (sI σ (2) (upd (iA σ 2) 8 (nI ((gwU (iA σ 1) gz d).1)))) (3) (put47 ((gwU (iA σ 1) gz d).2.2.2.1) (iA σ 3) 8 ((gwU (iA σ 1) gz d).1))) (4) (put47 ((gwU (iA σ 1) gz d).2.2.2.2.1) (iA σ 4) 8 ((gwU (iA σ 1) gz d).1))) (14) (op)) (15) ((rdU (iA σ 1) (0, 0, 0, iA σ 15) d).2.2.2)) (0) 22 (nI (d)))) rfl (by omega) (by decide) (congrFun ((((((iA_N).trans (iA_n (by decide))).trans (iA_n (by decide))).trans (iA_n (by decide))).trans (iA_n (by decide))).trans (iA_n (by decide))) _) ?_
                    refine g_istore (pc9 := 224) C rfl [(5, .int ((iA σ (1)) (d))), (8, .int (nI (1))), (4, .int (nI (0))), (3, .int (nI ((rdU (iA σ 1) (0, 0, 0, iA σ 15) d).2.1))), (2, .int (nI ((rdU (iA σ 1) (0, 0, 0, iA σ 15) d).1))), (0, .ref (w.1 (0))), (1, .int (nI (L)))] dX11_reads_222 (by decide) rfl ?_
                    refine g_iload_n (pc9 := 225) C rfl 4 dX11_reads_224 rfl rfl ?_
                    refine g_if_ne (pc9 := 228) C rfl 260 dX11_reads_225 rfl (fun c_43 => ?_) (fun c_43 => ?_)
                    · replace c_43 := (not_congr (z_eq (by omega))).mp c_43
                      have ho_d : ¬ (rdU (iA σ 1) (0, 0, 0, iA σ 15) d).1 = 0 := by omega
                      refine g_iload (pc9 := 262) C rfl 0 dX11_reads_260 rfl ?_
                      refine g_bipush (pc9 := 264) C rfl (nI (44)) dX11_reads_262 rfl ?_
                      refine g_icmp_ne (pc9 := 267) C rfl 295 dX11_reads_264 rfl (fun c_44 => ?_) (fun c_44 => ?_)
                      · have h44 : ¬ iA σ 1 d = nI 44 := c_44
                        refine g_iload (pc9 := 297) C rfl 0 dX11_reads_295 rfl ?_
                        refine g_bipush (pc9 := 299) C rfl (nI (41)) dX11_reads_297 rfl ?_
                        refine g_icmp_ne (pc9 := 302) C rfl 329 dX11_reads_299 rfl (fun c_45 => ?_) (fun c_45 => ?_)
                        · have hb9 := rd_brx h32_d h44 c_45 hph_c ho_d
                          refine g_aload_n (pc9 := 330) C rfl 5 dX11_reads_329 rfl rfl ?_
                          refine g_iconst (pc9 := 331) C rfl (nI (1)) dX11_reads_330 rfl ?_
                          refine g_callVi (nn := 1) (rest := []) (pc9 := 334) C rfl (0) [.int (nI (1))] rfl dX11_reads_331 (m_X11_wrong l w (sN (sI (sI (sI (sI (sI σ (2) (upd (iA σ 2) 8 (nI ((gwU (iA σ 1) gz d).1)))) (3) (put47 ((gwU (iA σ 1) gz d).2.2.2.1) (iA σ 3) 8 ((gwU (iA σ 1) gz d).1))) (4) (put47 ((gwU (iA σ 1) gz d).2.2.2.2.1) (iA σ 4) 8 ((gwU (iA σ 1) gz d).1))) (14) (op)) (15) ((rdU (iA σ 1) (0, 0, 0, iA σ 15) d).2.2.2)) (0) 22 (nI (d))) 1) gX11_reads_X11_wrong (by decide) (ce_0 w (sN (sI (sI (sI (sI (sI σ (2) (upd (iA σ 2) 8 (nI ((gwU (iA σ 1) gz d).1)))) (3) (put47 ((gwU (iA σ 1) gz d).2.2.2.1) (iA σ 3) 8 ((gwU (iA σ 1) gz d).1))) (4) (put47 ((gwU (iA σ 1) gz d).2.2.2.2.1) (iA σ 4) 8 ((gwU (iA σ 1) gz d).1))) (14) (op)) (15) ((rdU (iA σ 1) (0, 0, 0, iA σ 15) d).2.2.2)) (0) 22 (nI (d)))) rfl rfl rfl rfl rfl (by decide +kernel) ⟨by decide, by decide⟩ rfl (Nat.le_of_ble_eq_true rfl) ⟨by decide, by decide⟩ (fun r_46 σ_46 q_46 => ?_)
                          obtain ⟨qs_46, qr_46⟩ := q_46
                          have hx9 := ex_bad (σ := σ) hpf_d hdL hb9 (by decide)
                          rw [qs_46, qr_46]
                          exact g_ireturn C hr hlk dX11_reads_334 (re_w hx9 (by decide))
                        · have h41 : iA σ 1 d = nI 41 := c_45
                          refine g_aload_n (pc9 := 303) C rfl 5 dX11_reads_302 rfl rfl ?_
                          refine g_get (v := .ref (w.1 (15))) (pc9 := 306) C rfl (0) 24 dX11_reads_303 (by decide) (ce_0 w (sN (sI (sI (sI (sI (sI σ (2) (upd (iA σ 2) 8 (nI ((gwU (iA σ 1) gz d).1)))) (3) (put47 ((gwU (iA σ 1) gz d).2.2.2.1) (iA σ 3) 8 ((gwU (iA σ 1) gz d).1))) (4) (put47 ((gwU (iA σ 1) gz d).2.2.2.2.1) (iA σ 4) 8 ((gwU (iA σ 1) gz d).1))) (14) (op)) (15) ((rdU (iA σ 1) (0, 0, 0, iA σ 15) d).2.2.2)) (0) 22 (nI (d)))) hin_11 hl_60 rfl (by decide) rfl rfl ?_
                          refine g_iload_n (pc9 := 307) C rfl 4 dX11_reads_306 rfl rfl ?_
                          refine g_iconst (pc9 := 308) C rfl (nI (1)) dX11_reads_307 rfl ?_
                          refine g_isubN (pc9 := 309) C rfl dX11_reads_308 (by omega) ?_
                          refine g_iald (x := ((rdU (iA σ 1) (0, 0, 0, iA σ 15) d).2.2.2) (((rdU (iA σ 1) (0, 0, 0, iA σ 15) d).1) - (1))) (pc9 := 310) C rfl (15) (((rdU (iA σ 1) (0, 0, 0, iA σ 15) d).1) - (1)) dX11_reads_309 (by decide) (ce_15 w (sN (sI (sI (sI (sI (sI σ (2) (upd (iA σ 2) 8 (nI ((gwU (iA σ 1) gz d).1)))) (3) (put47 ((gwU (iA σ 1) gz d).2.2.2.1) (iA σ 3) 8 ((gwU (iA σ 1) gz d).1))) (4) (put47 ((gwU (iA σ 1) gz d).2.2.2.2.1) (iA σ 4) 8 ((gwU (iA σ 1) gz d).1))) (14) (op)) (15) ((rdU (iA σ 1) (0, 0, 0, iA σ 15) d).2.2.2)) (0) 22 (nI (d)))) rfl (by omega) (by decide) (congrFun ((iA_N).trans (iA_s)) _) ?_
                          refine g_if_le (pc9 := 313) C rfl 329 dX11_reads_310 rfl (fun c_47 => ?_) (fun c_47 => ?_)
                          · have hb9 := rd_41x h41 hph_c ho_d c_47
                            refine g_aload_n (pc9 := 330) C rfl 5 dX11_reads_329 rfl rfl ?_
                            refine g_iconst (pc9 := 331) C rfl (nI (1)) dX11_reads_330 rfl ?_
                            refine g_callVi (nn := 1) (rest := []) (pc9 := 334) C rfl (0) [.int (nI (1))] rfl dX11_reads_331 (m_X11_wrong l w (sN (sI (sI (sI (sI (sI σ (2) (upd (iA σ 2) 8 (nI ((gwU (iA σ 1) gz d).1)))) (3) (put47 ((gwU (iA σ 1) gz d).2.2.2.1) (iA σ 3) 8 ((gwU (iA σ 1) gz d).1))) (4) (put47 ((gwU (iA σ 1) gz d).2.2.2.2.1) (iA σ 4) 8 ((gwU (iA σ 1) gz d).1))) (14) (op)) (15) ((rdU (iA σ 1) (0, 0, 0, iA σ 15) d).2.2.2)) (0) 22 (nI (d))) 1) gX11_reads_X11_wrong (by decide) (ce_0 w (sN (sI (sI (sI (sI (sI σ (2) (upd (iA σ 2) 8 (nI ((gwU (iA σ 1) gz d).1)))) (3) (put47 ((gwU (iA σ 1) gz d).2.2.2.1) (iA σ 3) 8 ((gwU (iA σ 1) gz d).1))) (4) (put47 ((gwU (iA σ 1) gz d).2.2.2.2.1) (iA σ 4) 8 ((gwU (iA σ 1) gz d).1))) (14) (op)) (15) ((rdU (iA σ 1) (0, 0, 0, iA σ 15) d).2.2.2)) (0) 22 (nI (d)))) rfl rfl rfl rfl rfl (by decide +kernel) ⟨by decide, by decide⟩ rfl (Nat.le_of_ble_eq_true rfl) ⟨by decide, by decide⟩ (fun r_48 σ_48 q_48 => ?_)
                            obtain ⟨qs_48, qr_48⟩ := q_48
                            have hx9 := ex_bad (σ := σ) hpf_d hdL hb9 (by decide)
                            rw [qs_48, qr_48]
                            exact g_ireturn C hr hlk dX11_reads_334 (re_w hx9 (by decide))
                          · have hcm : ¬ (rdU (iA σ 1) (0, 0, 0, iA σ 15) d).2.2.2 ((rdU (iA σ 1) (0, 0, 0, iA σ 15) d).1 - 1) ≤ 0 := c_47
                            refine g_iinc (pc9 := 316) C rfl [(2, .int (nI ((rdU (iA σ 1) (0, 0, 0, iA σ 15) d).1 - 1))), (5, .int ((iA σ (1)) (d))), (8, .int (nI (1))), (4, .int (nI (0))), (3, .int (nI ((rdU (iA σ 1) (0, 0, 0, iA σ 15) d).2.1))), (0, .ref (w.1 (0))), (1, .int (nI (L)))] 4 (nI ((rdU (iA σ 1) (0, 0, 0, iA σ 15) d).1 - 1)) dX11_reads_313 rfl (sb_m1 (by omega)) (by decide) rfl ?_
                            refine g_aload_n (pc9 := 317) C rfl 5 dX11_reads_316 rfl rfl ?_
                            refine g_dup (pc9 := 318) C rfl dX11_reads_317 rfl ?_
                            refine g_get (v := .int (nI (d))) (pc9 := 321) C rfl (0) 22 dX11_reads_318 (by decide) (ce_0 w (sN (sI (sI (sI (sI (sI σ (2) (upd (iA σ 2) 8 (nI ((gwU (iA σ 1) gz d).1)))) (3) (put47 ((gwU (iA σ 1) gz d).2.2.2.1) (iA σ 3) 8 ((gwU (iA σ 1) gz d).1))) (4) (put47 ((gwU (iA σ 1) gz d).2.2.2.2.1) (iA σ 4) 8 ((gwU (iA σ 1) gz d).1))) (14) (op)) (15) ((rdU (iA σ 1) (0, 0, 0, iA σ 15) d).2.2.2)) (0) 22 (nI (d)))) hin_11 hl_141 rfl (by decide) rfl (congrArg (fun z => some (Value.int z)) (nF_s)) ?_
                            refine g_iconst (pc9 := 322) C rfl (nI (1)) dX11_reads_321 rfl ?_
                            refine g_iaddN (pc9 := 323) C rfl dX11_reads_322 ?_
                            refine g_put (pc9 := 326) C rfl (0) 22 dX11_reads_323 (by decide) (ce_0 w (sN (sI (sI (sI (sI (sI σ (2) (upd (iA σ 2) 8 (nI ((gwU (iA σ 1) gz d).1)))) (3) (put47 ((gwU (iA σ 1) gz d).2.2.2.1) (iA σ 3) 8 ((gwU (iA σ 1) gz d).1))) (4) (put47 ((gwU (iA σ 1) gz d).2.2.2.2.1) (iA σ 4) 8 ((gwU (iA σ 1) gz d).1))) (14) (op)) (15) ((rdU (iA σ 1) (0, 0, 0, iA σ 15) d).2.2.2)) (0) 22 (nI (d)))) (rfl) hin_11 hl_141 tyX11 tyX11_ok nmX11 rfl (by decide) rfl rfl rfl (Nat.le_of_ble_eq_true rfl) ?_
                            rw [sN_sN]
                            refine g_goto C 189 dX11_reads_326 rfl ?_
                            refine g_sub [2, 3, 4, 0, 5, 6] [(8, .int (nI (1))), (4, .int (nI (0))), (3, .int (nI ((rdU (iA σ 1) (0, 0, 0, iA σ 15) d).2.1))), (2, .int (nI ((rdU (iA σ 1) (0, 0, 0, iA σ 15) d).1 - 1))), (0, .ref (w.1 (0))), (1, .int (nI (L)))] rfl ?_
                            have e1 : rdU (iA σ 1) (0, 0, 0, iA σ 15) (d + 1) = ((rdU (iA σ 1) (0, 0, 0, iA σ 15) d).1 - 1, (rdU (iA σ 1) (0, 0, 0, iA σ 15) d).2.1, (rdU (iA σ 1) (0, 0, 0, iA σ 15) d).2.2.1, (rdU (iA σ 1) (0, 0, 0, iA σ 15) d).2.2.2) := congrArg Prod.snd (rd_41 h41 hph_c ho_d hcm)
                            have e2 : gwU (iA σ 1) gz (d + 1) = ((gwU (iA σ 1) gz d).1, (gwU (iA σ 1) gz d).2.2.2.1 (gwU (iA σ 1) gz d).2.1.toNatClampNeg, (gwU (iA σ 1) gz d).2.2) := gw_41 h41
                            have hih := ih2 (d + 1) ⟨by omega, by omega, pfx_s hpf_d (by rw [rd_41 h41 hph_c ho_d hcm]; rfl), by rw [e1]; exact hph_c, OPk_close hop_c h41 hph_c ho_d hcm⟩ (by omega)
                            rw [e1, e2] at hih
                            exact hih
                      · have h44 : iA σ 1 d = nI 44 := c_44
                        refine g_aload_n (pc9 := 268) C rfl 5 dX11_reads_267 rfl rfl ?_
                        refine g_get (v := .ref (w.1 (15))) (pc9 := 271) C rfl (0) 24 dX11_reads_268 (by decide) (ce_0 w (sN (sI (sI (sI (sI (sI σ (2) (upd (iA σ 2) 8 (nI ((gwU (iA σ 1) gz d).1)))) (3) (put47 ((gwU (iA σ 1) gz d).2.2.2.1) (iA σ 3) 8 ((gwU (iA σ 1) gz d).1))) (4) (put47 ((gwU (iA σ 1) gz d).2.2.2.2.1) (iA σ 4) 8 ((gwU (iA σ 1) gz d).1))) (14) (op)) (15) ((rdU (iA σ 1) (0, 0, 0, iA σ 15) d).2.2.2)) (0) 22 (nI (d)))) hin_11 hl_60 rfl (by decide) rfl rfl ?_
                        refine g_iload_n (pc9 := 272) C rfl 4 dX11_reads_271 rfl rfl ?_
                        refine g_iconst (pc9 := 273) C rfl (nI (1)) dX11_reads_272 rfl ?_
                        refine g_isubN (pc9 := 274) C rfl dX11_reads_273 (by omega) ?_
                        refine g_dup2 (pc9 := 275) C rfl dX11_reads_274 rfl rfl ?_
                        refine g_iald (x := ((rdU (iA σ 1) (0, 0, 0, iA σ 15) d).2.2.2) (((rdU (iA σ 1) (0, 0, 0, iA σ 15) d).1) - (1))) (pc9 := 276) C rfl (15) (((rdU (iA σ 1) (0, 0, 0, iA σ 15) d).1) - (1)) dX11_reads_275 (by decide) (ce_15 w (sN (sI (sI (sI (sI (sI σ (2) (upd (iA σ 2) 8 (nI ((gwU (iA σ 1) gz d).1)))) (3) (put47 ((gwU (iA σ 1) gz d).2.2.2.1) (iA σ 3) 8 ((gwU (iA σ 1) gz d).1))) (4) (put47 ((gwU (iA σ 1) gz d).2.2.2.2.1) (iA σ 4) 8 ((gwU (iA σ 1) gz d).1))) (14) (op)) (15) ((rdU (iA σ 1) (0, 0, 0, iA σ 15) d).2.2.2)) (0) 22 (nI (d)))) rfl (by omega) (by decide) (congrFun ((iA_N).trans (iA_s)) _) ?_
                        refine g_iconst (pc9 := 277) C rfl (nI (1)) dX11_reads_276 rfl ?_
                        refine g_iadd (pc9 := 278) C rfl dX11_reads_277 ?_
                        refine g_iast (pc9 := 279) C rfl (15) (((rdU (iA σ 1) (0, 0, 0, iA σ 15) d).1) - (1)) ((rdU (iA σ 1) (0, 0, 0, iA σ 15) d).2.2.2) dX11_reads_278 (by decide) (fun _ => rfl) (ce_15 w (sN (sI (sI (sI (sI (sI σ (2) (upd (iA σ 2) 8 (nI ((gwU (iA σ 1) gz d).1)))) (3) (put47 ((gwU (iA σ 1) gz d).2.2.2.1) (iA σ 3) 8 ((gwU (iA σ 1) gz d).1))) (4) (put47 ((gwU (iA σ 1) gz d).2.2.2.2.1) (iA σ 4) 8 ((gwU (iA σ 1) gz d).1))) (14) (op)) (15) ((rdU (iA σ 1) (0, 0, 0, iA σ 15) d).2.2.2)) (0) 22 (nI (d)))) rfl (by omega) (by decide) ((iA_N).trans (iA_s)) ?_
                        rw [sI_sN (a := 0) (k := 22) (b := 15), sI_sI (a := 15)]
                        refine g_aload_n (pc9 := 280) C rfl 5 dX11_reads_279 rfl rfl ?_
                        refine g_dup (pc9 := 281) C rfl dX11_reads_280 rfl ?_
                        refine g_get (v := .int (nI (d))) (pc9 := 284) C rfl (0) 22 dX11_reads_281 (by decide) (ce_0 w (sN (sI (sI (sI (sI (sI σ (2) (upd (iA σ 2) 8 (nI ((gwU (iA σ 1) gz d).1)))) (3) (put47 ((gwU (iA σ 1) gz d).2.2.2.1) (iA σ 3) 8 ((gwU (iA σ 1) gz d).1))) (4) (put47 ((gwU (iA σ 1) gz d).2.2.2.2.1) (iA σ 4) 8 ((gwU (iA σ 1) gz d).1))) (14) (op)) (15) (upd ((rdU (iA σ 1) (0, 0, 0, iA σ 15) d).2.2.2) (((rdU (iA σ 1) (0, 0, 0, iA σ 15) d).1) - (1)) ((((rdU (iA σ 1) (0, 0, 0, iA σ 15) d).2.2.2) (((rdU (iA σ 1) (0, 0, 0, iA σ 15) d).1) - (1))) + (nI (1))))) (0) 22 (nI (d)))) hin_11 hl_141 rfl (by decide) rfl (congrArg (fun z => some (Value.int z)) (nF_s)) ?_
                        refine g_iconst (pc9 := 285) C rfl (nI (1)) dX11_reads_284 rfl ?_
                        refine g_iaddN (pc9 := 286) C rfl dX11_reads_285 ?_
                        refine g_put (pc9 := 289) C rfl (0) 22 dX11_reads_286 (by decide) (ce_0 w (sN (sI (sI (sI (sI (sI σ (2) (upd (iA σ 2) 8 (nI ((gwU (iA σ 1) gz d).1)))) (3) (put47 ((gwU (iA σ 1) gz d).2.2.2.1) (iA σ 3) 8 ((gwU (iA σ 1) gz d).1))) (4) (put47 ((gwU (iA σ 1) gz d).2.2.2.2.1) (iA σ 4) 8 ((gwU (iA σ 1) gz d).1))) (14) (op)) (15) (upd ((rdU (iA σ 1) (0, 0, 0, iA σ 15) d).2.2.2) (((rdU (iA σ 1) (0, 0, 0, iA σ 15) d).1) - (1)) ((((rdU (iA σ 1) (0, 0, 0, iA σ 15) d).2.2.2) (((rdU (iA σ 1) (0, 0, 0, iA σ 15) d).1) - (1))) + (nI (1))))) (0) 22 (nI (d)))) (rfl) hin_11 hl_141 tyX11 tyX11_ok nmX11 rfl (by decide) rfl rfl rfl (Nat.le_of_ble_eq_true rfl) ?_
                        rw [sN_sN]
                        refine g_iconst (pc9 := 290) C rfl (nI (0)) dX11_reads_289 rfl ?_
                        refine g_istore (pc9 := 292) C rfl [(8, .int (nI (0))), (5, .int ((iA σ (1)) (d))), (4, .int (nI (0))), (3, .int (nI ((rdU (iA σ 1) (0, 0, 0, iA σ 15) d).2.1))), (2, .int (nI ((rdU (iA σ 1) (0, 0, 0, iA σ 15) d).1))), (0, .ref (w.1 (0))), (1, .int (nI (L)))] dX11_reads_290 (by decide) rfl ?_
                        refine g_goto C 189 dX11_reads_292 rfl ?_
                        refine g_iload (pc9 := 191) C rfl 0 dX11_reads_189 rfl ?_
                        refine g_if_eq (pc9 := 194) C rfl 335 dX11_reads_191 rfl (fun c_49 => ?_) (fun c_49 => ?_)
                        · refine g_goto C 20 dX11_reads_335 rfl ?_
                          refine g_sub [2, 3, 4, 5, 6] [(4, .int (nI (0))), (3, .int (nI ((rdU (iA σ 1) (0, 0, 0, iA σ 15) d).2.1))), (2, .int (nI ((rdU (iA σ 1) (0, 0, 0, iA σ 15) d).1))), (0, .ref (w.1 (0))), (1, .int (nI (L)))] rfl ?_
                          have e1 : rdU (iA σ 1) (0, 0, 0, iA σ 15) (d + 1) = ((rdU (iA σ 1) (0, 0, 0, iA σ 15) d).1, (rdU (iA σ 1) (0, 0, 0, iA σ 15) d).2.1, 0, upd (rdU (iA σ 1) (0, 0, 0, iA σ 15) d).2.2.2 ((rdU (iA σ 1) (0, 0, 0, iA σ 15) d).1 - 1) ((rdU (iA σ 1) (0, 0, 0, iA σ 15) d).2.2.2 ((rdU (iA σ 1) (0, 0, 0, iA σ 15) d).1 - 1) + nI 1)) := congrArg Prod.snd (rd_44 h44 hph_c ho_d)
                          have e2 : gwU (iA σ 1) gz (d + 1) = (gwU (iA σ 1) gz d) := gw_skip (by rw [h44]; decide) (by rw [h44]; decide) (by rw [h44]; decide)
                          have hih := ih (d + 1) op ⟨by omega, pfx_s hpf_d (by rw [rd_44 h44 hph_c ho_d]; rfl), by rw [e1], by rw [e1, e2]; exact hop_c⟩ (by omega)
                          rw [e1, e2] at hih
                          exact hih
                        · exact absurd c_49 (by decide)
                    · replace c_43 := (z_eq (by omega)).mp c_43
                      have ho_d : (rdU (iA σ 1) (0, 0, 0, iA σ 15) d).1 = 0 := by omega
                      refine g_iload (pc9 := 230) C rfl 0 dX11_reads_228 rfl ?_
                      refine g_bipush (pc9 := 232) C rfl (nI (59)) dX11_reads_230 rfl ?_
                      refine g_icmp_eq (pc9 := 235) C rfl 241 dX11_reads_232 rfl (fun c_50 => ?_) (fun c_50 => ?_)
                      · have h59 : iA σ 1 d = nI 59 := c_50
                        refine g_aload_n (pc9 := 242) C rfl 5 dX11_reads_241 rfl rfl ?_
                        refine g_dup (pc9 := 243) C rfl dX11_reads_242 rfl ?_
                        refine g_get (v := .int (nI (d))) (pc9 := 246) C rfl (0) 22 dX11_reads_243 (by decide) (ce_0 w (sN (sI (sI (sI (sI (sI σ (2) (upd (iA σ 2) 8 (nI ((gwU (iA σ 1) gz d).1)))) (3) (put47 ((gwU (iA σ 1) gz d).2.2.2.1) (iA σ 3) 8 ((gwU (iA σ 1) gz d).1))) (4) (put47 ((gwU (iA σ 1) gz d).2.2.2.2.1) (iA σ 4) 8 ((gwU (iA σ 1) gz d).1))) (14) (op)) (15) ((rdU (iA σ 1) (0, 0, 0, iA σ 15) d).2.2.2)) (0) 22 (nI (d)))) hin_11 hl_141 rfl (by decide) rfl (congrArg (fun z => some (Value.int z)) (nF_s)) ?_
                        refine g_iconst (pc9 := 247) C rfl (nI (1)) dX11_reads_246 rfl ?_
                        refine g_iaddN (pc9 := 248) C rfl dX11_reads_247 ?_
                        refine g_put (pc9 := 251) C rfl (0) 22 dX11_reads_248 (by decide) (ce_0 w (sN (sI (sI (sI (sI (sI σ (2) (upd (iA σ 2) 8 (nI ((gwU (iA σ 1) gz d).1)))) (3) (put47 ((gwU (iA σ 1) gz d).2.2.2.1) (iA σ 3) 8 ((gwU (iA σ 1) gz d).1))) (4) (put47 ((gwU (iA σ 1) gz d).2.2.2.2.1) (iA σ 4) 8 ((gwU (iA σ 1) gz d).1))) (14) (op)) (15) ((rdU (iA σ 1) (0, 0, 0, iA σ 15) d).2.2.2)) (0) 22 (nI (d)))) (rfl) hin_11 hl_141 tyX11 tyX11_ok nmX11 rfl (by decide) rfl rfl rfl (Nat.le_of_ble_eq_true rfl) ?_
                        rw [sN_sN]
                        refine g_iconst (pc9 := 252) C rfl (nI (1)) dX11_reads_251 rfl ?_
                        refine g_istore (pc9 := 254) C rfl [(4, .int (nI (1))), (5, .int ((iA σ (1)) (d))), (8, .int (nI (1))), (3, .int (nI ((rdU (iA σ 1) (0, 0, 0, iA σ 15) d).2.1))), (2, .int (nI ((rdU (iA σ 1) (0, 0, 0, iA σ 15) d).1))), (0, .ref (w.1 (0))), (1, .int (nI (L)))] dX11_reads_252 (by decide) rfl ?_
                        refine g_iconst (pc9 := 255) C rfl (nI (0)) dX11_reads_254 rfl ?_
                        refine g_istore (pc9 := 257) C rfl [(8, .int (nI (0))), (4, .int (nI (1))), (5, .int ((iA σ (1)) (d))), (3, .int (nI ((rdU (iA σ 1) (0, 0, 0, iA σ 15) d).2.1))), (2, .int (nI ((rdU (iA σ 1) (0, 0, 0, iA σ 15) d).1))), (0, .ref (w.1 (0))), (1, .int (nI (L)))] dX11_reads_255 (by decide) rfl ?_
                        refine g_goto C 189 dX11_reads_257 rfl ?_
                        refine g_iload (pc9 := 191) C rfl 0 dX11_reads_189 rfl ?_
                        refine g_if_eq (pc9 := 194) C rfl 335 dX11_reads_191 rfl (fun c_51 => ?_) (fun c_51 => ?_)
                        · refine g_goto C 20 dX11_reads_335 rfl ?_
                          refine g_iload (pc9 := 22) C rfl 1 dX11_reads_20 rfl ?_
                          refine g_if_ne (pc9 := 25) C rfl 338 dX11_reads_22 rfl (fun c_52 => ?_) (fun c_52 => ?_)
                          · refine g_sub [1, 3, 4, 5, 6] [(4, .int (nI (1))), (3, .int (nI ((rdU (iA σ 1) (0, 0, 0, iA σ 15) d).2.1))), (2, .int (nI ((rdU (iA σ 1) (0, 0, 0, iA σ 15) d).1))), (0, .ref (w.1 (0))), (1, .int (nI (L)))] rfl ?_
                            have e1 : rdU (iA σ 1) (0, 0, 0, iA σ 15) (d + 1) = ((rdU (iA σ 1) (0, 0, 0, iA σ 15) d).1, (rdU (iA σ 1) (0, 0, 0, iA σ 15) d).2.1, 2, (rdU (iA σ 1) (0, 0, 0, iA σ 15) d).2.2.2) := congrArg Prod.snd (rd_59 h59 hph_c ho_d)
                            have e2 : gwU (iA σ 1) gz (d + 1) = (gwU (iA σ 1) gz d) := gw_skip (by rw [h59]; decide) (by rw [h59]; decide) (by rw [h59]; decide)
                            have hpf_f := pfx_s hpf_d (by rw [rd_59 h59 hph_c ho_d]; rfl)
                            have hph_f : (rdU (iA σ 1) (0, 0, 0, iA σ 15) (d + 1)).2.2.1 = 2 := by rw [e1]
                            suffices hgo : G p l e _ s m args below meth c _ w A _ (sN (sI (sI (sI (sI (sI σ (2) (upd (iA σ 2) 8 (nI ((gwU (iA σ 1) gz (d + 1)).1)))) (3) (put47 ((gwU (iA σ 1) gz (d + 1)).2.2.2.1) (iA σ 3) 8 ((gwU (iA σ 1) gz (d + 1)).1))) (4) (put47 ((gwU (iA σ 1) gz (d + 1)).2.2.2.2.1) (iA σ 4) 8 ((gwU (iA σ 1) gz (d + 1)).1))) (14) (op)) (15) ((rdU (iA σ 1) (0, 0, 0, iA σ 15) (d + 1)).2.2.2)) (0) 22 (nI ((d + 1)))) 0 0 338 [(4, .int (nI (1))), (3, .int (nI ((rdU (iA σ 1) (0, 0, 0, iA σ 15) (d + 1)).2.1))), (2, .int (nI ((rdU (iA σ 1) (0, 0, 0, iA σ 15) (d + 1)).1))), (0, .ref (w.1 (0))), (1, .int (nI (L)))] [] from by
                              rw [e1, e2] at hgo
                              exact hgo
                            refine g_aload_n (pc9 := 339) C rfl 3 dX11_reads_338 rfl rfl ?_
                            refine g_iload_n (pc9 := 340) C rfl 4 dX11_reads_339 rfl rfl ?_
                            refine g_callVv (nn := 1) (rest := []) (pc9 := 343) C rfl (0) [.int (nI (L))] rfl dX11_reads_340 (m_X11_blanks l w (sN (sI (sI (sI (sI (sI σ (2) (upd (iA σ 2) 8 (nI ((gwU (iA σ 1) gz (d + 1)).1)))) (3) (put47 ((gwU (iA σ 1) gz (d + 1)).2.2.2.1) (iA σ 3) 8 ((gwU (iA σ 1) gz (d + 1)).1))) (4) (put47 ((gwU (iA σ 1) gz (d + 1)).2.2.2.2.1) (iA σ 4) 8 ((gwU (iA σ 1) gz (d + 1)).1))) (14) (op)) (15) ((rdU (iA σ 1) (0, 0, 0, iA σ 15) (d + 1)).2.2.2)) (0) 22 (nI ((d + 1)))) (d + 1) L ((nF_s)) (by omega) hL4) gX11_reads_X11_blanks (by decide) (ce_0 w (sN (sI (sI (sI (sI (sI σ (2) (upd (iA σ 2) 8 (nI ((gwU (iA σ 1) gz (d + 1)).1)))) (3) (put47 ((gwU (iA σ 1) gz (d + 1)).2.2.2.1) (iA σ 3) 8 ((gwU (iA σ 1) gz (d + 1)).1))) (4) (put47 ((gwU (iA σ 1) gz (d + 1)).2.2.2.2.1) (iA σ 4) 8 ((gwU (iA σ 1) gz (d + 1)).1))) (14) (op)) (15) ((rdU (iA σ 1) (0, 0, 0, iA σ 15) (d + 1)).2.2.2)) (0) 22 (nI ((d + 1))))) rfl rfl rfl rfl rfl (by decide +kernel) ⟨by decide, by decide⟩ rfl (Nat.le_of_ble_eq_true rfl) ⟨by decide, by decide⟩ (fun σ_53 q_53 => ?_)
                            obtain ⟨g, hb1_g, hb2_g, hb3_g, hb4_g, qs_53⟩ := q_53
                            replace hb3_g : ∀ u, (d + 1) ≤ u → u < g → iA σ 1 u = nI 32 := hb3_g
                            replace hb4_g : g < L → ¬ iA σ 1 g = nI 32 := hb4_g
                            obtain ⟨eb1_g, eb2_g, eb3_g⟩ := blk (f := iA σ 1) (r := (0, 0, 0, iA σ 15)) (q := gz) g hb1_g hb3_g
                            rw [qs_53, sN_sN, ← eb1_g, ← eb2_g]
                            have hpf_g := eb3_g hpf_f
                            rw [← eb1_g] at hph_f
                            refine g_aload_n (pc9 := 344) C rfl 3 dX11_reads_343 rfl rfl ?_
                            refine g_get (v := .int (nI (g))) (pc9 := 347) C rfl (0) 22 dX11_reads_344 (by decide) (ce_0 w (sN (sI (sI (sI (sI (sI σ (2) (upd (iA σ 2) 8 (nI ((gwU (iA σ 1) gz g).1)))) (3) (put47 ((gwU (iA σ 1) gz g).2.2.2.1) (iA σ 3) 8 ((gwU (iA σ 1) gz g).1))) (4) (put47 ((gwU (iA σ 1) gz g).2.2.2.2.1) (iA σ 4) 8 ((gwU (iA σ 1) gz g).1))) (14) (op)) (15) ((rdU (iA σ 1) (0, 0, 0, iA σ 15) g).2.2.2)) (0) 22 (nI (g)))) hin_11 hl_141 rfl (by decide) rfl (congrArg (fun z => some (Value.int z)) (nF_s)) ?_
                            refine g_iload_n (pc9 := 348) C rfl 4 dX11_reads_347 rfl rfl ?_
                            refine g_icmp_ge (pc9 := 351) C rfl 359 dX11_reads_348 rfl (fun c_54 => ?_) (fun c_54 => ?_)
                            · replace c_54 := (nI_leI (by omega) (by omega)).mp c_54
                              have hgL : g = L := by omega
                              refine g_iload_n (pc9 := 360) C rfl 1 dX11_reads_359 rfl rfl ?_
                              exact g_ireturn C hr hlk dX11_reads_360 (by subst hgL; exact Or.inl ⟨ex_good hpf_g hph_f, rfl, _, _, _, rfl⟩)
                            · replace c_54 := (not_congr (nI_leI (by omega) (by omega))).mp c_54
                              have hgL : g < L := by omega
                              have h32_g := hb4_g hgL
                              refine g_aload_n (pc9 := 352) C rfl 3 dX11_reads_351 rfl rfl ?_
                              refine g_iconst (pc9 := 353) C rfl (nI (1)) dX11_reads_352 rfl ?_
                              refine g_callVi (nn := 1) (rest := []) (pc9 := 356) C rfl (0) [.int (nI (1))] rfl dX11_reads_353 (m_X11_wrong l w (sN (sI (sI (sI (sI (sI σ (2) (upd (iA σ 2) 8 (nI ((gwU (iA σ 1) gz g).1)))) (3) (put47 ((gwU (iA σ 1) gz g).2.2.2.1) (iA σ 3) 8 ((gwU (iA σ 1) gz g).1))) (4) (put47 ((gwU (iA σ 1) gz g).2.2.2.2.1) (iA σ 4) 8 ((gwU (iA σ 1) gz g).1))) (14) (op)) (15) ((rdU (iA σ 1) (0, 0, 0, iA σ 15) g).2.2.2)) (0) 22 (nI (g))) 1) gX11_reads_X11_wrong (by decide) (ce_0 w (sN (sI (sI (sI (sI (sI σ (2) (upd (iA σ 2) 8 (nI ((gwU (iA σ 1) gz g).1)))) (3) (put47 ((gwU (iA σ 1) gz g).2.2.2.1) (iA σ 3) 8 ((gwU (iA σ 1) gz g).1))) (4) (put47 ((gwU (iA σ 1) gz g).2.2.2.2.1) (iA σ 4) 8 ((gwU (iA σ 1) gz g).1))) (14) (op)) (15) ((rdU (iA σ 1) (0, 0, 0, iA σ 15) g).2.2.2)) (0) 22 (nI (g)))) rfl rfl rfl rfl rfl (by decide +kernel) ⟨by decide, by decide⟩ rfl (Nat.le_of_ble_eq_true rfl) ⟨by decide, by decide⟩ (fun r_55 σ_55 q_55 => ?_)
                              obtain ⟨qs_55, qr_55⟩ := q_55
                              have hx9 := ex_bad (σ := σ) hpf_g hgL (rd_2x h32_g hph_f) (by decide)
                              rw [qs_55, qr_55]
                              refine g_goto C 360 dX11_reads_356 rfl ?_
                              exact g_ireturn C hr hlk dX11_reads_360 (re_w hx9 (by decide))
                          · exact absurd c_52 (by decide)
                        · exact absurd c_51 (by decide)
                      · have h59 : ¬ iA σ 1 d = nI 59 := c_50
                        refine g_aload_n (pc9 := 236) C rfl 5 dX11_reads_235 rfl rfl ?_
                        refine g_iconst (pc9 := 237) C rfl (nI (1)) dX11_reads_236 rfl ?_
                        refine g_callVi (nn := 1) (rest := []) (pc9 := 240) C rfl (0) [.int (nI (1))] rfl dX11_reads_237 (m_X11_wrong l w (sN (sI (sI (sI (sI (sI σ (2) (upd (iA σ 2) 8 (nI ((gwU (iA σ 1) gz d).1)))) (3) (put47 ((gwU (iA σ 1) gz d).2.2.2.1) (iA σ 3) 8 ((gwU (iA σ 1) gz d).1))) (4) (put47 ((gwU (iA σ 1) gz d).2.2.2.2.1) (iA σ 4) 8 ((gwU (iA σ 1) gz d).1))) (14) (op)) (15) ((rdU (iA σ 1) (0, 0, 0, iA σ 15) d).2.2.2)) (0) 22 (nI (d))) 1) gX11_reads_X11_wrong (by decide) (ce_0 w (sN (sI (sI (sI (sI (sI σ (2) (upd (iA σ 2) 8 (nI ((gwU (iA σ 1) gz d).1)))) (3) (put47 ((gwU (iA σ 1) gz d).2.2.2.1) (iA σ 3) 8 ((gwU (iA σ 1) gz d).1))) (4) (put47 ((gwU (iA σ 1) gz d).2.2.2.2.1) (iA σ 4) 8 ((gwU (iA σ 1) gz d).1))) (14) (op)) (15) ((rdU (iA σ 1) (0, 0, 0, iA σ 15) d).2.2.2)) (0) 22 (nI (d)))) rfl rfl rfl rfl rfl (by decide +kernel) ⟨by decide, by decide⟩ rfl (Nat.le_of_ble_eq_true rfl) ⟨by decide, by decide⟩ (fun r_56 σ_56 q_56 => ?_)
                        obtain ⟨qs_56, qr_56⟩ := q_56
                        have hx9 := ex_bad (σ := σ) hpf_d hdL (rd_59x h32_d h59 hph_c ho_d) (by decide)
                        rw [qs_56, qr_56]
                        exact g_ireturn C hr hlk dX11_reads_240 (re_w hx9 (by decide))
                  · replace c_42 := (nI_eq (by omega) (by omega)).mp c_42
                    have hdL : d = L := by omega
                    refine g_aload_n (pc9 := 208) C rfl 4 dX11_reads_207 rfl rfl ?_
                    refine g_iconst (pc9 := 209) C rfl (nI (1)) dX11_reads_208 rfl ?_
                    refine g_callVi (nn := 1) (rest := []) (pc9 := 212) C rfl (0) [.int (nI (1))] rfl dX11_reads_209 (m_X11_wrong l w (sN (sI (sI (sI (sI (sI σ (2) (upd (iA σ 2) 8 (nI ((gwU (iA σ 1) gz d).1)))) (3) (put47 ((gwU (iA σ 1) gz d).2.2.2.1) (iA σ 3) 8 ((gwU (iA σ 1) gz d).1))) (4) (put47 ((gwU (iA σ 1) gz d).2.2.2.2.1) (iA σ 4) 8 ((gwU (iA σ 1) gz d).1))) (14) (op)) (15) ((rdU (iA σ 1) (0, 0, 0, iA σ 15) d).2.2.2)) (0) 22 (nI (d))) 1) gX11_reads_X11_wrong (by decide) (ce_0 w (sN (sI (sI (sI (sI (sI σ (2) (upd (iA σ 2) 8 (nI ((gwU (iA σ 1) gz d).1)))) (3) (put47 ((gwU (iA σ 1) gz d).2.2.2.1) (iA σ 3) 8 ((gwU (iA σ 1) gz d).1))) (4) (put47 ((gwU (iA σ 1) gz d).2.2.2.2.1) (iA σ 4) 8 ((gwU (iA σ 1) gz d).1))) (14) (op)) (15) ((rdU (iA σ 1) (0, 0, 0, iA σ 15) d).2.2.2)) (0) 22 (nI (d)))) rfl rfl rfl rfl rfl (by decide +kernel) ⟨by decide, by decide⟩ rfl (Nat.le_of_ble_eq_true rfl) ⟨by decide, by decide⟩ (fun r_57 σ_57 q_57 => ?_)
                    obtain ⟨qs_57, qr_57⟩ := q_57
                    have hx9 := (fun (q9 : (mX σ L).1 = nI 1 ∧ (mX σ L).2.1 = nI L) => (⟨q9.1, q9.2.trans (congrArg nI hdL.symm)⟩ : (mX σ L).1 = nI 1 ∧ (mX σ L).2.1 = nI d)) (ex_end (σ := σ) (L := L) (r := (rdU (iA σ 1) (0, 0, 0, iA σ 15) d)) (by rw [← hdL]; exact hpf_d) (by rw [hdL]) (by rw [hph_c]; decide))
                    rw [qs_57, qr_57]
                    exact g_ireturn C hr hlk dX11_reads_212 (re_w hx9 (by decide))
              · replace c_38 := (nI_eq (by omega) (by omega)).mp c_38
                refine g_aload_n (pc9 := 155) C rfl 5 dX11_reads_154 rfl rfl ?_
                refine g_iconst (pc9 := 156) C rfl (nI (2)) dX11_reads_155 rfl ?_
                refine g_callVi (nn := 1) (rest := []) (pc9 := 159) C rfl (0) [.int (nI (2))] rfl dX11_reads_156 (m_X11_wrong l w (sN (sI (sI (sI (sI (sI σ (2) (upd (iA σ 2) 8 (nI ((gwU (iA σ 1) gz b).1)))) (3) (put47 ((gwU (iA σ 1) gz b).2.2.2.1) (iA σ 3) 8 ((gwU (iA σ 1) gz b).1))) (4) (put47 ((gwU (iA σ 1) gz b).2.2.2.2.1) (iA σ 4) 8 ((gwU (iA σ 1) gz b).1))) (14) (op)) (15) ((rdU (iA σ 1) (0, 0, 0, iA σ 15) b).2.2.2)) (0) 22 (nI (b))) 2) gX11_reads_X11_wrong (by decide) (ce_0 w (sN (sI (sI (sI (sI (sI σ (2) (upd (iA σ 2) 8 (nI ((gwU (iA σ 1) gz b).1)))) (3) (put47 ((gwU (iA σ 1) gz b).2.2.2.1) (iA σ 3) 8 ((gwU (iA σ 1) gz b).1))) (4) (put47 ((gwU (iA σ 1) gz b).2.2.2.2.1) (iA σ 4) 8 ((gwU (iA σ 1) gz b).1))) (14) (op)) (15) ((rdU (iA σ 1) (0, 0, 0, iA σ 15) b).2.2.2)) (0) 22 (nI (b)))) rfl rfl rfl rfl rfl (by decide +kernel) ⟨by decide, by decide⟩ rfl (Nat.le_of_ble_eq_true rfl) ⟨by decide, by decide⟩ (fun r_58 σ_58 q_58 => ?_)
                obtain ⟨qs_58, qr_58⟩ := q_58
                have hx9 := ex_bad (σ := σ) hpf_b hbL (rd_letx hle hph (by omega)) (by decide)
                rw [qs_58, qr_58]
                exact g_ireturn C hr hlk dX11_reads_159 (re_w hx9 (by decide))
            · have hnl : ¬ letP (iA σ 1 b) := gt_108 c_37
              refine g_aload_n (pc9 := 143) C rfl 5 dX11_reads_142 rfl rfl ?_
              refine g_iconst (pc9 := 144) C rfl (nI (1)) dX11_reads_143 rfl ?_
              refine g_callVi (nn := 1) (rest := []) (pc9 := 147) C rfl (0) [.int (nI (1))] rfl dX11_reads_144 (m_X11_wrong l w (sN (sI (sI (sI (sI (sI σ (2) (upd (iA σ 2) 8 (nI ((gwU (iA σ 1) gz b).1)))) (3) (put47 ((gwU (iA σ 1) gz b).2.2.2.1) (iA σ 3) 8 ((gwU (iA σ 1) gz b).1))) (4) (put47 ((gwU (iA σ 1) gz b).2.2.2.2.1) (iA σ 4) 8 ((gwU (iA σ 1) gz b).1))) (14) (op)) (15) ((rdU (iA σ 1) (0, 0, 0, iA σ 15) b).2.2.2)) (0) 22 (nI (b))) 1) gX11_reads_X11_wrong (by decide) (ce_0 w (sN (sI (sI (sI (sI (sI σ (2) (upd (iA σ 2) 8 (nI ((gwU (iA σ 1) gz b).1)))) (3) (put47 ((gwU (iA σ 1) gz b).2.2.2.1) (iA σ 3) 8 ((gwU (iA σ 1) gz b).1))) (4) (put47 ((gwU (iA σ 1) gz b).2.2.2.2.1) (iA σ 4) 8 ((gwU (iA σ 1) gz b).1))) (14) (op)) (15) ((rdU (iA σ 1) (0, 0, 0, iA σ 15) b).2.2.2)) (0) 22 (nI (b)))) rfl rfl rfl rfl rfl (by decide +kernel) ⟨by decide, by decide⟩ rfl (Nat.le_of_ble_eq_true rfl) ⟨by decide, by decide⟩ (fun r_59 σ_59 q_59 => ?_)
              obtain ⟨qs_59, qr_59⟩ := q_59
              have hx9 := ex_bad (σ := σ) hpf_b hbL (rd_nox h32 h40 hnl hph) (by decide)
              rw [qs_59, qr_59]
              exact g_ireturn C hr hlk dX11_reads_147 (re_w hx9 (by decide))
        · have h40 : iA σ 1 b = nI 40 := c_34
          refine g_iload_n (pc9 := 81) C rfl 4 dX11_reads_80 rfl rfl ?_
          refine g_bipush (pc9 := 83) C rfl (nI (23)) dX11_reads_81 rfl ?_
          refine g_icmp_ne (pc9 := 86) C rfl 92 dX11_reads_83 rfl (fun c_60 => ?_) (fun c_60 => ?_)
          · replace c_60 := (not_congr (nI_eq (by omega) (by omega))).mp c_60
            refine g_aload_n (pc9 := 93) C rfl 5 dX11_reads_92 rfl rfl ?_
            refine g_get (v := .ref (w.1 (14))) (pc9 := 96) C rfl (0) 23 dX11_reads_93 (by decide) (ce_0 w (sN (sI (sI (sI (sI (sI σ (2) (upd (iA σ 2) 8 (nI ((gwU (iA σ 1) gz b).1)))) (3) (put47 ((gwU (iA σ 1) gz b).2.2.2.1) (iA σ 3) 8 ((gwU (iA σ 1) gz b).1))) (4) (put47 ((gwU (iA σ 1) gz b).2.2.2.2.1) (iA σ 4) 8 ((gwU (iA σ 1) gz b).1))) (14) (op)) (15) ((rdU (iA σ 1) (0, 0, 0, iA σ 15) b).2.2.2)) (0) 22 (nI (b)))) hin_11 hl_57 rfl (by decide) rfl rfl ?_
            refine g_iload_n (pc9 := 97) C rfl 4 dX11_reads_96 rfl rfl ?_
            refine g_aload_n (pc9 := 98) C rfl 5 dX11_reads_97 rfl rfl ?_
            refine g_iload (pc9 := 100) C rfl 0 dX11_reads_98 rfl ?_
            refine g_iconst (pc9 := 101) C rfl ((-1)) dX11_reads_100 rfl ?_
            refine g_callVi (nn := 2) (rest := [.int (nI ((rdU (iA σ 1) (0, 0, 0, iA σ 15) b).1)), .ref (w.1 (14))]) (pc9 := 104) C rfl (0) [.int ((gwU (iA σ 1) gz b).2.1), .int ((-1))] rfl dX11_reads_101 (m_X11_draft l w (sN (sI (sI (sI (sI (sI σ (2) (upd (iA σ 2) 8 (nI ((gwU (iA σ 1) gz b).1)))) (3) (put47 ((gwU (iA σ 1) gz b).2.2.2.1) (iA σ 3) 8 ((gwU (iA σ 1) gz b).1))) (4) (put47 ((gwU (iA σ 1) gz b).2.2.2.2.1) (iA σ 4) 8 ((gwU (iA σ 1) gz b).1))) (14) (op)) (15) ((rdU (iA σ 1) (0, 0, 0, iA σ 15) b).2.2.2)) (0) 22 (nI (b))) (gwU (iA σ 1) gz b).1 (upd_8 (iA σ 2) (nI (gwU (iA σ 1) gz b).1)) hop.2.2.2.2.2 _ _) gX11_reads_X11_draft (by decide) (ce_0 w (sN (sI (sI (sI (sI (sI σ (2) (upd (iA σ 2) 8 (nI ((gwU (iA σ 1) gz b).1)))) (3) (put47 ((gwU (iA σ 1) gz b).2.2.2.1) (iA σ 3) 8 ((gwU (iA σ 1) gz b).1))) (4) (put47 ((gwU (iA σ 1) gz b).2.2.2.2.1) (iA σ 4) 8 ((gwU (iA σ 1) gz b).1))) (14) (op)) (15) ((rdU (iA σ 1) (0, 0, 0, iA σ 15) b).2.2.2)) (0) 22 (nI (b)))) rfl rfl rfl rfl rfl (by decide +kernel) ⟨by decide, by decide⟩ rfl (Nat.le_of_ble_eq_true rfl) ⟨by decide, by decide⟩ (fun r_61 σ_61 q_61 => ?_)
            obtain ⟨qs_61, qr_61⟩ := q_61
            replace qs_61 : σ_61 = sN (sI (sI (sI (sI (sI σ (2) (upd (iA σ 2) 8 (nI ((gwU (iA σ 1) gz b).1 + 1)))) (3) (put47 (upd (gwU (iA σ 1) gz b).2.2.2.1 (gwU (iA σ 1) gz b).1 ((gwU (iA σ 1) gz b).2.1)) (iA σ 3) 8 ((gwU (iA σ 1) gz b).1 + 1))) (4) (put47 (upd (gwU (iA σ 1) gz b).2.2.2.2.1 (gwU (iA σ 1) gz b).1 (-1)) (iA σ 4) 8 ((gwU (iA σ 1) gz b).1 + 1))) (14) (op)) (15) ((rdU (iA σ 1) (0, 0, 0, iA σ 15) b).2.2.2)) (0) 22 (nI (b)) := qs_61.trans drS_rdM
            rw [qs_61, qr_61]
            refine g_iast (pc9 := 105) C rfl (14) ((rdU (iA σ 1) (0, 0, 0, iA σ 15) b).1) (op) dX11_reads_104 (by decide) (fun _ => rfl) (ce_14 w (sN (sI (sI (sI (sI (sI σ (2) (upd (iA σ 2) 8 (nI ((gwU (iA σ 1) gz b).1 + 1)))) (3) (put47 (upd (gwU (iA σ 1) gz b).2.2.2.1 (gwU (iA σ 1) gz b).1 ((gwU (iA σ 1) gz b).2.1)) (iA σ 3) 8 ((gwU (iA σ 1) gz b).1 + 1))) (4) (put47 (upd (gwU (iA σ 1) gz b).2.2.2.2.1 (gwU (iA σ 1) gz b).1 (-1)) (iA σ 4) 8 ((gwU (iA σ 1) gz b).1 + 1))) (14) (op)) (15) ((rdU (iA σ 1) (0, 0, 0, iA σ 15) b).2.2.2)) (0) 22 (nI (b)))) rfl (by omega) (by decide) (((iA_N).trans (iA_n (by decide))).trans (iA_s)) ?_
            rw [sI_sN (a := 0) (k := 22) (b := 14), sI_cm (a := 15) (b := 14) (by decide), sI_sI (a := 14)]
            refine g_aload_n (pc9 := 106) C rfl 5 dX11_reads_105 rfl rfl ?_
            refine g_get (v := .ref (w.1 (15))) (pc9 := 109) C rfl (0) 24 dX11_reads_106 (by decide) (ce_0 w (sN (sI (sI (sI (sI (sI σ (2) (upd (iA σ 2) 8 (nI ((gwU (iA σ 1) gz b).1 + 1)))) (3) (put47 (upd (gwU (iA σ 1) gz b).2.2.2.1 (gwU (iA σ 1) gz b).1 ((gwU (iA σ 1) gz b).2.1)) (iA σ 3) 8 ((gwU (iA σ 1) gz b).1 + 1))) (4) (put47 (upd (gwU (iA σ 1) gz b).2.2.2.2.1 (gwU (iA σ 1) gz b).1 (-1)) (iA σ 4) 8 ((gwU (iA σ 1) gz b).1 + 1))) (14) (upd (op) ((rdU (iA σ 1) (0, 0, 0, iA σ 15) b).1) (nI ((gwU (iA σ 1) gz b).1)))) (15) ((rdU (iA σ 1) (0, 0, 0, iA σ 15) b).2.2.2)) (0) 22 (nI (b)))) hin_11 hl_60 rfl (by decide) rfl rfl ?_
            refine g_iload_n (pc9 := 110) C rfl 4 dX11_reads_109 rfl rfl ?_
            refine g_iconst (pc9 := 111) C rfl (nI (0)) dX11_reads_110 rfl ?_
            refine g_iast (pc9 := 112) C rfl (15) ((rdU (iA σ 1) (0, 0, 0, iA σ 15) b).1) ((rdU (iA σ 1) (0, 0, 0, iA σ 15) b).2.2.2) dX11_reads_111 (by decide) (fun _ => rfl) (ce_15 w (sN (sI (sI (sI (sI (sI σ (2) (upd (iA σ 2) 8 (nI ((gwU (iA σ 1) gz b).1 + 1)))) (3) (put47 (upd (gwU (iA σ 1) gz b).2.2.2.1 (gwU (iA σ 1) gz b).1 ((gwU (iA σ 1) gz b).2.1)) (iA σ 3) 8 ((gwU (iA σ 1) gz b).1 + 1))) (4) (put47 (upd (gwU (iA σ 1) gz b).2.2.2.2.1 (gwU (iA σ 1) gz b).1 (-1)) (iA σ 4) 8 ((gwU (iA σ 1) gz b).1 + 1))) (14) (upd (op) ((rdU (iA σ 1) (0, 0, 0, iA σ 15) b).1) (nI ((gwU (iA σ 1) gz b).1)))) (15) ((rdU (iA σ 1) (0, 0, 0, iA σ 15) b).2.2.2)) (0) 22 (nI (b)))) rfl (by omega) (by decide) ((iA_N).trans (iA_s)) ?_
            rw [sI_sN (a := 0) (k := 22) (b := 15), sI_sI (a := 15)]
            refine g_iinc (pc9 := 115) C rfl [(2, .int (nI ((rdU (iA σ 1) (0, 0, 0, iA σ 15) b).1 + 1))), (6, .int ((gwU (iA σ 1) gz b).2.1)), (5, .int ((iA σ (1)) (b))), (4, .int (nI (0))), (3, .int (nI ((rdU (iA σ 1) (0, 0, 0, iA σ 15) b).2.1))), (0, .ref (w.1 (0))), (1, .int (nI (L)))] 4 (nI ((rdU (iA σ 1) (0, 0, 0, iA σ 15) b).1 + 1)) dX11_reads_112 rfl (nI_1 ((rdU (iA σ 1) (0, 0, 0, iA σ 15) b).1)) (by decide) rfl ?_
            refine g_aload_n (pc9 := 116) C rfl 5 dX11_reads_115 rfl rfl ?_
            refine g_dup (pc9 := 117) C rfl dX11_reads_116 rfl ?_
            refine g_get (v := .int (nI (b))) (pc9 := 120) C rfl (0) 22 dX11_reads_117 (by decide) (ce_0 w (sN (sI (sI (sI (sI (sI σ (2) (upd (iA σ 2) 8 (nI ((gwU (iA σ 1) gz b).1 + 1)))) (3) (put47 (upd (gwU (iA σ 1) gz b).2.2.2.1 (gwU (iA σ 1) gz b).1 ((gwU (iA σ 1) gz b).2.1)) (iA σ 3) 8 ((gwU (iA σ 1) gz b).1 + 1))) (4) (put47 (upd (gwU (iA σ 1) gz b).2.2.2.2.1 (gwU (iA σ 1) gz b).1 (-1)) (iA σ 4) 8 ((gwU (iA σ 1) gz b).1 + 1))) (14) (upd (op) ((rdU (iA σ 1) (0, 0, 0, iA σ 15) b).1) (nI ((gwU (iA σ 1) gz b).1)))) (15) (upd ((rdU (iA σ 1) (0, 0, 0, iA σ 15) b).2.2.2) ((rdU (iA σ 1) (0, 0, 0, iA σ 15) b).1) (nI (0)))) (0) 22 (nI (b)))) hin_11 hl_141 rfl (by decide) rfl (congrArg (fun z => some (Value.int z)) (nF_s)) ?_
            refine g_iconst (pc9 := 121) C rfl (nI (1)) dX11_reads_120 rfl ?_
            refine g_iaddN (pc9 := 122) C rfl dX11_reads_121 ?_
            refine g_put (pc9 := 125) C rfl (0) 22 dX11_reads_122 (by decide) (ce_0 w (sN (sI (sI (sI (sI (sI σ (2) (upd (iA σ 2) 8 (nI ((gwU (iA σ 1) gz b).1 + 1)))) (3) (put47 (upd (gwU (iA σ 1) gz b).2.2.2.1 (gwU (iA σ 1) gz b).1 ((gwU (iA σ 1) gz b).2.1)) (iA σ 3) 8 ((gwU (iA σ 1) gz b).1 + 1))) (4) (put47 (upd (gwU (iA σ 1) gz b).2.2.2.2.1 (gwU (iA σ 1) gz b).1 (-1)) (iA σ 4) 8 ((gwU (iA σ 1) gz b).1 + 1))) (14) (upd (op) ((rdU (iA σ 1) (0, 0, 0, iA σ 15) b).1) (nI ((gwU (iA σ 1) gz b).1)))) (15) (upd ((rdU (iA σ 1) (0, 0, 0, iA σ 15) b).2.2.2) ((rdU (iA σ 1) (0, 0, 0, iA σ 15) b).1) (nI (0)))) (0) 22 (nI (b)))) (rfl) hin_11 hl_141 tyX11 tyX11_ok nmX11 rfl (by decide) rfl rfl rfl (Nat.le_of_ble_eq_true rfl) ?_
            rw [sN_sN]
            refine g_goto C 20 dX11_reads_125 rfl ?_
            refine g_sub [3, 4, 0, 5, 6] [(4, .int (nI (0))), (3, .int (nI ((rdU (iA σ 1) (0, 0, 0, iA σ 15) b).2.1))), (2, .int (nI ((rdU (iA σ 1) (0, 0, 0, iA σ 15) b).1 + 1))), (0, .ref (w.1 (0))), (1, .int (nI (L)))] rfl ?_
            have hO := OPk_open hop hgw hrk h40 hph (by omega)
            have e1 : rdU (iA σ 1) (0, 0, 0, iA σ 15) (b + 1) = ((rdU (iA σ 1) (0, 0, 0, iA σ 15) b).1 + 1, (rdU (iA σ 1) (0, 0, 0, iA σ 15) b).2.1, (rdU (iA σ 1) (0, 0, 0, iA σ 15) b).2.2.1, upd (rdU (iA σ 1) (0, 0, 0, iA σ 15) b).2.2.2 (rdU (iA σ 1) (0, 0, 0, iA σ 15) b).1 (nI 0)) := congrArg Prod.snd (rd_40 h40 hph (by omega))
            have e2 : gwU (iA σ 1) gz (b + 1) = ((gwU (iA σ 1) gz b).1 + 1, nI (gwU (iA σ 1) gz b).1, tdA (gwU (iA σ 1) gz b).1 (gwU (iA σ 1) gz b).2.1.toNatClampNeg (-1) (gwU (iA σ 1) gz b).2.2) := gw_40 h40
            have hih := ih (b + 1) (upd op (rdU (iA σ 1) (0, 0, 0, iA σ 15) b).1 (nI (gwU (iA σ 1) gz b).1)) ⟨by omega, pfx_s hpf_b (by rw [rd_40 h40 hph (by omega)]; rfl), by rw [e1]; exact hph, hO.1⟩ (by omega)
            rw [e1, e2] at hih
            rw [← hO.2]
            exact hih
          · replace c_60 := (nI_eq (by omega) (by omega)).mp c_60
            refine g_aload_n (pc9 := 87) C rfl 5 dX11_reads_86 rfl rfl ?_
            refine g_iconst (pc9 := 88) C rfl (nI (2)) dX11_reads_87 rfl ?_
            refine g_callVi (nn := 1) (rest := []) (pc9 := 91) C rfl (0) [.int (nI (2))] rfl dX11_reads_88 (m_X11_wrong l w (sN (sI (sI (sI (sI (sI σ (2) (upd (iA σ 2) 8 (nI ((gwU (iA σ 1) gz b).1)))) (3) (put47 ((gwU (iA σ 1) gz b).2.2.2.1) (iA σ 3) 8 ((gwU (iA σ 1) gz b).1))) (4) (put47 ((gwU (iA σ 1) gz b).2.2.2.2.1) (iA σ 4) 8 ((gwU (iA σ 1) gz b).1))) (14) (op)) (15) ((rdU (iA σ 1) (0, 0, 0, iA σ 15) b).2.2.2)) (0) 22 (nI (b))) 2) gX11_reads_X11_wrong (by decide) (ce_0 w (sN (sI (sI (sI (sI (sI σ (2) (upd (iA σ 2) 8 (nI ((gwU (iA σ 1) gz b).1)))) (3) (put47 ((gwU (iA σ 1) gz b).2.2.2.1) (iA σ 3) 8 ((gwU (iA σ 1) gz b).1))) (4) (put47 ((gwU (iA σ 1) gz b).2.2.2.2.1) (iA σ 4) 8 ((gwU (iA σ 1) gz b).1))) (14) (op)) (15) ((rdU (iA σ 1) (0, 0, 0, iA σ 15) b).2.2.2)) (0) 22 (nI (b)))) rfl rfl rfl rfl rfl (by decide +kernel) ⟨by decide, by decide⟩ rfl (Nat.le_of_ble_eq_true rfl) ⟨by decide, by decide⟩ (fun r_62 σ_62 q_62 => ?_)
            obtain ⟨qs_62, qr_62⟩ := q_62
            have hx9 := ex_bad (σ := σ) hpf_b hbL (rd_40x h40 hph (by omega)) (by decide)
            rw [qs_62, qr_62]
            exact g_ireturn C hr hlk dX11_reads_91 (re_w hx9 (by decide))
    · replace c_3 := (nI_eq (by omega) (by omega)).mp c_3
      have hbL : b = L := by omega
      refine g_aload_n (pc9 := 39) C rfl 3 dX11_reads_38 rfl rfl ?_
      refine g_iconst (pc9 := 40) C rfl (nI (1)) dX11_reads_39 rfl ?_
      refine g_callVi (nn := 1) (rest := []) (pc9 := 43) C rfl (0) [.int (nI (1))] rfl dX11_reads_40 (m_X11_wrong l w (sN (sI (sI (sI (sI (sI σ (2) (upd (iA σ 2) 8 (nI ((gwU (iA σ 1) gz b).1)))) (3) (put47 ((gwU (iA σ 1) gz b).2.2.2.1) (iA σ 3) 8 ((gwU (iA σ 1) gz b).1))) (4) (put47 ((gwU (iA σ 1) gz b).2.2.2.2.1) (iA σ 4) 8 ((gwU (iA σ 1) gz b).1))) (14) (op)) (15) ((rdU (iA σ 1) (0, 0, 0, iA σ 15) b).2.2.2)) (0) 22 (nI (b))) 1) gX11_reads_X11_wrong (by decide) (ce_0 w (sN (sI (sI (sI (sI (sI σ (2) (upd (iA σ 2) 8 (nI ((gwU (iA σ 1) gz b).1)))) (3) (put47 ((gwU (iA σ 1) gz b).2.2.2.1) (iA σ 3) 8 ((gwU (iA σ 1) gz b).1))) (4) (put47 ((gwU (iA σ 1) gz b).2.2.2.2.1) (iA σ 4) 8 ((gwU (iA σ 1) gz b).1))) (14) (op)) (15) ((rdU (iA σ 1) (0, 0, 0, iA σ 15) b).2.2.2)) (0) 22 (nI (b)))) rfl rfl rfl rfl rfl (by decide +kernel) ⟨by decide, by decide⟩ rfl (Nat.le_of_ble_eq_true rfl) ⟨by decide, by decide⟩ (fun r_63 σ_63 q_63 => ?_)
      obtain ⟨qs_63, qr_63⟩ := q_63
      have hx9 := (fun (q9 : (mX σ L).1 = nI 1 ∧ (mX σ L).2.1 = nI L) => (⟨q9.1, q9.2.trans (congrArg nI hbL.symm)⟩ : (mX σ L).1 = nI 1 ∧ (mX σ L).2.1 = nI b)) (ex_end (σ := σ) (L := L) (r := (rdU (iA σ 1) (0, 0, 0, iA σ 15) b)) (by rw [← hbL]; exact hpf_b) (by rw [hbL]) (by rw [hph]; decide))
      rw [qs_63, qr_63]
      exact g_ireturn C hr hlk dX11_reads_43 (re_w hx9 (by decide))

/-! The reference: chooses, orders -/
def cho : Nat → Nat → Int64
  | 0, _ => 1
  | i + 1, j => if j = 0 ∨ j = i + 1 then 1 else cho i (j - 1) + cho i j
theorem cho_1 {i j : Nat} (h : j = 0 ∨ j = i) : cho i j = 1 := by
  cases i with
  | zero => rfl
  | succ i => exact if_pos h
theorem cho_s {i j : Nat} (h1 : ¬ j = 0) (h2 : ¬ j = i) (h3 : j ≤ i) : cho i j = cho (i - 1) (j - 1) + cho (i - 1) j := by
  cases i with
  | zero => omega
  | succ i => exact if_neg (by omega)
theorem pk_usL {f : Nat → Int64} {k : Nat} {x : Int64} : vp_updL f k x k = x := by unfold vp_updL; exact if_pos rfl
theorem upd_upd {f : Nat → Int32} {k : Nat} {x y : Int32} : upd (upd f k x) k y = upd f k y := by
  funext i
  unfold upd
  split <;> rfl
theorem pk_unL {f : Nat → Int64} {k i : Nat} {x : Int64} (h : i ≠ k) : vp_updL f k x i = f i := by unfold vp_updL; exact if_neg h
theorem cho_st {i j : Nat} {h : Nat → Int64} {y : Int64} (hj : j ≤ i) (h1 : ∀ x, x < i → ∀ j, j ≤ x → h (30 * x + j) = cho x j) (h2 : ∀ z, z < j → h (30 * i + z) = cho i z) (hc : y = cho i j) (hi : i ≤ 29 := by omega) : j + 1 ≤ i + 1 ∧ (∀ x, x < i → ∀ j9, j9 ≤ x → vp_updL h (30 * i + j) y (30 * x + j9) = cho x j9) ∧ ∀ z, z < j + 1 → vp_updL h (30 * i + j) y (30 * i + z) = cho i z := by
  refine ⟨by omega, fun x hx j9 h9 => ?_, fun z hz => ?_⟩
  · rw [pk_unL (by omega)]; exact h1 x hx j9 h9
  · by_cases e : z = j
    · rw [e, pk_usL, hc]
    · rw [pk_unL (by omega)]; exact h2 z (by omega)
set_option maxRecDepth 100000 in
set_option maxHeartbeats 4000000 in
theorem m_X11_chooses (l : Launch) (w : Wd) (σ : St) (a b : Nat) (ha : a ≤ 29) (hb : b ≤ a) : ML l yX11_chooses wsX11_chooses (rmL 1) w [.ref (w.1 (0)), .int (nI (a)), .int (nI (b))] (σ) (fun r σ9 => (∃ g, σ9 = sJ σ 29 g) ∧ r = cho a b) := by
  refine ML_of (cc := cX11_chooses) (maxL := 5) (ret := .long) (by decide) rfl (Nat.le_of_ble_eq_true rfl) ?_
  intro p e s m args below meth c A C hr hlk
  have C : Cx p s m args c w A cX11_chooses RX11 5 wsX11_chooses := C
  have hin_11 : ∀ u ∈ wsX110, u ∈ wsX11_chooses := by decide +kernel
  have hl_104 : Cond.fieldLink RX11 104 "LineageBenchModel" "chosen" "[J" ∈ wsX11_chooses := by decide +kernel
  refine g_st (σ9 := sJ σ 29 (jA σ 29)) sJ_self.symm ?_
  refine g_iconst (pc9 := 1) C rfl (nI (0)) dX11_chooses_0 rfl ?_
  refine g_istore_n (pc9 := 2) C rfl [(3, .int (nI (0))), (0, .ref (w.1 (0))), (1, .int (nI (a))), (2, .int (nI (b)))] dX11_chooses_1 rfl (by decide) rfl ?_
  refine g_sub [0, 1, 2, 3] [(3, .int (nI (0))), (0, .ref (w.1 (0))), (1, .int (nI (a))), (2, .int (nI (b)))] rfl ?_
  refine g_lp2 (α := Nat) (β := Nat → Int64) (fun i g => i ≤ a + 1 ∧ ∀ x, x < i → ∀ j, j ≤ x → g (30 * x + j) = cho x j) (fun i g => a + 1 - i) (fun i g => G p l e _ s m args below meth c _ w A _ (sJ σ (29) (g)) 0 0 2 [(3, .int (nI (i))), (0, .ref (w.1 (0))), (1, .int (nI (a))), (2, .int (nI (b)))] []) (fun i g hI ih => ?_) (0) (jA σ 29) ⟨Nat.zero_le _, fun x h => absurd h (by omega)⟩
  obtain ⟨hi, hg⟩ := hI
  refine g_iload_n (pc9 := 3) C rfl 0 dX11_chooses_2 rfl rfl ?_
  refine g_iload_n (pc9 := 4) C rfl 2 dX11_chooses_3 rfl rfl ?_
  refine g_icmp_gt (pc9 := 7) C rfl 86 dX11_chooses_4 rfl (fun c_1 => ?_) (fun c_1 => ?_)
  · replace c_1 := (nI_ltI (by omega) (by omega)).mp c_1
    refine g_aload_n (pc9 := 87) C rfl 1 dX11_chooses_86 rfl rfl ?_
    refine g_get (v := .ref (w.1 (29))) (pc9 := 90) C rfl (0) 38 dX11_chooses_87 (by decide) (ce_0 w (sJ σ (29) (g))) hin_11 hl_104 rfl (by decide) rfl rfl ?_
    refine g_bipush (pc9 := 92) C rfl (nI (30)) dX11_chooses_90 rfl ?_
    refine g_iload_n (pc9 := 93) C rfl 2 dX11_chooses_92 rfl rfl ?_
    refine g_imulN (pc9 := 94) C rfl dX11_chooses_93 ?_
    refine g_iload_n (pc9 := 95) C rfl 3 dX11_chooses_94 rfl rfl ?_
    refine g_iaddN (pc9 := 96) C rfl dX11_chooses_95 ?_
    refine g_lald (x := cho a b) (pc9 := 97) C rfl (29) ((30 * a) + b) dX11_chooses_96 (by decide) (ce_29 w (sJ σ (29) (g))) rfl (by omega) (by decide) ((congrFun (jA_s) _).trans (hg a (by omega) b hb)) ?_
    exact g_lreturn C hr hlk dX11_chooses_97 ⟨⟨g, rfl⟩, rfl⟩
  · replace c_1 := (not_congr (nI_ltI (by omega) (by omega))).mp c_1
    refine g_iconst (pc9 := 8) C rfl (nI (0)) dX11_chooses_7 rfl ?_
    refine g_istore (pc9 := 10) C rfl [(4, .int (nI (0))), (3, .int (nI (i))), (0, .ref (w.1 (0))), (1, .int (nI (a))), (2, .int (nI (b)))] dX11_chooses_8 (by decide) rfl ?_
    refine g_sub [0, 1, 2, 3, 4] [(4, .int (nI (0))), (3, .int (nI (i))), (0, .ref (w.1 (0))), (1, .int (nI (a))), (2, .int (nI (b)))] rfl ?_
    refine g_lp2 (α := Nat) (β := Nat → Int64) (fun j h => j ≤ i + 1 ∧ (∀ x, x < i → ∀ j, j ≤ x → h (30 * x + j) = cho x j) ∧ ∀ z, z < j → h (30 * i + z) = cho i z) (fun j h => i + 1 - j) (fun j h => G p l e _ s m args below meth c _ w A _ (sJ σ (29) (h)) 0 0 10 [(4, .int (nI (j))), (3, .int (nI (i))), (0, .ref (w.1 (0))), (1, .int (nI (a))), (2, .int (nI (b)))] []) (fun j h hI ih2 => ?_) (0) (g) ⟨Nat.zero_le _, hg, fun z hz => absurd hz (by omega)⟩
    obtain ⟨hj, hh1, hh2⟩ := hI
    refine g_iload (pc9 := 12) C rfl 0 dX11_chooses_10 rfl ?_
    refine g_iload_n (pc9 := 13) C rfl 1 dX11_chooses_12 rfl rfl ?_
    refine g_icmp_gt (pc9 := 16) C rfl 80 dX11_chooses_13 rfl (fun c_2 => ?_) (fun c_2 => ?_)
    · replace c_2 := (nI_ltI (by omega) (by omega)).mp c_2
      refine g_iinc (pc9 := 83) C rfl [(3, .int (nI (i + 1))), (4, .int (nI (j))), (0, .ref (w.1 (0))), (1, .int (nI (a))), (2, .int (nI (b)))] 1 (nI (i + 1)) dX11_chooses_80 rfl (nI_1 (i)) (by decide) rfl ?_
      refine g_goto C 2 dX11_chooses_83 rfl ?_
      refine g_sub [0, 2, 3, 4] [(3, .int (nI (i + 1))), (0, .ref (w.1 (0))), (1, .int (nI (a))), (2, .int (nI (b)))] rfl ?_
      exact ih (i + 1) h ⟨by omega, fun x hx j9 hj9 => by by_cases e : x = i; (subst e; exact hh2 j9 (by omega)); exact hh1 x (by omega) j9 hj9⟩ (by omega)
    · replace c_2 := (not_congr (nI_ltI (by omega) (by omega))).mp c_2
      refine g_aload_n (pc9 := 17) C rfl 2 dX11_chooses_16 rfl rfl ?_
      refine g_get (v := .ref (w.1 (29))) (pc9 := 20) C rfl (0) 38 dX11_chooses_17 (by decide) (ce_0 w (sJ σ (29) (h))) hin_11 hl_104 rfl (by decide) rfl rfl ?_
      refine g_bipush (pc9 := 22) C rfl (nI (30)) dX11_chooses_20 rfl ?_
      refine g_iload_n (pc9 := 23) C rfl 1 dX11_chooses_22 rfl rfl ?_
      refine g_imulN (pc9 := 24) C rfl dX11_chooses_23 ?_
      refine g_iload (pc9 := 26) C rfl 0 dX11_chooses_24 rfl ?_
      refine g_iaddN (pc9 := 27) C rfl dX11_chooses_26 ?_
      refine g_iload (pc9 := 29) C rfl 0 dX11_chooses_27 rfl ?_
      refine g_if_eq (pc9 := 32) C rfl 38 dX11_chooses_29 rfl (fun c_3 => ?_) (fun c_3 => ?_)
      · replace c_3 := (z_eq (by omega)).mp c_3
        have hc : cho i j = 1 := cho_1 (Or.inl (by omega))
        refine g_lconst (pc9 := 39) C rfl (1) dX11_chooses_38 rfl ?_
        refine g_goto C 73 dX11_chooses_39 rfl ?_
        refine g_last (pc9 := 74) C rfl (29) ((30 * i) + j) (h) dX11_chooses_73 (by decide) (fun _ => rfl) (ce_29 w (sJ σ (29) (h))) rfl (by omega) (by decide) (jA_s) ?_
        rw [sJ_sJ (a := 29)]
        refine g_iinc (pc9 := 77) C rfl [(4, .int (nI (j + 1))), (3, .int (nI (i))), (0, .ref (w.1 (0))), (1, .int (nI (a))), (2, .int (nI (b)))] 0 (nI (j + 1)) dX11_chooses_74 rfl (nI_1 (j)) (by decide) rfl ?_
        refine g_goto C 10 dX11_chooses_77 rfl ?_
        refine g_sub [0, 1, 2, 3, 4] [(4, .int (nI (j + 1))), (3, .int (nI (i))), (0, .ref (w.1 (0))), (1, .int (nI (a))), (2, .int (nI (b)))] rfl ?_
        exact ih2 (j + 1) (vp_updL (h) ((30 * i) + j) ((1))) (cho_st (by omega) hh1 hh2 hc.symm) (by omega)
      · replace c_3 := (not_congr (z_eq (by omega))).mp c_3
        refine g_iload (pc9 := 34) C rfl 0 dX11_chooses_32 rfl ?_
        refine g_iload_n (pc9 := 35) C rfl 1 dX11_chooses_34 rfl rfl ?_
        refine g_icmp_ne (pc9 := 38) C rfl 42 dX11_chooses_35 rfl (fun c_4 => ?_) (fun c_4 => ?_)
        · replace c_4 := (not_congr (nI_eq (by omega) (by omega))).mp c_4
          have hi1 : 1 ≤ i := by omega
          have hj1 : 1 ≤ j := by omega
          have e1 : h (30 * (i - 1) + j - 1) = cho (i - 1) (j - 1) := (congrArg h (by omega)).trans (hh1 (i - 1) (by omega) (j - 1) (by omega))
          have hc : cho i j = cho (i - 1) (j - 1) + cho (i - 1) j := cho_s (by omega) (by omega) (by omega)
          refine g_aload_n (pc9 := 43) C rfl 2 dX11_chooses_42 rfl rfl ?_
          refine g_get (v := .ref (w.1 (29))) (pc9 := 46) C rfl (0) 38 dX11_chooses_43 (by decide) (ce_0 w (sJ σ (29) (h))) hin_11 hl_104 rfl (by decide) rfl rfl ?_
          refine g_bipush (pc9 := 48) C rfl (nI (30)) dX11_chooses_46 rfl ?_
          refine g_iload_n (pc9 := 49) C rfl 1 dX11_chooses_48 rfl rfl ?_
          refine g_iconst (pc9 := 50) C rfl (nI (1)) dX11_chooses_49 rfl ?_
          refine g_isubN (pc9 := 51) C rfl dX11_chooses_50 (by omega) ?_
          refine g_imulN (pc9 := 52) C rfl dX11_chooses_51 ?_
          refine g_iload (pc9 := 54) C rfl 0 dX11_chooses_52 rfl ?_
          refine g_iaddN (pc9 := 55) C rfl dX11_chooses_54 ?_
          refine g_iconst (pc9 := 56) C rfl (nI (1)) dX11_chooses_55 rfl ?_
          refine g_isubN (pc9 := 57) C rfl dX11_chooses_56 (by omega) ?_
          refine g_lald (x := cho (i - 1) (j - 1)) (pc9 := 58) C rfl (29) (((30 * (i - (1))) + j) - (1)) dX11_chooses_57 (by decide) (ce_29 w (sJ σ (29) (h))) rfl (by omega) (by decide) ((congrFun (jA_s) _).trans e1) ?_
          refine g_aload_n (pc9 := 59) C rfl 2 dX11_chooses_58 rfl rfl ?_
          refine g_get (v := .ref (w.1 (29))) (pc9 := 62) C rfl (0) 38 dX11_chooses_59 (by decide) (ce_0 w (sJ σ (29) (h))) hin_11 hl_104 rfl (by decide) rfl rfl ?_
          refine g_bipush (pc9 := 64) C rfl (nI (30)) dX11_chooses_62 rfl ?_
          refine g_iload_n (pc9 := 65) C rfl 1 dX11_chooses_64 rfl rfl ?_
          refine g_iconst (pc9 := 66) C rfl (nI (1)) dX11_chooses_65 rfl ?_
          refine g_isubN (pc9 := 67) C rfl dX11_chooses_66 (by omega) ?_
          refine g_imulN (pc9 := 68) C rfl dX11_chooses_67 ?_
          refine g_iload (pc9 := 70) C rfl 0 dX11_chooses_68 rfl ?_
          refine g_iaddN (pc9 := 71) C rfl dX11_chooses_70 ?_
          refine g_lald (x := cho (i - 1) j) (pc9 := 72) C rfl (29) ((30 * (i - (1))) + j) dX11_chooses_71 (by decide) (ce_29 w (sJ σ (29) (h))) rfl (by omega) (by decide) ((congrFun (jA_s) _).trans (hh1 (i - 1) (by omega) j (by omega))) ?_
          refine g_ladd (pc9 := 73) C rfl dX11_chooses_72 ?_
          refine g_last (pc9 := 74) C rfl (29) ((30 * i) + j) (h) dX11_chooses_73 (by decide) (fun _ => rfl) (ce_29 w (sJ σ (29) (h))) rfl (by omega) (by decide) (jA_s) ?_
          rw [sJ_sJ (a := 29)]
          refine g_iinc (pc9 := 77) C rfl [(4, .int (nI (j + 1))), (3, .int (nI (i))), (0, .ref (w.1 (0))), (1, .int (nI (a))), (2, .int (nI (b)))] 0 (nI (j + 1)) dX11_chooses_74 rfl (nI_1 (j)) (by decide) rfl ?_
          refine g_goto C 10 dX11_chooses_77 rfl ?_
          refine g_sub [0, 1, 2, 3, 4] [(4, .int (nI (j + 1))), (3, .int (nI (i))), (0, .ref (w.1 (0))), (1, .int (nI (a))), (2, .int (nI (b)))] rfl ?_
          exact ih2 (j + 1) (vp_updL (h) ((30 * i) + j) ((cho (i - 1) (j - 1)) + (cho (i - 1) j))) (cho_st (by omega) hh1 hh2 hc.symm) (by omega)
        · replace c_4 := (nI_eq (by omega) (by omega)).mp c_4
          have hc : cho i j = 1 := cho_1 (Or.inr (by omega))
          refine g_lconst (pc9 := 39) C rfl (1) dX11_chooses_38 rfl ?_
          refine g_goto C 73 dX11_chooses_39 rfl ?_
          refine g_last (pc9 := 74) C rfl (29) ((30 * i) + j) (h) dX11_chooses_73 (by decide) (fun _ => rfl) (ce_29 w (sJ σ (29) (h))) rfl (by omega) (by decide) (jA_s) ?_
          rw [sJ_sJ (a := 29)]
          refine g_iinc (pc9 := 77) C rfl [(4, .int (nI (j + 1))), (3, .int (nI (i))), (0, .ref (w.1 (0))), (1, .int (nI (a))), (2, .int (nI (b)))] 0 (nI (j + 1)) dX11_chooses_74 rfl (nI_1 (j)) (by decide) rfl ?_
          refine g_goto C 10 dX11_chooses_77 rfl ?_
          refine g_sub [0, 1, 2, 3, 4] [(4, .int (nI (j + 1))), (3, .int (nI (i))), (0, .ref (w.1 (0))), (1, .int (nI (a))), (2, .int (nI (b)))] rfl ?_
          exact ih2 (j + 1) (vp_updL (h) ((30 * i) + j) ((1))) (cho_st (by omega) hh1 hh2 hc.symm) (by omega)
/-- the fold over the children of v, up to m -/
noncomputable def moR (σ : St) (i v : Nat) (g : Nat → Int64) (I : Nat → Nat) (m : Nat) : Int64 × Nat := cfo (mCq σ i v) (fun u a => (a.1 * (g u * cho (a.2 + I u) (I u)), a.2 + I u)) (1, 0) m
theorem moR_c {σ : St} {i v m : Nat} {g h : Nat → Int64} {I : Nat → Nat} (hh : ∀ u, v < u → g u = h u) : moR σ i v g I m = moR σ i v h I m := by
  refine cfo_c m (fun u _ hq b => ?_)
  rw [hh u hq.1]
abbrev moE (σ : St) (i : Nat) (g : Nat → Int64) (I : Nat → Nat) (v : Nat) : Prop := ∀ x, v ≤ x → x < mN σ i → g x = (moR σ i x g I (mN σ i)).1
/-- I v: how many inner nodes v and those below it have -/
def moI (σ : St) (i : Nat) (I : Nat → Nat) : Prop := ∀ v, v < mN σ i → I v = cfo (mCq σ i v) (fun u a => a + I u) 0 (mN σ i) + (if mK σ i v < 0 then 1 else 0)
theorem moR_2 {σ : St} {i v : Nat} {g : Nat → Int64} {I : Nat → Nat} : ∀ m, (moR σ i v g I m).2 = cfo (mCq σ i v) (fun u a => a + I u) 0 m
  | 0 => rfl
  | m + 1 => by
    have ih := moR_2 (σ := σ) (i := i) (v := v) (g := g) (I := I) m
    unfold moR at *
    by_cases h : mCq σ i v m
    · rw [cfo_y h, cfo_y h, ← ih]
    · rw [cfo_n h, cfo_n h, ih]
theorem cfo_mo {q : Nat → Prop} {I : Nat → Nat} {a : Nat} {u : Nat} : ∀ {n : Nat}, u ≤ n → cfo q (fun u a => a + I u) a u ≤ cfo q (fun u a => a + I u) a n
  | 0, h => by rw [show u = 0 by omega]; exact Nat.le_refl _
  | n + 1, h => by
    by_cases e : u = n + 1
    · rw [e]; exact Nat.le_refl _
    · have ih := cfo_mo (q := q) (I := I) (a := a) (u := u) (n := n) (by omega)
      by_cases h : q n
      · rw [cfo_y h]; exact Nat.le_trans ih (Nat.le_add_right _ _)
      · rw [cfo_n h]; exact ih
theorem moR_le {σ : St} {i v m : Nat} {g : Nat → Int64} {I : Nat → Nat} (hI : moI σ i I) (hv : v < mN σ i) (hm : m ≤ mN σ i) : (moR σ i v g I m).2 ≤ I v := by
  rw [moR_2, hI v hv]
  exact Nat.le_trans (cfo_mo hm) (Nat.le_add_right _ _)
theorem moR_y {σ : St} {i v u : Nat} {g : Nat → Int64} {I : Nat → Nat} (h1 : v < u) (h2 : mP σ i u = nI v) : moR σ i v g I (u + 1) = ((moR σ i v g I u).1 * (g u * cho ((moR σ i v g I u).2 + I u) (I u)), (moR σ i v g I u).2 + I u) := cfo_y (q := mCq σ i v) ⟨h1, h2⟩
theorem moR_ini {σ : St} {i k : Nat} {g : Nat → Int64} {I : Nat → Nat} {r : Int32} (hx : nxC σ i k k r) : (r = -1 ∧ ((1 : Int64), 0) = moR σ i k g I (mN σ i)) ∨ (∃ u, r = nI u ∧ k < u ∧ u < mN σ i ∧ mP σ i u = nI k ∧ ((1 : Int64), 0) = moR σ i k g I u) := by
  have h0 : ∀ m, (∀ z, z < m → ¬ mCq σ i k z) → ((1 : Int64), 0) = moR σ i k g I m := fun m h => (cfo_skip (u := 0) (Nat.zero_le _) (fun x _ h2 => h x h2)).symm
  rcases hx with ⟨u, h1, h2, h3, h4, e⟩ | ⟨e, h4⟩
  · exact Or.inr ⟨u, e, h1, h2, h3, h0 _ (fun z hz hq => h4 z hq.1 hz hq.2)⟩
  · exact Or.inl ⟨e, h0 _ (fun z hz hq => h4 z hq.1 hz hq.2)⟩
theorem moR_nx {σ : St} {i k u : Nat} {g : Nat → Int64} {I : Nat → Nat} {r : Int32} {a : Int64 × Nat} (h1 : k < u) (h2 : u < mN σ i) (h3 : mP σ i u = nI k) (ha : a = moR σ i k g I u) (hx : nxC σ i k u r) : (r = -1 ∧ (a.1 * (g u * cho (a.2 + I u) (I u)), a.2 + I u) = moR σ i k g I (mN σ i)) ∨ (∃ v, r = nI v ∧ k < v ∧ v < mN σ i ∧ mP σ i v = nI k ∧ (a.1 * (g u * cho (a.2 + I u) (I u)), a.2 + I u) = moR σ i k g I v) := by
  rw [show (a.1 * (g u * cho (a.2 + I u) (I u)), a.2 + I u) = moR σ i k g I (u + 1) by rw [moR_y h1 h3, ha]]
  rcases hx with ⟨v, h5, h6, h7, h8, e⟩ | ⟨e, h8⟩
  · exact Or.inr ⟨v, e, by omega, h6, h7, (cfo_skip (by omega) (fun z q1 q2 hq => h8 z (by omega) q2 hq.2)).symm⟩
  · exact Or.inl ⟨e, (cfo_skip (by omega) (fun z q1 q2 hq => h8 z (by omega) q2 hq.2)).symm⟩
def morP (σ : St) (x : Int32) (r : Int64) (σ9 : St) : Prop := mt1 σ x σ9 ∨ (∃ i g I h d, i < 8 ∧ x = nI i ∧ ¬ mN σ i = 0 ∧ moI σ i I ∧ moE σ i g I 0 ∧ σ9 = sJ (sI (sJ (mT σ 0) 27 g) 28 h) 29 d ∧ r = g 0)
set_option maxRecDepth 100000 in
set_option maxHeartbeats 4000000 in
theorem m13_kids {p : Program} {l : Launch} {e : Env} {s : State} {m : MethodId} {args : Array Value} {below : List Frame} {meth : Method} {c : Code} {Q : State → Prop} {w : Wd} {A : Nat → Prop} (C : Cx p s m args c w A cX11_orders RX11 4 wsX11_orders) (σ : St) (hM : ∀ i, i < 8 → mtOk σ i) (i : Nat) (hb_i : i < 8) (I : Nat → Nat) (hI9 : moI σ i I) (hB : ∀ v, v < mN σ i → I v ≤ 29) (k : Nat) (hk : k < mN σ i) (g : Nat → Int64) (h : Nat → Int32) (hh : ∀ u, k < u → u < mN σ i → h u = nI (I u)) (d0 : Nat → Int64) (x0 : Int32) (hnx : nxC σ i k k x0) (kont : ∀ (a : Int64 × Nat) (d : Nat → Int64), a = moR σ i k g I (mN σ i) → G p l e (rmL 2) s m args below meth c Q w A 4 (sJ (sI (sJ (sN σ (0) 0 (nI (0))) (27) (vp_updL g k a.1)) (28) (upd h k (nI a.2))) (29) (d)) 0 0 145 [(3, .int (-1)), (2, .int (nI (k))), (0, .ref (w.1 (0))), (1, .int (nI (i)))] []) : G p l e (rmL 2) s m args below meth c Q w A 4 (sJ (sI (sJ (sN σ (0) 0 (nI (0))) (27) (vp_updL g k ((1 : Int64), 0).1)) (28) (upd h k (nI ((1 : Int64), 0).2))) (29) (d0)) 0 0 76 [(3, .int (x0)), (2, .int (nI (k))), (0, .ref (w.1 (0))), (1, .int (nI (i)))] [] := by
  have hin_11 : ∀ u ∈ wsX110, u ∈ wsX11_orders := by decide +kernel
  have hl_98 : Cond.fieldLink RX11 98 "LineageBenchModel" "ways" "[J" ∈ wsX11_orders := by decide +kernel
  have hl_101 : Cond.fieldLink RX11 101 "LineageBenchModel" "inner" "[I" ∈ wsX11_orders := by decide +kernel
  have h47 := (hM i hb_i).2.1
  refine g_lp3 (α := Int32) (β := Int64 × Nat) (γ := Nat → Int64) (fun x a d => (x = -1 ∧ a = moR σ i k g I (mN σ i)) ∨ (∃ u, x = nI u ∧ k < u ∧ u < mN σ i ∧ mP σ i u = nI k ∧ a = moR σ i k g I (u))) (fun x a d => if x = -1 then 0 else mN σ i + 1 - x.toNatClampNeg) (fun x a d => G p l e _ s m args below meth c _ w A _ (sJ (sI (sJ (sN σ (0) 0 (nI (0))) (27) (vp_updL g k a.1)) (28) (upd h k (nI a.2))) (29) (d)) 0 0 76 [(3, .int (x)), (2, .int (nI (k))), (0, .ref (w.1 (0))), (1, .int (nI (i)))] []) (fun x a d hI ih => ?_) (x0) ((1, 0)) (d0) (moR_ini hnx)
  rcases hI with ⟨hx, hy⟩ | ⟨u, hx, hu1, hu2, hu3, hy⟩
  · subst hx
    refine g_iload_n (pc9 := 77) C rfl 0 dX11_orders_76 rfl rfl ?_
    refine g_if_lt (pc9 := 80) C rfl 145 dX11_orders_77 rfl (fun c_1 => ?_) (fun c_1 => ?_)
    · exact kont a d hy
    · exact absurd (by decide) c_1
  · subst hx
    have hle : a.2 + I u ≤ I k := by
      have h1 := moR_le (g := g) (m := u + 1) hI9 hk (by omega)
      rw [moR_y hu1 hu3, ← hy] at h1
      exact h1
    have hB9 := hB k hk
    have hhu := hh u hu1 hu2
    refine g_iload_n (pc9 := 77) C rfl 0 dX11_orders_76 rfl rfl ?_
    refine g_if_lt (pc9 := 80) C rfl 145 dX11_orders_77 rfl (fun c_2 => ?_) (fun c_2 => ?_)
    · replace c_2 := (z_lt (by omega)).mp c_2
      exact absurd c_2 (by simp)
    · replace c_2 := (not_congr (z_lt (by omega))).mp c_2
      refine g_aload_n (pc9 := 81) C rfl 2 dX11_orders_80 rfl rfl ?_
      refine g_get (v := .ref (w.1 (27))) (pc9 := 84) C rfl (0) 36 dX11_orders_81 (by decide) (ce_0 w (sJ (sI (sJ (sN σ (0) 0 (nI (0))) (27) (vp_updL g k a.1)) (28) (upd h k (nI a.2))) (29) (d))) hin_11 hl_98 rfl (by decide) rfl rfl ?_
      refine g_iload_n (pc9 := 85) C rfl 1 dX11_orders_84 rfl rfl ?_
      refine g_dup2 (pc9 := 86) C rfl dX11_orders_85 rfl rfl ?_
      refine g_lald (x := a.1) (pc9 := 87) C rfl (27) (k) dX11_orders_86 (by decide) (ce_27 w (sJ (sI (sJ (sN σ (0) 0 (nI (0))) (27) (vp_updL g k a.1)) (28) (upd h k (nI a.2))) (29) (d))) rfl (by omega) (by decide) ((congrFun (((jA_n (by decide)).trans (jA_I)).trans (jA_s)) _).trans pk_usL) ?_
      refine g_aload_n (pc9 := 88) C rfl 2 dX11_orders_87 rfl rfl ?_
      refine g_get (v := .ref (w.1 (27))) (pc9 := 91) C rfl (0) 36 dX11_orders_88 (by decide) (ce_0 w (sJ (sI (sJ (sN σ (0) 0 (nI (0))) (27) (vp_updL g k a.1)) (28) (upd h k (nI a.2))) (29) (d))) hin_11 hl_98 rfl (by decide) rfl rfl ?_
      refine g_iload_n (pc9 := 92) C rfl 0 dX11_orders_91 rfl rfl ?_
      refine g_lald (x := g u) (pc9 := 93) C rfl (27) (u) dX11_orders_92 (by decide) (ce_27 w (sJ (sI (sJ (sN σ (0) 0 (nI (0))) (27) (vp_updL g k a.1)) (28) (upd h k (nI a.2))) (29) (d))) rfl (by omega) (by decide) ((congrFun (((jA_n (by decide)).trans (jA_I)).trans (jA_s)) _).trans (pk_unL (by omega))) ?_
      refine g_aload_n (pc9 := 94) C rfl 2 dX11_orders_93 rfl rfl ?_
      refine g_aload_n (pc9 := 95) C rfl 2 dX11_orders_94 rfl rfl ?_
      refine g_get (v := .ref (w.1 (28))) (pc9 := 98) C rfl (0) 37 dX11_orders_95 (by decide) (ce_0 w (sJ (sI (sJ (sN σ (0) 0 (nI (0))) (27) (vp_updL g k a.1)) (28) (upd h k (nI a.2))) (29) (d))) hin_11 hl_101 rfl (by decide) rfl rfl ?_
      refine g_iload_n (pc9 := 99) C rfl 1 dX11_orders_98 rfl rfl ?_
      refine g_iald (x := nI (a.2)) (pc9 := 100) C rfl (28) (k) dX11_orders_99 (by decide) (ce_28 w (sJ (sI (sJ (sN σ (0) 0 (nI (0))) (27) (vp_updL g k a.1)) (28) (upd h k (nI a.2))) (29) (d))) rfl (by omega) (by decide) ((congrFun ((iA_J).trans (iA_s)) _).trans pk_us) ?_
      refine g_aload_n (pc9 := 101) C rfl 2 dX11_orders_100 rfl rfl ?_
      refine g_get (v := .ref (w.1 (28))) (pc9 := 104) C rfl (0) 37 dX11_orders_101 (by decide) (ce_0 w (sJ (sI (sJ (sN σ (0) 0 (nI (0))) (27) (vp_updL g k a.1)) (28) (upd h k (nI a.2))) (29) (d))) hin_11 hl_101 rfl (by decide) rfl rfl ?_
      refine g_iload_n (pc9 := 105) C rfl 0 dX11_orders_104 rfl rfl ?_
      refine g_iald (x := nI (I u)) (pc9 := 106) C rfl (28) (u) dX11_orders_105 (by decide) (ce_28 w (sJ (sI (sJ (sN σ (0) 0 (nI (0))) (27) (vp_updL g k a.1)) (28) (upd h k (nI a.2))) (29) (d))) rfl (by omega) (by decide) ((congrFun ((iA_J).trans (iA_s)) _).trans ((pk_un (by omega)).trans hhu)) ?_
      refine g_iaddN (pc9 := 107) C rfl dX11_orders_106 ?_
      refine g_aload_n (pc9 := 108) C rfl 2 dX11_orders_107 rfl rfl ?_
      refine g_get (v := .ref (w.1 (28))) (pc9 := 111) C rfl (0) 37 dX11_orders_108 (by decide) (ce_0 w (sJ (sI (sJ (sN σ (0) 0 (nI (0))) (27) (vp_updL g k a.1)) (28) (upd h k (nI a.2))) (29) (d))) hin_11 hl_101 rfl (by decide) rfl rfl ?_
      refine g_iload_n (pc9 := 112) C rfl 0 dX11_orders_111 rfl rfl ?_
      refine g_iald (x := nI (I u)) (pc9 := 113) C rfl (28) (u) dX11_orders_112 (by decide) (ce_28 w (sJ (sI (sJ (sN σ (0) 0 (nI (0))) (27) (vp_updL g k a.1)) (28) (upd h k (nI a.2))) (29) (d))) rfl (by omega) (by decide) ((congrFun ((iA_J).trans (iA_s)) _).trans ((pk_un (by omega)).trans hhu)) ?_
      refine g_callVl (nn := 2) (rest := [.long (g u), .long (a.1), .int (nI (k)), .ref (w.1 (27))]) (pc9 := 116) C rfl (0) [.int (nI ((a.2) + (I u))), .int (nI (I u))] rfl dX11_orders_113 (m_X11_chooses l w (sJ (sI (sJ (sN σ (0) 0 (nI (0))) (27) (vp_updL g k a.1)) (28) (upd h k (nI a.2))) (29) (d)) (a.2 + I u) (I u) (by omega) (by omega)) gX11_orders_X11_chooses (by decide) (ce_0 w (sJ (sI (sJ (sN σ (0) 0 (nI (0))) (27) (vp_updL g k a.1)) (28) (upd h k (nI a.2))) (29) (d))) rfl rfl rfl rfl rfl (by decide +kernel) ⟨by decide, by decide⟩ rfl (Nat.le_of_ble_eq_true rfl) ⟨by decide, by decide⟩ (fun r_3 σ_3 q_3 => ?_)
      obtain ⟨⟨d9, qs_3⟩, qr_3⟩ := q_3
      rw [sJ_sJ] at qs_3
      rw [qs_3, qr_3]
      refine g_lmul (pc9 := 117) C rfl dX11_orders_116 ?_
      refine g_lmul (pc9 := 118) C rfl dX11_orders_117 ?_
      refine g_last (pc9 := 119) C rfl (27) (k) (vp_updL g k a.1) dX11_orders_118 (by decide) (fun _ => rfl) (ce_27 w (sJ (sI (sJ (sN σ (0) 0 (nI (0))) (27) (vp_updL g k a.1)) (28) (upd h k (nI a.2))) (29) (d9))) rfl (by omega) (by decide) (((jA_n (by decide)).trans (jA_I)).trans (jA_s)) ?_
      rw [sJ_cm (a := 29) (b := 27) (by decide), sJ_sI (a := 28) (b := 27), sJ_sJ (a := 27)]
      refine g_aload_n (pc9 := 120) C rfl 2 dX11_orders_119 rfl rfl ?_
      refine g_get (v := .ref (w.1 (28))) (pc9 := 123) C rfl (0) 37 dX11_orders_120 (by decide) (ce_0 w (sJ (sI (sJ (sN σ (0) 0 (nI (0))) (27) (vp_updL (vp_updL g k a.1) (k) ((a.1) * ((g u) * (cho (a.2 + I u) (I u)))))) (28) (upd h k (nI a.2))) (29) (d9))) hin_11 hl_101 rfl (by decide) rfl rfl ?_
      refine g_iload_n (pc9 := 124) C rfl 1 dX11_orders_123 rfl rfl ?_
      refine g_dup2 (pc9 := 125) C rfl dX11_orders_124 rfl rfl ?_
      refine g_iald (x := nI (a.2)) (pc9 := 126) C rfl (28) (k) dX11_orders_125 (by decide) (ce_28 w (sJ (sI (sJ (sN σ (0) 0 (nI (0))) (27) (vp_updL (vp_updL g k a.1) (k) ((a.1) * ((g u) * (cho (a.2 + I u) (I u)))))) (28) (upd h k (nI a.2))) (29) (d9))) rfl (by omega) (by decide) ((congrFun ((iA_J).trans (iA_s)) _).trans pk_us) ?_
      refine g_aload_n (pc9 := 127) C rfl 2 dX11_orders_126 rfl rfl ?_
      refine g_get (v := .ref (w.1 (28))) (pc9 := 130) C rfl (0) 37 dX11_orders_127 (by decide) (ce_0 w (sJ (sI (sJ (sN σ (0) 0 (nI (0))) (27) (vp_updL (vp_updL g k a.1) (k) ((a.1) * ((g u) * (cho (a.2 + I u) (I u)))))) (28) (upd h k (nI a.2))) (29) (d9))) hin_11 hl_101 rfl (by decide) rfl rfl ?_
      refine g_iload_n (pc9 := 131) C rfl 0 dX11_orders_130 rfl rfl ?_
      refine g_iald (x := nI (I u)) (pc9 := 132) C rfl (28) (u) dX11_orders_131 (by decide) (ce_28 w (sJ (sI (sJ (sN σ (0) 0 (nI (0))) (27) (vp_updL (vp_updL g k a.1) (k) ((a.1) * ((g u) * (cho (a.2 + I u) (I u)))))) (28) (upd h k (nI a.2))) (29) (d9))) rfl (by omega) (by decide) ((congrFun ((iA_J).trans (iA_s)) _).trans ((pk_un (by omega)).trans hhu)) ?_
      refine g_iaddN (pc9 := 133) C rfl dX11_orders_132 ?_
      refine g_iast (pc9 := 134) C rfl (28) (k) (upd h k (nI a.2)) dX11_orders_133 (by decide) (fun _ => rfl) (ce_28 w (sJ (sI (sJ (sN σ (0) 0 (nI (0))) (27) (vp_updL (vp_updL g k a.1) (k) ((a.1) * ((g u) * (cho (a.2 + I u) (I u)))))) (28) (upd h k (nI a.2))) (29) (d9))) rfl (by omega) (by decide) ((iA_J).trans (iA_s)) ?_
      rw [sI_sJ (a := 28) (b := 29), sI_sI (a := 28)]
      refine g_aload_n (pc9 := 135) C rfl 2 dX11_orders_134 rfl rfl ?_
      refine g_iload_n (pc9 := 136) C rfl 3 dX11_orders_135 rfl rfl ?_
      refine g_iload_n (pc9 := 137) C rfl 1 dX11_orders_136 rfl rfl ?_
      refine g_iload_n (pc9 := 138) C rfl 0 dX11_orders_137 rfl rfl ?_
      refine g_callVi (nn := 3) (rest := []) (pc9 := 141) C rfl (0) [.int (nI (i)), .int (nI (k)), .int (nI (u))] rfl dX11_orders_138 (m_X11_child l w (sJ (sI (sJ (sN σ (0) 0 (nI (0))) (27) (vp_updL (vp_updL g k a.1) (k) ((a.1) * ((g u) * (cho (a.2 + I u) (I u)))))) (28) (upd (upd h k (nI a.2)) (k) (nI ((a.2) + (I u))))) (29) (d9)) i hb_i (hM i hb_i) k u (show u < mN σ i by omega) (by omega)) gX11_orders_X11_child (by decide) (ce_0 w (sJ (sI (sJ (sN σ (0) 0 (nI (0))) (27) (vp_updL (vp_updL g k a.1) (k) ((a.1) * ((g u) * (cho (a.2 + I u) (I u)))))) (28) (upd (upd h k (nI a.2)) (k) (nI ((a.2) + (I u))))) (29) (d9))) rfl rfl rfl rfl rfl (by decide +kernel) ⟨by decide, by decide⟩ rfl (Nat.le_of_ble_eq_true rfl) ⟨by decide, by decide⟩ (fun r_4 σ_4 q_4 => ?_)
      obtain ⟨qs_4, hnx2⟩ := q_4
      rw [qs_4]
      replace hnx2 : nxC σ i k u r_4 := hnx2
      refine g_istore_n (pc9 := 142) C rfl [(3, .int (r_4)), (2, .int (nI (k))), (0, .ref (w.1 (0))), (1, .int (nI (i)))] dX11_orders_141 rfl (by decide) rfl ?_
      refine g_goto C 76 dX11_orders_142 rfl ?_
      refine g_sub [0, 1, 2, 3] [(3, .int (r_4)), (2, .int (nI (k))), (0, .ref (w.1 (0))), (1, .int (nI (i)))] rfl ?_
      refine g_st (σ9 := sJ (sI (sJ (sN σ (0) 0 (nI (0))) (27) (vp_updL g k (a.1 * (g u * cho (a.2 + I u) (I u)), a.2 + I u).1)) (28) (upd h k (nI (a.1 * (g u * cho (a.2 + I u) (I u)), a.2 + I u).2))) (29) (d9)) (by rw [updL_updL, upd_upd]) ?_
      exact ih _ _ _ (moR_nx hu1 hu2 hu3 hy hnx2) (nx_mu (by omega) hu2 hnx2)
theorem mo_s {σ : St} {i k : Nat} {g : Nat → Int64} {I : Nat → Nat} {a : Int64 × Nat} (hE : moE σ i g I (k + 1)) (ha : a = moR σ i k g I (mN σ i)) : moE σ i (vp_updL g k a.1) I k := by
  intro x hx hn
  by_cases e : x = k
  · subst e
    rw [pk_usL, ha]
    exact congrArg Prod.fst (moR_c (fun u hu => (pk_unL (by omega)).symm))
  · rw [pk_unL e, hE x (by omega) hn]
    exact congrArg Prod.fst (moR_c (fun u hu => (pk_unL (by omega)).symm))
theorem moh_s {σ : St} {i k : Nat} {h : Nat → Int32} {I : Nat → Nat} (hH : ∀ u, k + 1 ≤ u → u < mN σ i → h u = nI (I u)) : ∀ u, k ≤ u → u < mN σ i → upd h k (nI (I k)) u = nI (I u) := by
  intro u h1 h2
  by_cases e : u = k
  · rw [e, pk_us]
  · rw [pk_un e]; exact hH u (by omega) h2
set_option maxRecDepth 100000 in
set_option maxHeartbeats 4000000 in
theorem m_X11_orders (l : Launch) (w : Wd) (σ : St) (hM : ∀ i, i < 8 → mtOk σ i) (x : Int32) (hO : ∀ i, i < 8 → ¬ mN σ i = 0 → ∃ I, moI σ i I ∧ ∀ v, v < mN σ i → I v ≤ 29) : ML l yX11_orders wsX11_orders (rmL 2) w [.ref (w.1 (0)), .int (x)] (σ) (morP σ x) := by
  refine ML_of (cc := cX11_orders) (maxL := 4) (ret := .long) (by decide) rfl (Nat.le_of_ble_eq_true rfl) ?_
  intro p e s m args below meth c A C hr hlk
  have C : Cx p s m args c w A cX11_orders RX11 4 wsX11_orders := C
  have hin_11 : ∀ u ∈ wsX110, u ∈ wsX11_orders := by decide +kernel
  have hl_17 : Cond.fieldLink RX11 17 "LineageBenchModel" "many" "[I" ∈ wsX11_orders := by decide +kernel
  have hl_24 : Cond.fieldLink RX11 24 "LineageBenchModel" "kind" "[I" ∈ wsX11_orders := by decide +kernel
  have hl_98 : Cond.fieldLink RX11 98 "LineageBenchModel" "ways" "[J" ∈ wsX11_orders := by decide +kernel
  have hl_101 : Cond.fieldLink RX11 101 "LineageBenchModel" "inner" "[I" ∈ wsX11_orders := by decide +kernel
  have hl_107 : Cond.fieldLink RX11 107 "LineageBenchModel" "thrown" "I" ∈ wsX11_orders := by decide +kernel
  refine g_aload_n (pc9 := 1) C rfl 0 dX11_orders_0 rfl rfl ?_
  refine g_iconst (pc9 := 2) C rfl (nI (0)) dX11_orders_1 rfl ?_
  refine g_put (pc9 := 5) C rfl (0) 0 dX11_orders_2 (by decide) (ce_0 w (σ)) (rfl) hin_11 hl_107 tyX11 tyX11_ok nmX11 rfl (by decide) rfl rfl rfl (Nat.le_of_ble_eq_true rfl) ?_
  refine g_aload_n (pc9 := 6) C rfl 0 dX11_orders_5 rfl rfl ?_
  refine g_iload_n (pc9 := 7) C rfl 1 dX11_orders_6 rfl rfl ?_
  refine g_callSi (nn := 1) (rest := [.ref (w.1 (0))]) (pc9 := 10) C rfl [.int (x)] rfl dX11_orders_7 (m_X11_noShelf l w (sN σ (0) 0 (nI (0))) x) gX11_orders_X11_noShelf rfl rfl rfl (by decide +kernel) ⟨by decide, by decide⟩ rfl (Nat.le_of_ble_eq_true rfl) ⟨by decide, by decide⟩ (fun r_1 σ_1 q_1 => ?_)
  obtain ⟨qs_1, qr_1⟩ := q_1
  rw [qs_1, qr_1]
  clear qs_1 qr_1
  refine g_iconst (pc9 := 11) C rfl (nI (1)) dX11_orders_10 rfl ?_
  refine g_callVi (nn := 2) (rest := []) (pc9 := 14) C rfl (0) [.int (pI (¬ okI 8 x)), .int (nI (1))] rfl dX11_orders_11 (m_throwsP l w (sN σ (0) 0 (nI (0))) (¬ okI 8 x) 1) gX11_orders_X11_throwsIf (by decide) (ce_0 w (sN σ (0) 0 (nI (0)))) rfl rfl rfl rfl rfl (by decide +kernel) ⟨by decide, by decide⟩ rfl (Nat.le_of_ble_eq_true rfl) ⟨by decide, by decide⟩ (fun r_2 σ_2 q_2 => ?_)
  obtain ⟨qr_2, qt_2, qf_2⟩ := q_2
  rw [qr_2]
  refine g_if_ne (pc9 := 17) C rfl 39 dX11_orders_14 rfl (fun c_3 => ?_) (fun c_3 => ?_)
  · have hns : ¬ okI 8 x := pI_ye c_3
    refine g_st (σ9 := sN σ (0) 0 (nI (1))) ((qt_2 hns).trans (by show sN (sN σ (0) 0 (nI (0))) (0) 0 (nI (1)) = sN σ (0) 0 (nI (1)); rw [sN_sN])) ?_
    refine g_lconst (pc9 := 40) C rfl (0) dX11_orders_39 rfl ?_
    exact g_lreturn C hr hlk dX11_orders_40 (by first | exact Or.inl (Or.inl ⟨hns, rfl⟩) | exact Or.inl (Or.inr ⟨i, hb_i, rfl, hz_i, rfl⟩))
  · have hns : ¬ (¬ okI 8 x) := pI_no c_3
    rw [qf_2 hns]
    obtain ⟨i, hb_i, hx_i⟩ := Classical.not_not.mp hns
    subst hx_i
    refine g_aload_n (pc9 := 18) C rfl 0 dX11_orders_17 rfl rfl ?_
    refine g_aload_n (pc9 := 19) C rfl 0 dX11_orders_18 rfl rfl ?_
    refine g_get (v := .ref (w.1 (2))) (pc9 := 22) C rfl (0) 5 dX11_orders_19 (by decide) (ce_0 w (sN σ (0) 0 (nI (0)))) hin_11 hl_17 rfl (by decide) rfl rfl ?_
    refine g_iload_n (pc9 := 23) C rfl 1 dX11_orders_22 rfl rfl ?_
    refine g_iald (x := nI (mN σ (i))) (pc9 := 24) C rfl (2) (i) dX11_orders_23 (by decide) (ce_2 w (sN σ (0) 0 (nI (0)))) rfl (by omega) (by decide) ((congrFun (iA_N) _).trans (hM i hb_i).1) ?_
    have h47_i := (hM i hb_i).2.1
    refine g_if_ne (pc9 := 27) C rfl 31 dX11_orders_24 rfl (fun c_4 => ?_) (fun c_4 => ?_)
    · replace c_4 := (not_congr (z_eq (by omega))).mp c_4
      have hz_i : ¬ mN σ i = 0 := by omega
      refine g_iconst (pc9 := 32) C rfl (nI (0)) dX11_orders_31 rfl ?_
      refine g_iconst (pc9 := 33) C rfl (nI (2)) dX11_orders_32 rfl ?_
      refine g_callVi (nn := 2) (rest := []) (pc9 := 36) C rfl (0) [.int (nI (0)), .int (nI (2))] rfl dX11_orders_33 (m_throws0 l w (sN σ (0) 0 (nI (0))) 2) gX11_orders_X11_throwsIf (by decide) (ce_0 w (sN σ (0) 0 (nI (0)))) rfl rfl rfl rfl rfl (by decide +kernel) ⟨by decide, by decide⟩ rfl (Nat.le_of_ble_eq_true rfl) ⟨by decide, by decide⟩ (fun r_5 σ_5 q_5 => ?_)
      obtain ⟨qs_5, qr_5⟩ := q_5
      rw [qs_5, qr_5]
      refine g_if_eq (pc9 := 39) C rfl 41 dX11_orders_36 rfl (fun c_6 => ?_) (fun c_6 => ?_)
      · refine g_aload_n (pc9 := 42) C rfl 0 dX11_orders_41 rfl rfl ?_
        refine g_get (v := .ref (w.1 (2))) (pc9 := 45) C rfl (0) 5 dX11_orders_42 (by decide) (ce_0 w (sN σ (0) 0 (nI (0)))) hin_11 hl_17 rfl (by decide) rfl rfl ?_
        refine g_iload_n (pc9 := 46) C rfl 1 dX11_orders_45 rfl rfl ?_
        refine g_iald (x := nI (mN σ (i))) (pc9 := 47) C rfl (2) (i) dX11_orders_46 (by decide) (ce_2 w (sN σ (0) 0 (nI (0)))) rfl (by omega) (by decide) ((congrFun (iA_N) _).trans (hM i hb_i).1) ?_
        refine g_iconst (pc9 := 48) C rfl (nI (1)) dX11_orders_47 rfl ?_
        refine g_isubN (pc9 := 49) C rfl dX11_orders_48 (by omega) ?_
        refine g_istore_n (pc9 := 50) C rfl [(2, .int (nI ((mN σ (i)) - (1)))), (0, .ref (w.1 (0))), (1, .int (nI (i)))] dX11_orders_49 rfl (by decide) rfl ?_
        obtain ⟨I, hI9, hB⟩ := hO i hb_i hz_i
        refine g_sub [0, 1, 2] [(2, .int (nI ((mN σ (i)) - (1)))), (0, .ref (w.1 (0))), (1, .int (nI (i)))] rfl ?_
        refine g_st (σ9 := sJ (sI (sJ (sN σ (0) 0 (nI (0))) (27) (jA σ 27)) (28) (iA σ 28)) (29) (jA σ 29)) (by rw [show sJ (mT σ 0) 27 (jA σ 27) = mT σ 0 from sJ_self, show sI (mT σ 0) 28 (iA σ 28) = mT σ 0 from sI_self]; exact (show sJ (mT σ 0) 29 (jA (mT σ 0) 29) = mT σ 0 from sJ_self).symm) ?_
        rw [show nI (mN σ i - 1) = dn (mN σ i) from (dn_s (by omega)).symm]
        refine g_lp4 (α := Nat) (β := Nat → Int64) (γ := Nat → Int32) (δ := Nat → Int64) (fun K g h d => K ≤ mN σ i ∧ moE σ i g I K ∧ ∀ u, K ≤ u → u < mN σ i → h u = nI (I u)) (fun K g h d => K) (fun K g h d => G p l e _ s m args below meth c _ w A _ (sJ (sI (sJ (sN σ (0) 0 (nI (0))) (27) (g)) (28) (h)) (29) (d)) 0 0 50 [(2, .int (dn K)), (0, .ref (w.1 (0))), (1, .int (nI (i)))] []) (fun K g h d hI ih => ?_) (mN σ i) (jA σ 27) (iA σ 28) (jA σ 29) ⟨Nat.le_refl _, fun x h1 h2 => absurd h1 (by omega), fun x h1 h2 => absurd h1 (by omega)⟩
        obtain ⟨hK, hE, hH⟩ := hI
        rcases Nat.eq_zero_or_pos K with hK0 | hK0
        · subst hK0
          rw [dn_0]
          refine g_iload_n (pc9 := 51) C rfl 0 dX11_orders_50 rfl rfl ?_
          refine g_if_lt (pc9 := 54) C rfl 175 dX11_orders_51 rfl (fun c_7 => ?_) (fun c_7 => ?_)
          · refine g_aload_n (pc9 := 176) C rfl 1 dX11_orders_175 rfl rfl ?_
            refine g_get (v := .ref (w.1 (27))) (pc9 := 179) C rfl (0) 36 dX11_orders_176 (by decide) (ce_0 w (sJ (sI (sJ (sN σ (0) 0 (nI (0))) (27) (g)) (28) (h)) (29) (d))) hin_11 hl_98 rfl (by decide) rfl rfl ?_
            refine g_iconst (pc9 := 180) C rfl (nI (0)) dX11_orders_179 rfl ?_
            refine g_lald (x := g (0)) (pc9 := 181) C rfl (27) (0) dX11_orders_180 (by decide) (ce_27 w (sJ (sI (sJ (sN σ (0) 0 (nI (0))) (27) (g)) (28) (h)) (29) (d))) rfl (by omega) (by decide) (congrFun (((jA_n (by decide)).trans (jA_I)).trans (jA_s)) _) ?_
            exact g_lreturn C hr hlk dX11_orders_181 (Or.inr ⟨i, g, I, h, d, hb_i, rfl, hz_i, hI9, hE, rfl, rfl⟩)
          · exact absurd (by decide) c_7
        · rw [dn_s hK0]
          obtain ⟨k, rfl⟩ : ∃ z, K = z + 1 := ⟨K - 1, by omega⟩
          rw [show k + 1 - 1 = k by omega]
          have hKi := (hM i hb_i).2.2.2.2 k (by omega)
          refine g_iload_n (pc9 := 51) C rfl 0 dX11_orders_50 rfl rfl ?_
          refine g_if_lt (pc9 := 54) C rfl 175 dX11_orders_51 rfl (fun c_8 => ?_) (fun c_8 => ?_)
          · replace c_8 := (z_lt (by omega)).mp c_8
            exact absurd c_8 (by simp)
          · replace c_8 := (not_congr (z_lt (by omega))).mp c_8
            refine g_aload_n (pc9 := 55) C rfl 1 dX11_orders_54 rfl rfl ?_
            refine g_get (v := .ref (w.1 (28))) (pc9 := 58) C rfl (0) 37 dX11_orders_55 (by decide) (ce_0 w (sJ (sI (sJ (sN σ (0) 0 (nI (0))) (27) (g)) (28) (h)) (29) (d))) hin_11 hl_101 rfl (by decide) rfl rfl ?_
            refine g_iload_n (pc9 := 59) C rfl 0 dX11_orders_58 rfl rfl ?_
            refine g_iconst (pc9 := 60) C rfl (nI (0)) dX11_orders_59 rfl ?_
            refine g_iast (pc9 := 61) C rfl (28) (k) (h) dX11_orders_60 (by decide) (fun _ => rfl) (ce_28 w (sJ (sI (sJ (sN σ (0) 0 (nI (0))) (27) (g)) (28) (h)) (29) (d))) rfl (by omega) (by decide) ((iA_J).trans (iA_s)) ?_
            rw [sI_sJ (a := 28) (b := 29), sI_sI (a := 28)]
            refine g_aload_n (pc9 := 62) C rfl 1 dX11_orders_61 rfl rfl ?_
            refine g_get (v := .ref (w.1 (27))) (pc9 := 65) C rfl (0) 36 dX11_orders_62 (by decide) (ce_0 w (sJ (sI (sJ (sN σ (0) 0 (nI (0))) (27) (g)) (28) (upd (h) (k) (nI (0)))) (29) (d))) hin_11 hl_98 rfl (by decide) rfl rfl ?_
            refine g_iload_n (pc9 := 66) C rfl 0 dX11_orders_65 rfl rfl ?_
            refine g_lconst (pc9 := 67) C rfl (1) dX11_orders_66 rfl ?_
            refine g_last (pc9 := 68) C rfl (27) (k) (g) dX11_orders_67 (by decide) (fun _ => rfl) (ce_27 w (sJ (sI (sJ (sN σ (0) 0 (nI (0))) (27) (g)) (28) (upd (h) (k) (nI (0)))) (29) (d))) rfl (by omega) (by decide) (((jA_n (by decide)).trans (jA_I)).trans (jA_s)) ?_
            rw [sJ_cm (a := 29) (b := 27) (by decide), sJ_sI (a := 28) (b := 27), sJ_sJ (a := 27)]
            refine g_aload_n (pc9 := 69) C rfl 1 dX11_orders_68 rfl rfl ?_
            refine g_iload_n (pc9 := 70) C rfl 2 dX11_orders_69 rfl rfl ?_
            refine g_iload_n (pc9 := 71) C rfl 0 dX11_orders_70 rfl rfl ?_
            refine g_iload_n (pc9 := 72) C rfl 0 dX11_orders_71 rfl rfl ?_
            refine g_callVi (nn := 3) (rest := []) (pc9 := 75) C rfl (0) [.int (nI (i)), .int (nI (k)), .int (nI (k))] rfl dX11_orders_72 (m_X11_child l w (sJ (sI (sJ (sN σ (0) 0 (nI (0))) (27) (vp_updL (g) (k) ((1)))) (28) (upd (h) (k) (nI (0)))) (29) (d)) i hb_i (hM i hb_i) k k (show k < mN σ i by omega) (by omega)) gX11_orders_X11_child (by decide) (ce_0 w (sJ (sI (sJ (sN σ (0) 0 (nI (0))) (27) (vp_updL (g) (k) ((1)))) (28) (upd (h) (k) (nI (0)))) (29) (d))) rfl rfl rfl rfl rfl (by decide +kernel) ⟨by decide, by decide⟩ rfl (Nat.le_of_ble_eq_true rfl) ⟨by decide, by decide⟩ (fun r_9 σ_9 q_9 => ?_)
            obtain ⟨qs_9, hnx⟩ := q_9
            rw [qs_9]
            replace hnx : nxC σ i k k r_9 := hnx
            refine g_istore_n (pc9 := 76) C rfl [(3, .int (r_9)), (2, .int (nI (k))), (0, .ref (w.1 (0))), (1, .int (nI (i)))] dX11_orders_75 rfl (by decide) rfl ?_
            refine g_sub [0, 1, 2, 3] [(3, .int (r_9)), (2, .int (nI (k))), (0, .ref (w.1 (0))), (1, .int (nI (i)))] rfl ?_
            refine m13_kids C σ hM i hb_i I hI9 hB k (by omega) g h (fun u h1 h2 => hH u (by omega) h2) d (r_9) hnx (fun a d9 hy => ?_)
            have hv := hI9 k (by omega)
            have h2 : a.2 = cfo (mCq σ i k) (fun u a => a + I u) 0 (mN σ i) := by rw [hy]; exact moR_2 _
            rw [← h2] at hv
            refine g_aload_n (pc9 := 146) C rfl 2 dX11_orders_145 rfl rfl ?_
            refine g_get (v := .ref (w.1 (4))) (pc9 := 149) C rfl (0) 7 dX11_orders_146 (by decide) (ce_0 w (sJ (sI (sJ (sN σ (0) 0 (nI (0))) (27) (vp_updL g k a.1)) (28) (upd h k (nI a.2))) (29) (d9))) hin_11 hl_24 rfl (by decide) rfl rfl ?_
            refine g_bipush (pc9 := 151) C rfl (nI (47)) dX11_orders_149 rfl ?_
            refine g_iload_n (pc9 := 152) C rfl 3 dX11_orders_151 rfl rfl ?_
            refine g_imulN (pc9 := 153) C rfl dX11_orders_152 ?_
            refine g_iload_n (pc9 := 154) C rfl 1 dX11_orders_153 rfl rfl ?_
            refine g_iaddN (pc9 := 155) C rfl dX11_orders_154 ?_
            refine g_iald (x := (iA σ (4)) ((47 * i) + k)) (pc9 := 156) C rfl (4) ((47 * i) + k) dX11_orders_155 (by decide) (ce_4 w (sJ (sI (sJ (sN σ (0) 0 (nI (0))) (27) (vp_updL g k a.1)) (28) (upd h k (nI a.2))) (29) (d9))) rfl (by omega) (by decide) (congrFun ((((iA_J).trans (iA_n (by decide))).trans (iA_J)).trans (iA_N)) _) ?_
            refine g_if_ge (pc9 := 159) C rfl 169 dX11_orders_156 rfl (fun c_10 => ?_) (fun c_10 => ?_)
            · have hiv : I k = a.2 := by rw [hv, if_neg (Int32.not_lt.mpr c_10)]; rfl
              refine g_iinc (pc9 := 172) C rfl [(2, .int (dn k)), (3, .int (-1)), (0, .ref (w.1 (0))), (1, .int (nI (i)))] 1 (dn k) dX11_orders_169 rfl rfl (by decide) rfl ?_
              refine g_goto C 50 dX11_orders_172 rfl ?_
              refine g_sub [0, 2, 3] [(2, .int (dn k)), (0, .ref (w.1 (0))), (1, .int (nI (i)))] rfl ?_
              refine g_st (σ9 := sJ (sI (sJ (sN σ (0) 0 (nI (0))) (27) (vp_updL g k a.1)) (28) (upd h k (nI (I k)))) (29) (d9)) (by first | (rw [hiv]; done) | rw [hiv, upd_upd]) ?_
              exact ih k _ _ _ ⟨by omega, mo_s hE hy, moh_s hH⟩ (by omega)
            · have hiv : I k = a.2 + 1 := by rw [hv, if_pos (Int32.not_le.mp c_10)]
              refine g_aload_n (pc9 := 160) C rfl 2 dX11_orders_159 rfl rfl ?_
              refine g_get (v := .ref (w.1 (28))) (pc9 := 163) C rfl (0) 37 dX11_orders_160 (by decide) (ce_0 w (sJ (sI (sJ (sN σ (0) 0 (nI (0))) (27) (vp_updL g k a.1)) (28) (upd h k (nI a.2))) (29) (d9))) hin_11 hl_101 rfl (by decide) rfl rfl ?_
              refine g_iload_n (pc9 := 164) C rfl 1 dX11_orders_163 rfl rfl ?_
              refine g_dup2 (pc9 := 165) C rfl dX11_orders_164 rfl rfl ?_
              refine g_iald (x := nI (a.2)) (pc9 := 166) C rfl (28) (k) dX11_orders_165 (by decide) (ce_28 w (sJ (sI (sJ (sN σ (0) 0 (nI (0))) (27) (vp_updL g k a.1)) (28) (upd h k (nI a.2))) (29) (d9))) rfl (by omega) (by decide) ((congrFun ((iA_J).trans (iA_s)) _).trans pk_us) ?_
              refine g_iconst (pc9 := 167) C rfl (nI (1)) dX11_orders_166 rfl ?_
              refine g_iaddN (pc9 := 168) C rfl dX11_orders_167 ?_
              refine g_iast (pc9 := 169) C rfl (28) (k) (upd h k (nI a.2)) dX11_orders_168 (by decide) (fun _ => rfl) (ce_28 w (sJ (sI (sJ (sN σ (0) 0 (nI (0))) (27) (vp_updL g k a.1)) (28) (upd h k (nI a.2))) (29) (d9))) rfl (by omega) (by decide) ((iA_J).trans (iA_s)) ?_
              rw [sI_sJ (a := 28) (b := 29), sI_sI (a := 28)]
              refine g_iinc (pc9 := 172) C rfl [(2, .int (dn k)), (3, .int (-1)), (0, .ref (w.1 (0))), (1, .int (nI (i)))] 1 (dn k) dX11_orders_169 rfl rfl (by decide) rfl ?_
              refine g_goto C 50 dX11_orders_172 rfl ?_
              refine g_sub [0, 2, 3] [(2, .int (dn k)), (0, .ref (w.1 (0))), (1, .int (nI (i)))] rfl ?_
              refine g_st (σ9 := sJ (sI (sJ (sN σ (0) 0 (nI (0))) (27) (vp_updL g k a.1)) (28) (upd h k (nI (I k)))) (29) (d9)) (by first | (rw [hiv]; done) | rw [hiv, upd_upd]) ?_
              exact ih k _ _ _ ⟨by omega, mo_s hE hy, moh_s hH⟩ (by omega)
      · exact absurd c_6 (by decide)
    · replace c_4 := (z_eq (by omega)).mp c_4
      have hz_i : mN σ i = 0 := by omega
      refine g_iconst (pc9 := 28) C rfl (nI (1)) dX11_orders_27 rfl ?_
      refine g_goto C 32 dX11_orders_28 rfl ?_
      refine g_iconst (pc9 := 33) C rfl (nI (2)) dX11_orders_32 rfl ?_
      refine g_callVi (nn := 2) (rest := []) (pc9 := 36) C rfl (0) [.int (nI (1)), .int (nI (2))] rfl dX11_orders_33 (m_throws1 l w (sN σ (0) 0 (nI (0))) 2) gX11_orders_X11_throwsIf (by decide) (ce_0 w (sN σ (0) 0 (nI (0)))) rfl rfl rfl rfl rfl (by decide +kernel) ⟨by decide, by decide⟩ rfl (Nat.le_of_ble_eq_true rfl) ⟨by decide, by decide⟩ (fun r_11 σ_11 q_11 => ?_)
      obtain ⟨qs_11, qr_11⟩ := q_11
      rw [qr_11]
      refine g_st (σ9 := sN σ (0) 0 (nI (2))) (qs_11.trans (by show sN (sN σ (0) 0 (nI (0))) (0) 0 (nI (2)) = sN σ (0) 0 (nI (2)); rw [sN_sN])) ?_
      refine g_if_eq (pc9 := 39) C rfl 41 dX11_orders_36 rfl (fun c_12 => ?_) (fun c_12 => ?_)
      · exact absurd c_12 (by decide)
      · refine g_lconst (pc9 := 40) C rfl (0) dX11_orders_39 rfl ?_
        exact g_lreturn C hr hlk dX11_orders_40 (by first | exact Or.inl (Or.inl ⟨hns, rfl⟩) | exact Or.inl (Or.inr ⟨i, hb_i, rfl, hz_i, rfl⟩))

/-! Writer: sorting children -/
/-- from 'behind' on along the next ones: the last one below v, and the one that follows -/
def insL (cmp : Nat → Int32) (nx : Nat → Int32) : Nat → Int32 → Int32 → Int32 × Int32
  | 0, a, b => (a, b)
  | k + 1, a, b => if b = -1 then (a, b) else if cmp b.toNatClampNeg < 0 then insL cmp nx k b (nx b.toNatClampNeg) else (a, b)
theorem insL_s {cmp : Nat → Int32} {nx : Nat → Int32} {t : Nat} {a b : Int32} (h : t < 47) : insL cmp nx (47 - t) a b = if b = -1 then (a, b) else if cmp b.toNatClampNeg < 0 then insL cmp nx (47 - (t + 1)) b (nx b.toNatClampNeg) else (a, b) := by
  rw [show 47 - t = (47 - (t + 1)) + 1 by omega]
  rfl
def inP (K f g : Nat → Int32) (x v : Nat) : Int32 × Int32 := insL (fun b => cmpT K f g 24 b v) g 47 (-1) (f x)
def inF (K f g : Nat → Int32) (x v : Nat) : Nat → Int32 := if (inP K f g x v).1 = -1 then upd f x (nI v) else f
def inG (K f g : Nat → Int32) (x v : Nat) : Nat → Int32 := if (inP K f g x v).1 = -1 then upd g v (inP K f g x v).2 else upd (upd g v (inP K f g x v).2) (inP K f g x v).1.toNatClampNeg (nI v)
theorem ix_upd {N : Nat} {f : Nat → Int32} {k : Nat} {x : Int32} (h : ∀ u, u < N → ix N (f u)) (hx : ix N x) : ∀ u, u < N → ix N (upd f k x u) := by
  intro u hu
  by_cases q : u = k
  · rw [q, pk_us]; exact hx
  · rw [pk_un q]; exact h u hu
theorem ix_n {N u : Nat} (h : u < N) : ix N (nI u) := Or.inr ⟨u, h, rfl⟩
theorem insL_ix {cmp : Nat → Int32} {nx : Nat → Int32} (hn : ∀ u, u < 47 → ix 47 (nx u)) : ∀ (k : Nat) (a b : Int32), ix 47 a → ix 47 b → ix 47 (insL cmp nx k a b).1 ∧ ix 47 (insL cmp nx k a b).2 := by
  intro k
  induction k with
  | zero => intro a b ha hb; exact ⟨ha, hb⟩
  | succ k ih =>
    intro a b ha hb
    show ix 47 (if b = -1 then (a, b) else if cmp b.toNatClampNeg < 0 then insL cmp nx k b (nx b.toNatClampNeg) else (a, b)).1 ∧ ix 47 (if b = -1 then (a, b) else if cmp b.toNatClampNeg < 0 then insL cmp nx k b (nx b.toNatClampNeg) else (a, b)).2
    by_cases h1 : b = -1
    · rw [if_pos h1]; exact ⟨ha, hb⟩
    · rw [if_neg h1]
      obtain ⟨u, hu, rfl⟩ := hb.resolve_left h1
      rw [nI_clamp (by omega)]
      by_cases h2 : cmp u < 0
      · rw [if_pos h2]; exact ih _ _ (ix_n hu) (hn u hu)
      · rw [if_neg h2]; exact ⟨ha, ix_n hu⟩
theorem inP_ix {K f g : Nat → Int32} {x v : Nat} (hf : ∀ u, u < 47 → ix 47 (f u)) (hg : ∀ u, u < 47 → ix 47 (g u)) (hx : x < 47) : ix 47 (inP K f g x v).1 ∧ ix 47 (inP K f g x v).2 := insL_ix hg 47 _ _ (Or.inl rfl) (hf x hx)
theorem inF_ix {K f g : Nat → Int32} {x v : Nat} (hf : ∀ u, u < 47 → ix 47 (f u)) (hv : v < 47) : ∀ u, u < 47 → ix 47 (inF K f g x v u) := by
  unfold inF
  split
  · exact ix_upd hf (ix_n hv)
  · exact hf
theorem inG_ix {K f g : Nat → Int32} {x v : Nat} (hf : ∀ u, u < 47 → ix 47 (f u)) (hg : ∀ u, u < 47 → ix 47 (g u)) (hx : x < 47) (hv : v < 47) : ∀ u, u < 47 → ix 47 (inG K f g x v u) := by
  unfold inG
  split
  · exact ix_upd hg (inP_ix hf hg hx).2
  · exact ix_upd (ix_upd hg (inP_ix hf hg hx).2) (ix_n hv)
set_option maxRecDepth 100000 in
set_option maxHeartbeats 4000000 in
theorem m_X9_insertChild (l : Launch) (w : Wd) (σ : St) (j : Nat) (hj : j < 9) (f g : Nat → Int32) (hf : ∀ u, u < 47 → ix 47 (f u)) (hg : ∀ u, u < 47 → ix 47 (g u)) (x v : Nat) (hx : x < 47) (hv : v < 47) : MV l yX9_insertChild wsX9_insertChild (rmL 26) w [.ref (w.1 (36)), .ref (w.1 (64 + 5 * j)), .int (nI (x)), .int (nI (v))] (sI (sI σ (38) (f)) (39) (g)) (fun σ9 => σ9 = sI (sI σ 38 (inF (tK σ j) f g x v)) 39 (inG (tK σ j) f g x v)) := by
  refine MV_of (cc := cX9_insertChild) (maxL := 7) (by decide) rfl (Nat.le_of_ble_eq_true rfl) ?_
  intro p e s m args below meth c A C hr hlk
  have C : Cx p s m args c w A cX9_insertChild RX9 7 wsX9_insertChild := C
  have hin_9 : ∀ u ∈ wsX90, u ∈ wsX9_insertChild := by decide +kernel
  have hl_15 : Cond.fieldLink RX9 15 "LineageBench$Writer" "firstChild" "[I" ∈ wsX9_insertChild := by decide +kernel
  have hl_18 : Cond.fieldLink RX9 18 "LineageBench$Writer" "nextChild" "[I" ∈ wsX9_insertChild := by decide +kernel
  refine g_iconst (pc9 := 1) C rfl ((-1)) dX9_insertChild_0 rfl ?_
  refine g_istore (pc9 := 3) C rfl [(4, .int ((-1))), (0, .ref (w.1 (36))), (1, .ref (w.1 (64 + 5 * j))), (2, .int (nI (x))), (3, .int (nI (v)))] dX9_insertChild_1 (by decide) rfl ?_
  refine g_aload_n (pc9 := 4) C rfl 1 dX9_insertChild_3 rfl rfl ?_
  refine g_get (v := .ref (w.1 (38))) (pc9 := 7) C rfl (36) 2 dX9_insertChild_4 (by decide) (ce_36 w (sI (sI σ (38) (f)) (39) (g))) hin_9 hl_15 rfl (by decide) rfl rfl ?_
  refine g_iload_n (pc9 := 8) C rfl 3 dX9_insertChild_7 rfl rfl ?_
  refine g_iald (x := f (x)) (pc9 := 9) C rfl (38) (x) dX9_insertChild_8 (by decide) (ce_38 w (sI (sI σ (38) (f)) (39) (g))) rfl (by omega) (by decide) (congrFun ((iA_n (by decide)).trans (iA_s)) _) ?_
  refine g_istore (pc9 := 11) C rfl [(5, .int (f (x))), (4, .int ((-1))), (0, .ref (w.1 (36))), (1, .ref (w.1 (64 + 5 * j))), (2, .int (nI (x))), (3, .int (nI (v)))] dX9_insertChild_9 (by decide) rfl ?_
  refine g_iconst (pc9 := 12) C rfl (nI (0)) dX9_insertChild_11 rfl ?_
  refine g_istore (pc9 := 14) C rfl [(6, .int (nI (0))), (5, .int (f (x))), (4, .int ((-1))), (0, .ref (w.1 (36))), (1, .ref (w.1 (64 + 5 * j))), (2, .int (nI (x))), (3, .int (nI (v)))] dX9_insertChild_12 (by decide) rfl ?_
  refine g_sub [0, 1, 2, 3, 4, 5, 6] [(6, .int (nI (0))), (5, .int (f (x))), (4, .int ((-1))), (0, .ref (w.1 (36))), (1, .ref (w.1 (64 + 5 * j))), (2, .int (nI (x))), (3, .int (nI (v)))] rfl ?_
  refine g_lp3 (α := Nat) (β := Int32) (γ := Int32) (fun t b a => t ≤ 47 ∧ ix 47 a ∧ ix 47 b ∧ insL (fun b => cmpT (tK σ j) f g 24 b v) g (47 - t) a b = inP (tK σ j) f g x v) (fun t b a => 47 - t) (fun t b a => G p l e _ s m args below meth c _ w A _ (sI (sI σ (38) (f)) (39) (g)) 0 0 14 [(6, .int (nI (t))), (5, .int (b)), (4, .int (a)), (0, .ref (w.1 (36))), (1, .ref (w.1 (64 + 5 * j))), (2, .int (nI (x))), (3, .int (nI (v)))] []) (fun t b a hI ih => ?_) (0) (f x) (-1) ⟨Nat.zero_le _, Or.inl rfl, hf x hx, rfl⟩
  obtain ⟨ht, hxa, hxb, hs⟩ := hI
  refine g_iload (pc9 := 16) C rfl 0 dX9_insertChild_14 rfl ?_
  refine g_bipush (pc9 := 18) C rfl (nI (47)) dX9_insertChild_16 rfl ?_
  refine g_icmp_ge (pc9 := 21) C rfl 61 dX9_insertChild_18 rfl (fun c_1 => ?_) (fun c_1 => ?_)
  · replace c_1 := (nI_leI (by omega) (by omega)).mp c_1
    rw [show 47 - t = 0 by omega] at hs
    replace hs : (a, b) = inP (tK σ j) f g x v := hs
    have ea : (inP (tK σ j) f g x v).1 = a := by rw [← hs]
    have eb : (inP (tK σ j) f g x v).2 = b := by rw [← hs]
    by_cases hna : a = -1
    · subst hna
      refine g_aload_n (pc9 := 62) C rfl 3 dX9_insertChild_61 rfl rfl ?_
      refine g_get (v := .ref (w.1 (39))) (pc9 := 65) C rfl (36) 3 dX9_insertChild_62 (by decide) (ce_36 w (sI (sI σ (38) (f)) (39) (g))) hin_9 hl_18 rfl (by decide) rfl rfl ?_
      refine g_iload_n (pc9 := 66) C rfl 6 dX9_insertChild_65 rfl rfl ?_
      refine g_iload (pc9 := 68) C rfl 1 dX9_insertChild_66 rfl ?_
      refine g_iast (pc9 := 69) C rfl (39) (v) (g) dX9_insertChild_68 (by decide) (fun _ => rfl) (ce_39 w (sI (sI σ (38) (f)) (39) (g))) rfl (by omega) (by decide) (iA_s) ?_
      rw [sI_sI (a := 39)]
      refine g_iload (pc9 := 71) C rfl 2 dX9_insertChild_69 rfl ?_
      refine g_iconst (pc9 := 72) C rfl ((-1)) dX9_insertChild_71 rfl ?_
      refine g_icmp_ne (pc9 := 75) C rfl 85 dX9_insertChild_72 rfl (fun c_2 => ?_) (fun c_2 => ?_)
      · exact absurd rfl (by assumption)
      · refine g_aload_n (pc9 := 76) C rfl 3 dX9_insertChild_75 rfl rfl ?_
        refine g_get (v := .ref (w.1 (38))) (pc9 := 79) C rfl (36) 2 dX9_insertChild_76 (by decide) (ce_36 w (sI (sI σ (38) (f)) (39) (upd (g) (v) (b)))) hin_9 hl_15 rfl (by decide) rfl rfl ?_
        refine g_iload_n (pc9 := 80) C rfl 5 dX9_insertChild_79 rfl rfl ?_
        refine g_iload_n (pc9 := 81) C rfl 6 dX9_insertChild_80 rfl rfl ?_
        refine g_iast (pc9 := 82) C rfl (38) (x) (f) dX9_insertChild_81 (by decide) (fun _ => rfl) (ce_38 w (sI (sI σ (38) (f)) (39) (upd (g) (v) (b)))) rfl (by omega) (by decide) ((iA_n (by decide)).trans (iA_s)) ?_
        rw [sI_cm (a := 39) (b := 38) (by decide), sI_sI (a := 38)]
        refine g_goto C 93 dX9_insertChild_82 rfl ?_
        exact g_return C hr hlk dX9_insertChild_93 (by unfold inF inG; rw [if_pos ea, if_pos ea, eb])
    · obtain ⟨a9, ha9, rfl⟩ := hxa.resolve_left hna
      refine g_aload_n (pc9 := 62) C rfl 3 dX9_insertChild_61 rfl rfl ?_
      refine g_get (v := .ref (w.1 (39))) (pc9 := 65) C rfl (36) 3 dX9_insertChild_62 (by decide) (ce_36 w (sI (sI σ (38) (f)) (39) (g))) hin_9 hl_18 rfl (by decide) rfl rfl ?_
      refine g_iload_n (pc9 := 66) C rfl 6 dX9_insertChild_65 rfl rfl ?_
      refine g_iload (pc9 := 68) C rfl 1 dX9_insertChild_66 rfl ?_
      refine g_iast (pc9 := 69) C rfl (39) (v) (g) dX9_insertChild_68 (by decide) (fun _ => rfl) (ce_39 w (sI (sI σ (38) (f)) (39) (g))) rfl (by omega) (by decide) (iA_s) ?_
      rw [sI_sI (a := 39)]
      refine g_iload (pc9 := 71) C rfl 2 dX9_insertChild_69 rfl ?_
      refine g_iconst (pc9 := 72) C rfl ((-1)) dX9_insertChild_71 rfl ?_
      refine g_icmp_ne (pc9 := 75) C rfl 85 dX9_insertChild_72 rfl (fun c_3 => ?_) (fun c_3 => ?_)
      · refine g_aload_n (pc9 := 86) C rfl 3 dX9_insertChild_85 rfl rfl ?_
        refine g_get (v := .ref (w.1 (39))) (pc9 := 89) C rfl (36) 3 dX9_insertChild_86 (by decide) (ce_36 w (sI (sI σ (38) (f)) (39) (upd (g) (v) (b)))) hin_9 hl_18 rfl (by decide) rfl rfl ?_
        refine g_iload (pc9 := 91) C rfl 2 dX9_insertChild_89 rfl ?_
        refine g_iload_n (pc9 := 92) C rfl 6 dX9_insertChild_91 rfl rfl ?_
        refine g_iast (pc9 := 93) C rfl (39) (a9) (upd (g) (v) (b)) dX9_insertChild_92 (by decide) (fun _ => rfl) (ce_39 w (sI (sI σ (38) (f)) (39) (upd (g) (v) (b)))) rfl (by omega) (by decide) (iA_s) ?_
        rw [sI_sI (a := 39)]
        exact g_return C hr hlk dX9_insertChild_93 (by unfold inF inG; rw [if_neg (by rw [ea]; exact nI_m1 (by omega)), if_neg (by rw [ea]; exact nI_m1 (by omega)), eb, ea, nI_clamp (by omega)])
      · exact absurd c_3 (nI_m1 (by omega))
  · replace c_1 := (not_congr (nI_leI (by omega) (by omega))).mp c_1
    refine g_iload (pc9 := 23) C rfl 1 dX9_insertChild_21 rfl ?_
    refine g_iconst (pc9 := 24) C rfl ((-1)) dX9_insertChild_23 rfl ?_
    refine g_icmp_eq (pc9 := 27) C rfl 61 dX9_insertChild_24 rfl (fun c_4 => ?_) (fun c_4 => ?_)
    · rw [insL_s (by omega), if_pos c_4] at hs
      have ea : (inP (tK σ j) f g x v).1 = a := by rw [← hs]
      have eb : (inP (tK σ j) f g x v).2 = b := by rw [← hs]
      by_cases hna : a = -1
      · subst hna
        refine g_aload_n (pc9 := 62) C rfl 3 dX9_insertChild_61 rfl rfl ?_
        refine g_get (v := .ref (w.1 (39))) (pc9 := 65) C rfl (36) 3 dX9_insertChild_62 (by decide) (ce_36 w (sI (sI σ (38) (f)) (39) (g))) hin_9 hl_18 rfl (by decide) rfl rfl ?_
        refine g_iload_n (pc9 := 66) C rfl 6 dX9_insertChild_65 rfl rfl ?_
        refine g_iload (pc9 := 68) C rfl 1 dX9_insertChild_66 rfl ?_
        refine g_iast (pc9 := 69) C rfl (39) (v) (g) dX9_insertChild_68 (by decide) (fun _ => rfl) (ce_39 w (sI (sI σ (38) (f)) (39) (g))) rfl (by omega) (by decide) (iA_s) ?_
        rw [sI_sI (a := 39)]
        refine g_iload (pc9 := 71) C rfl 2 dX9_insertChild_69 rfl ?_
        refine g_iconst (pc9 := 72) C rfl ((-1)) dX9_insertChild_71 rfl ?_
        refine g_icmp_ne (pc9 := 75) C rfl 85 dX9_insertChild_72 rfl (fun c_5 => ?_) (fun c_5 => ?_)
        · exact absurd rfl (by assumption)
        · refine g_aload_n (pc9 := 76) C rfl 3 dX9_insertChild_75 rfl rfl ?_
          refine g_get (v := .ref (w.1 (38))) (pc9 := 79) C rfl (36) 2 dX9_insertChild_76 (by decide) (ce_36 w (sI (sI σ (38) (f)) (39) (upd (g) (v) (b)))) hin_9 hl_15 rfl (by decide) rfl rfl ?_
          refine g_iload_n (pc9 := 80) C rfl 5 dX9_insertChild_79 rfl rfl ?_
          refine g_iload_n (pc9 := 81) C rfl 6 dX9_insertChild_80 rfl rfl ?_
          refine g_iast (pc9 := 82) C rfl (38) (x) (f) dX9_insertChild_81 (by decide) (fun _ => rfl) (ce_38 w (sI (sI σ (38) (f)) (39) (upd (g) (v) (b)))) rfl (by omega) (by decide) ((iA_n (by decide)).trans (iA_s)) ?_
          rw [sI_cm (a := 39) (b := 38) (by decide), sI_sI (a := 38)]
          refine g_goto C 93 dX9_insertChild_82 rfl ?_
          exact g_return C hr hlk dX9_insertChild_93 (by unfold inF inG; rw [if_pos ea, if_pos ea, eb])
      · obtain ⟨a9, ha9, rfl⟩ := hxa.resolve_left hna
        refine g_aload_n (pc9 := 62) C rfl 3 dX9_insertChild_61 rfl rfl ?_
        refine g_get (v := .ref (w.1 (39))) (pc9 := 65) C rfl (36) 3 dX9_insertChild_62 (by decide) (ce_36 w (sI (sI σ (38) (f)) (39) (g))) hin_9 hl_18 rfl (by decide) rfl rfl ?_
        refine g_iload_n (pc9 := 66) C rfl 6 dX9_insertChild_65 rfl rfl ?_
        refine g_iload (pc9 := 68) C rfl 1 dX9_insertChild_66 rfl ?_
        refine g_iast (pc9 := 69) C rfl (39) (v) (g) dX9_insertChild_68 (by decide) (fun _ => rfl) (ce_39 w (sI (sI σ (38) (f)) (39) (g))) rfl (by omega) (by decide) (iA_s) ?_
        rw [sI_sI (a := 39)]
        refine g_iload (pc9 := 71) C rfl 2 dX9_insertChild_69 rfl ?_
        refine g_iconst (pc9 := 72) C rfl ((-1)) dX9_insertChild_71 rfl ?_
        refine g_icmp_ne (pc9 := 75) C rfl 85 dX9_insertChild_72 rfl (fun c_6 => ?_) (fun c_6 => ?_)
        · refine g_aload_n (pc9 := 86) C rfl 3 dX9_insertChild_85 rfl rfl ?_
          refine g_get (v := .ref (w.1 (39))) (pc9 := 89) C rfl (36) 3 dX9_insertChild_86 (by decide) (ce_36 w (sI (sI σ (38) (f)) (39) (upd (g) (v) (b)))) hin_9 hl_18 rfl (by decide) rfl rfl ?_
          refine g_iload (pc9 := 91) C rfl 2 dX9_insertChild_89 rfl ?_
          refine g_iload_n (pc9 := 92) C rfl 6 dX9_insertChild_91 rfl rfl ?_
          refine g_iast (pc9 := 93) C rfl (39) (a9) (upd (g) (v) (b)) dX9_insertChild_92 (by decide) (fun _ => rfl) (ce_39 w (sI (sI σ (38) (f)) (39) (upd (g) (v) (b)))) rfl (by omega) (by decide) (iA_s) ?_
          rw [sI_sI (a := 39)]
          exact g_return C hr hlk dX9_insertChild_93 (by unfold inF inG; rw [if_neg (by rw [ea]; exact nI_m1 (by omega)), if_neg (by rw [ea]; exact nI_m1 (by omega)), eb, ea, nI_clamp (by omega)])
        · exact absurd c_6 (nI_m1 (by omega))
    · have hnb := c_4
      obtain ⟨b9, hb9, rfl⟩ := hxb.resolve_left hnb
      rw [insL_s (by omega), if_neg hnb, nI_clamp (by omega)] at hs
      refine g_aload_n (pc9 := 28) C rfl 3 dX9_insertChild_27 rfl rfl ?_
      refine g_aload_n (pc9 := 29) C rfl 4 dX9_insertChild_28 rfl rfl ?_
      refine g_iload (pc9 := 31) C rfl 1 dX9_insertChild_29 rfl ?_
      refine g_iload_n (pc9 := 32) C rfl 6 dX9_insertChild_31 rfl rfl ?_
      refine g_iconst (pc9 := 33) C rfl (nI (0)) dX9_insertChild_32 rfl ?_
      refine g_callVi (nn := 4) (rest := []) (pc9 := 36) C rfl (36) [.ref (w.1 (64 + 5 * j)), .int (nI (b9)), .int (nI (v)), .int (nI (0))] rfl dX9_insertChild_33 (m_X9_compareTexts l w (sI (sI σ (38) (f)) (39) (g)) j hj (by rw [show iA (sI (sI σ (38) (f)) (39) (g)) 38 = f from ((iA_n (by decide)).trans (iA_s))]; exact hf) (by rw [show iA (sI (sI σ (38) (f)) (39) (g)) 39 = g from (iA_s)]; exact hg) 24 b9 v hb9 hv 0 rfl) gX9_insertChild_X9_compareTexts (by decide) (ce_36 w (sI (sI σ (38) (f)) (39) (g))) rfl rfl rfl rfl rfl (by decide +kernel) ⟨by decide, by decide⟩ rfl (Nat.le_of_ble_eq_true rfl) ⟨by decide, by decide⟩ (fun r_7 σ_7 q_7 => ?_)
      obtain ⟨qs_7, qr_7⟩ := q_7
      rw [show tK (sI (sI σ (38) (f)) (39) (g)) j = tK σ j from ((iA_n (by omega)).trans (iA_n (by omega))), show iA (sI (sI σ (38) (f)) (39) (g)) 38 = f from ((iA_n (by decide)).trans (iA_s)), show iA (sI (sI σ (38) (f)) (39) (g)) 39 = g from (iA_s)] at qr_7
      rw [qs_7, qr_7]
      clear qs_7 qr_7
      refine g_if_lt (pc9 := 39) C rfl 42 dX9_insertChild_36 rfl (fun c_8 => ?_) (fun c_8 => ?_)
      · rw [if_pos c_8] at hs
        refine g_iload (pc9 := 44) C rfl 1 dX9_insertChild_42 rfl ?_
        refine g_istore (pc9 := 46) C rfl [(4, .int (nI (b9))), (6, .int (nI (t))), (5, .int (nI (b9))), (0, .ref (w.1 (36))), (1, .ref (w.1 (64 + 5 * j))), (2, .int (nI (x))), (3, .int (nI (v)))] dX9_insertChild_44 (by decide) rfl ?_
        refine g_aload_n (pc9 := 47) C rfl 3 dX9_insertChild_46 rfl rfl ?_
        refine g_get (v := .ref (w.1 (39))) (pc9 := 50) C rfl (36) 3 dX9_insertChild_47 (by decide) (ce_36 w (sI (sI σ (38) (f)) (39) (g))) hin_9 hl_18 rfl (by decide) rfl rfl ?_
        refine g_iload (pc9 := 52) C rfl 2 dX9_insertChild_50 rfl ?_
        refine g_iald (x := g (b9)) (pc9 := 53) C rfl (39) (b9) dX9_insertChild_52 (by decide) (ce_39 w (sI (sI σ (38) (f)) (39) (g))) rfl (by omega) (by decide) (congrFun (iA_s) _) ?_
        refine g_istore (pc9 := 55) C rfl [(5, .int (g (b9))), (4, .int (nI (b9))), (6, .int (nI (t))), (0, .ref (w.1 (36))), (1, .ref (w.1 (64 + 5 * j))), (2, .int (nI (x))), (3, .int (nI (v)))] dX9_insertChild_53 (by decide) rfl ?_
        refine g_iinc (pc9 := 58) C rfl [(6, .int (nI (t + 1))), (5, .int (g (b9))), (4, .int (nI (b9))), (0, .ref (w.1 (36))), (1, .ref (w.1 (64 + 5 * j))), (2, .int (nI (x))), (3, .int (nI (v)))] 2 (nI (t + 1)) dX9_insertChild_55 rfl (nI_1 (t)) (by decide) rfl ?_
        refine g_goto C 14 dX9_insertChild_58 rfl ?_
        exact ih (t + 1) _ _ ⟨by omega, ix_n hb9, hg b9 hb9, hs⟩ (by omega)
      · rw [if_neg c_8] at hs
        refine g_goto C 61 dX9_insertChild_39 rfl ?_
        have hxb : ix 47 (nI b9) := ix_n hb9
        have ea : (inP (tK σ j) f g x v).1 = a := by rw [← hs]
        have eb : (inP (tK σ j) f g x v).2 = nI b9 := by rw [← hs]
        by_cases hna : a = -1
        · subst hna
          refine g_aload_n (pc9 := 62) C rfl 3 dX9_insertChild_61 rfl rfl ?_
          refine g_get (v := .ref (w.1 (39))) (pc9 := 65) C rfl (36) 3 dX9_insertChild_62 (by decide) (ce_36 w (sI (sI σ (38) (f)) (39) (g))) hin_9 hl_18 rfl (by decide) rfl rfl ?_
          refine g_iload_n (pc9 := 66) C rfl 6 dX9_insertChild_65 rfl rfl ?_
          refine g_iload (pc9 := 68) C rfl 1 dX9_insertChild_66 rfl ?_
          refine g_iast (pc9 := 69) C rfl (39) (v) (g) dX9_insertChild_68 (by decide) (fun _ => rfl) (ce_39 w (sI (sI σ (38) (f)) (39) (g))) rfl (by omega) (by decide) (iA_s) ?_
          rw [sI_sI (a := 39)]
          refine g_iload (pc9 := 71) C rfl 2 dX9_insertChild_69 rfl ?_
          refine g_iconst (pc9 := 72) C rfl ((-1)) dX9_insertChild_71 rfl ?_
          refine g_icmp_ne (pc9 := 75) C rfl 85 dX9_insertChild_72 rfl (fun c_9 => ?_) (fun c_9 => ?_)
          · exact absurd rfl (by assumption)
          · refine g_aload_n (pc9 := 76) C rfl 3 dX9_insertChild_75 rfl rfl ?_
            refine g_get (v := .ref (w.1 (38))) (pc9 := 79) C rfl (36) 2 dX9_insertChild_76 (by decide) (ce_36 w (sI (sI σ (38) (f)) (39) (upd (g) (v) (nI (b9))))) hin_9 hl_15 rfl (by decide) rfl rfl ?_
            refine g_iload_n (pc9 := 80) C rfl 5 dX9_insertChild_79 rfl rfl ?_
            refine g_iload_n (pc9 := 81) C rfl 6 dX9_insertChild_80 rfl rfl ?_
            refine g_iast (pc9 := 82) C rfl (38) (x) (f) dX9_insertChild_81 (by decide) (fun _ => rfl) (ce_38 w (sI (sI σ (38) (f)) (39) (upd (g) (v) (nI (b9))))) rfl (by omega) (by decide) ((iA_n (by decide)).trans (iA_s)) ?_
            rw [sI_cm (a := 39) (b := 38) (by decide), sI_sI (a := 38)]
            refine g_goto C 93 dX9_insertChild_82 rfl ?_
            exact g_return C hr hlk dX9_insertChild_93 (by unfold inF inG; rw [if_pos ea, if_pos ea, eb])
        · obtain ⟨a9, ha9, rfl⟩ := hxa.resolve_left hna
          refine g_aload_n (pc9 := 62) C rfl 3 dX9_insertChild_61 rfl rfl ?_
          refine g_get (v := .ref (w.1 (39))) (pc9 := 65) C rfl (36) 3 dX9_insertChild_62 (by decide) (ce_36 w (sI (sI σ (38) (f)) (39) (g))) hin_9 hl_18 rfl (by decide) rfl rfl ?_
          refine g_iload_n (pc9 := 66) C rfl 6 dX9_insertChild_65 rfl rfl ?_
          refine g_iload (pc9 := 68) C rfl 1 dX9_insertChild_66 rfl ?_
          refine g_iast (pc9 := 69) C rfl (39) (v) (g) dX9_insertChild_68 (by decide) (fun _ => rfl) (ce_39 w (sI (sI σ (38) (f)) (39) (g))) rfl (by omega) (by decide) (iA_s) ?_
          rw [sI_sI (a := 39)]
          refine g_iload (pc9 := 71) C rfl 2 dX9_insertChild_69 rfl ?_
          refine g_iconst (pc9 := 72) C rfl ((-1)) dX9_insertChild_71 rfl ?_
          refine g_icmp_ne (pc9 := 75) C rfl 85 dX9_insertChild_72 rfl (fun c_10 => ?_) (fun c_10 => ?_)
          · refine g_aload_n (pc9 := 86) C rfl 3 dX9_insertChild_85 rfl rfl ?_
            refine g_get (v := .ref (w.1 (39))) (pc9 := 89) C rfl (36) 3 dX9_insertChild_86 (by decide) (ce_36 w (sI (sI σ (38) (f)) (39) (upd (g) (v) (nI (b9))))) hin_9 hl_18 rfl (by decide) rfl rfl ?_
            refine g_iload (pc9 := 91) C rfl 2 dX9_insertChild_89 rfl ?_
            refine g_iload_n (pc9 := 92) C rfl 6 dX9_insertChild_91 rfl rfl ?_
            refine g_iast (pc9 := 93) C rfl (39) (a9) (upd (g) (v) (nI (b9))) dX9_insertChild_92 (by decide) (fun _ => rfl) (ce_39 w (sI (sI σ (38) (f)) (39) (upd (g) (v) (nI (b9))))) rfl (by omega) (by decide) (iA_s) ?_
            rw [sI_sI (a := 39)]
            exact g_return C hr hlk dX9_insertChild_93 (by unfold inF inG; rw [if_neg (by rw [ea]; exact nI_m1 (by omega)), if_neg (by rw [ea]; exact nI_m1 (by omega)), eb, ea, nI_clamp (by omega)])
          · exact absurd c_10 (nI_m1 (by omega))
/-- children sorted into their places, from the last node down -/
def soD (K : Nat → Int32) (P : Nat → Nat) : Nat → (Nat → Int32) → (Nat → Int32) → (Nat → Int32) × (Nat → Int32)
  | 0, f, g => (f, g)
  | v + 1, f, g => soD K P v (inF K f g (P (v + 1)) (v + 1)) (inG K f g (P (v + 1)) (v + 1))
theorem soD_s {K : Nat → Int32} {P : Nat → Nat} {v : Nat} {f g : Nat → Int32} (h : 0 < v) : soD K P v f g = soD K P (v - 1) (inF K f g (P v) v) (inG K f g (P v) v) := by
  obtain ⟨u, rfl⟩ : ∃ u, v = u + 1 := ⟨v - 1, by omega⟩
  rfl
abbrev soR (K : Nat → Int32) (P : Nat → Nat) (n : Nat) (f g : Nat → Int32) : (Nat → Int32) × (Nat → Int32) := soD K P (n - 1) (filF f n) (filF g n)
theorem filF_ix {f : Nat → Int32} {n : Nat} (h : ∀ u, u < 47 → ix 47 (f u)) : ∀ u, u < 47 → ix 47 (filF f n u) := by
  intro u hu
  unfold filF
  split
  · exact Or.inl rfl
  · exact h u hu
set_option maxRecDepth 100000 in
set_option maxHeartbeats 4000000 in
theorem m_X9_sortChildren (l : Launch) (w : Wd) (σ : St) (j : Nat) (hj : j < 9) (n : Nat) (hn : tN σ j = nI n) (h47 : n ≤ 47) (h0 : 0 < n) (P : Nat → Nat) (hP : ∀ v, 0 < v → v < n → tP σ j v = nI (P v) ∧ P v < v) (hf : ∀ u, u < 47 → ix 47 (iA σ 38 u)) (hg : ∀ u, u < 47 → ix 47 (iA σ 39 u)) : MV l yX9_sortChildren wsX9_sortChildren (rmL 27) w [.ref (w.1 (36)), .ref (w.1 (64 + 5 * j))] (σ) (fun σ9 => σ9 = sI (sI σ 38 (soR (tK σ j) P n (iA σ 38) (iA σ 39)).1) 39 (soR (tK σ j) P n (iA σ 38) (iA σ 39)).2) := by
  refine MV_of (cc := cX9_sortChildren) (maxL := 3) (by decide) rfl (Nat.le_of_ble_eq_true rfl) ?_
  intro p e s m args below meth c A C hr hlk
  have C : Cx p s m args c w A cX9_sortChildren RX9 3 wsX9_sortChildren := C
  have hin_7 : ∀ u ∈ wsX70, u ∈ wsX9_sortChildren := by decide +kernel
  have hin_9 : ∀ u ∈ wsX90, u ∈ wsX9_sortChildren := by decide +kernel
  have hl_15 : Cond.fieldLink RX9 15 "LineageBench$Writer" "firstChild" "[I" ∈ wsX9_sortChildren := by decide +kernel
  have hl_18 : Cond.fieldLink RX9 18 "LineageBench$Writer" "nextChild" "[I" ∈ wsX9_sortChildren := by decide +kernel
  have hl_37 : Cond.fieldLink RX9 37 "LineageBench$Tree" "nodes" "I" ∈ wsX9_sortChildren := by decide +kernel
  have hl_42 : Cond.fieldLink RX9 42 "LineageBench$Tree" "parent" "[I" ∈ wsX9_sortChildren := by decide +kernel
  refine g_st (σ9 := sI (sI σ (38) (filF (iA σ 38) (0))) (39) (filF (iA σ 39) (0))) (by rw [filF_0, filF_0, sI_self, sI_self]) ?_
  refine g_iconst (pc9 := 1) C rfl (nI (0)) dX9_sortChildren_0 rfl ?_
  refine g_istore_n (pc9 := 2) C rfl [(2, .int (nI (0))), (0, .ref (w.1 (36))), (1, .ref (w.1 (64 + 5 * j)))] dX9_sortChildren_1 rfl (by decide) rfl ?_
  refine g_sub [0, 1, 2] [(2, .int (nI (0))), (0, .ref (w.1 (36))), (1, .ref (w.1 (64 + 5 * j)))] rfl ?_
  refine g_lp1 (α := Nat) (fun v => v ≤ n) (fun v => n - v) (fun v => G p l e _ s m args below meth c _ w A _ (sI (sI σ (38) (filF (iA σ 38) (v))) (39) (filF (iA σ 39) (v))) 0 0 2 [(2, .int (nI (v))), (0, .ref (w.1 (36))), (1, .ref (w.1 (64 + 5 * j)))] []) (fun v hI ih => ?_) (0) (Nat.zero_le _)
  obtain hv := hI
  refine g_iload_n (pc9 := 3) C rfl 0 dX9_sortChildren_2 rfl rfl ?_
  refine g_aload_n (pc9 := 4) C rfl 2 dX9_sortChildren_3 rfl rfl ?_
  refine g_get (v := .int (nI (n))) (pc9 := 7) C rfl (64 + 5 * j) 4 dX9_sortChildren_4 (by omega) (ce_tree w (sI (sI σ (38) (filF (iA σ 38) (v))) (39) (filF (iA σ 39) (v))) (j)) hin_7 hl_37 rfl (by decide) rfl (congrArg (fun z => some (Value.int z)) (((nF_I).trans (nF_I)).trans hn)) ?_
  refine g_icmp_ge (pc9 := 10) C rfl 30 dX9_sortChildren_7 rfl (fun c_1 => ?_) (fun c_1 => ?_)
  · replace c_1 := (nI_leI (by omega) (by omega)).mp c_1
    refine g_aload_n (pc9 := 31) C rfl 2 dX9_sortChildren_30 rfl rfl ?_
    refine g_get (v := .int (nI (n))) (pc9 := 34) C rfl (64 + 5 * j) 4 dX9_sortChildren_31 (by omega) (ce_tree w (sI (sI σ (38) (filF (iA σ 38) (v))) (39) (filF (iA σ 39) (v))) (j)) hin_7 hl_37 rfl (by decide) rfl (congrArg (fun z => some (Value.int z)) (((nF_I).trans (nF_I)).trans hn)) ?_
    refine g_iconst (pc9 := 35) C rfl (nI (1)) dX9_sortChildren_34 rfl ?_
    refine g_isubN (pc9 := 36) C rfl dX9_sortChildren_35 (by omega) ?_
    refine g_istore_n (pc9 := 37) C rfl [(2, .int (nI (n - (1)))), (0, .ref (w.1 (36))), (1, .ref (w.1 (64 + 5 * j)))] dX9_sortChildren_36 rfl (by decide) rfl ?_
    refine g_sub [0, 1, 2] [(2, .int (nI (n - (1)))), (0, .ref (w.1 (36))), (1, .ref (w.1 (64 + 5 * j)))] rfl ?_
    refine g_lp3 (α := Nat) (β := Nat → Int32) (γ := Nat → Int32) (fun v f g => v < n ∧ (∀ u, u < 47 → ix 47 (f u)) ∧ (∀ u, u < 47 → ix 47 (g u)) ∧ soD (tK σ j) P v f g = soR (tK σ j) P n (iA σ 38) (iA σ 39)) (fun v f g => v) (fun v f g => G p l e _ s m args below meth c _ w A _ (sI (sI σ (38) (f)) (39) (g)) 0 0 37 [(2, .int (nI (v))), (0, .ref (w.1 (36))), (1, .ref (w.1 (64 + 5 * j)))] []) (fun v f g hI ih2 => ?_) (n - 1) (filF (iA σ 38) v) (filF (iA σ 39) v) ⟨by omega, filF_ix hf, filF_ix hg, by rw [show v = n by omega]⟩
    obtain ⟨hv2, hf2, hg2, hs⟩ := hI
    refine g_iload_n (pc9 := 38) C rfl 0 dX9_sortChildren_37 rfl rfl ?_
    refine g_if_le (pc9 := 41) C rfl 59 dX9_sortChildren_38 rfl (fun c_2 => ?_) (fun c_2 => ?_)
    · replace c_2 := (z_le (by omega)).mp c_2
      exact g_return C hr hlk dX9_sortChildren_59 (by rw [← hs, show v = 0 by omega]; rfl)
    · replace c_2 := (not_congr (z_le (by omega))).mp c_2
      have hPv := (hP v (by omega) (by omega)).2
      refine g_aload_n (pc9 := 42) C rfl 1 dX9_sortChildren_41 rfl rfl ?_
      refine g_aload_n (pc9 := 43) C rfl 2 dX9_sortChildren_42 rfl rfl ?_
      refine g_aload_n (pc9 := 44) C rfl 2 dX9_sortChildren_43 rfl rfl ?_
      refine g_get (v := .ref (w.1 (65 + 5 * j))) (pc9 := 47) C rfl (64 + 5 * j) 0 dX9_sortChildren_44 (by omega) (ce_tree w (sI (sI σ (38) (f)) (39) (g)) (j)) hin_7 hl_42 rfl (by decide) rfl rfl ?_
      refine g_iload_n (pc9 := 48) C rfl 0 dX9_sortChildren_47 rfl rfl ?_
      refine g_iald (x := nI (P (v))) (pc9 := 49) C rfl (65 + 5 * j) (v) dX9_sortChildren_48 (by omega) (ce_parent w (sI (sI σ (38) (f)) (39) (g)) (j)) rfl (by omega) (by decide) ((congrFun ((iA_n (by omega)).trans (iA_n (by omega))) _).trans (hP (v) (by omega) (by omega)).1) ?_
      refine g_iload_n (pc9 := 50) C rfl 0 dX9_sortChildren_49 rfl rfl ?_
      refine g_callVv (nn := 3) (rest := []) (pc9 := 53) C rfl (36) [.ref (w.1 (64 + 5 * j)), .int (nI (P (v))), .int (nI (v))] rfl dX9_sortChildren_50 (m_X9_insertChild l w σ j hj f g hf2 hg2 (P v) v (by omega) (by omega)) gX9_sortChildren_X9_insertChild (by decide) (ce_36 w (sI (sI σ (38) (f)) (39) (g))) rfl rfl rfl rfl rfl (by decide +kernel) ⟨by decide, by decide⟩ rfl (Nat.le_of_ble_eq_true rfl) ⟨by decide, by decide⟩ (fun σ_3 q_3 => ?_)
      replace q_3 : σ_3 = sI (sI σ (38) (inF (tK σ j) f g (P v) v)) (39) (inG (tK σ j) f g (P v) v) := q_3
      rw [q_3]
      clear q_3
      refine g_iinc (pc9 := 56) C rfl [(2, .int (nI (v - 1))), (0, .ref (w.1 (36))), (1, .ref (w.1 (64 + 5 * j)))] 0 (nI (v - 1)) dX9_sortChildren_53 rfl (sb_m1 (by omega)) (by decide) rfl ?_
      refine g_goto C 37 dX9_sortChildren_56 rfl ?_
      exact ih2 (v - 1) _ _ ⟨by omega, inF_ix hf2 (by omega), inG_ix hf2 hg2 (by omega) (by omega), (soD_s (by omega)).symm.trans hs⟩ (by omega)
  · replace c_1 := (not_congr (nI_leI (by omega) (by omega))).mp c_1
    refine g_aload_n (pc9 := 11) C rfl 1 dX9_sortChildren_10 rfl rfl ?_
    refine g_get (v := .ref (w.1 (38))) (pc9 := 14) C rfl (36) 2 dX9_sortChildren_11 (by decide) (ce_36 w (sI (sI σ (38) (filF (iA σ 38) (v))) (39) (filF (iA σ 39) (v)))) hin_9 hl_15 rfl (by decide) rfl rfl ?_
    refine g_iload_n (pc9 := 15) C rfl 0 dX9_sortChildren_14 rfl rfl ?_
    refine g_iconst (pc9 := 16) C rfl ((-1)) dX9_sortChildren_15 rfl ?_
    refine g_iast (pc9 := 17) C rfl (38) (v) (filF (iA σ 38) (v)) dX9_sortChildren_16 (by decide) (fun _ => rfl) (ce_38 w (sI (sI σ (38) (filF (iA σ 38) (v))) (39) (filF (iA σ 39) (v)))) rfl (by omega) (by decide) ((iA_n (by decide)).trans (iA_s)) ?_
    rw [sI_cm (a := 39) (b := 38) (by decide), sI_sI (a := 38)]
    rw [filF_s]
    refine g_aload_n (pc9 := 18) C rfl 1 dX9_sortChildren_17 rfl rfl ?_
    refine g_get (v := .ref (w.1 (39))) (pc9 := 21) C rfl (36) 3 dX9_sortChildren_18 (by decide) (ce_36 w (sI (sI σ (38) (filF (iA σ 38) (v + 1))) (39) (filF (iA σ 39) (v)))) hin_9 hl_18 rfl (by decide) rfl rfl ?_
    refine g_iload_n (pc9 := 22) C rfl 0 dX9_sortChildren_21 rfl rfl ?_
    refine g_iconst (pc9 := 23) C rfl ((-1)) dX9_sortChildren_22 rfl ?_
    refine g_iast (pc9 := 24) C rfl (39) (v) (filF (iA σ 39) (v)) dX9_sortChildren_23 (by decide) (fun _ => rfl) (ce_39 w (sI (sI σ (38) (filF (iA σ 38) (v + 1))) (39) (filF (iA σ 39) (v)))) rfl (by omega) (by decide) (iA_s) ?_
    rw [sI_sI (a := 39)]
    rw [filF_s]
    refine g_iinc (pc9 := 27) C rfl [(2, .int (nI (v + 1))), (0, .ref (w.1 (36))), (1, .ref (w.1 (64 + 5 * j)))] 0 (nI (v + 1)) dX9_sortChildren_24 rfl (nI_1 (v)) (by decide) rfl ?_
    refine g_goto C 2 dX9_sortChildren_27 rfl ?_
    exact ih (v + 1) (by omega) (by omega)

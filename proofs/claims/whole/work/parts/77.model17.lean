/-! The reference: lays, bestOf, doublings, losses -/
theorem lz_st {σ : St} {D L D9 L9 : Nat → Int32} : sI (sI (sI (sI σ 25 D) 26 L) 25 D9) 26 L9 = sI (sI σ 25 D9) 26 L9 := by
  rw [sI_cm (a := 26) (b := 25) (by decide), sI_sI, sI_sI]
/-- an inner node has two children -/
def mtT (σ : St) (i : Nat) : Prop := ∀ g, g < mN σ i → mK σ i g < 0 → ∃ o t, g < o ∧ o < mN σ i ∧ g < t ∧ t < mN σ i ∧ nxC σ i g g (nI o) ∧ nxC σ i g o (nI t)
def lzE (σ : St) (i k : Nat) (D L : Nat → Int32) (g m : Nat) : Prop := (¬ mK σ i g < 0 ∧ D (47 * g + m) = (if mK σ k m = mK σ i g then nI 0 else lzN) ∧ L (47 * g + m) = nI 0) ∨ (mK σ i g < 0 ∧ ∃ o t, g < o ∧ o < mN σ i ∧ g < t ∧ t < mN σ i ∧ nxC σ i g g (nI o) ∧ nxC σ i g o (nI t) ∧ (D (47 * g + m), L (47 * g + m)) = lz2 D L (mq σ k) o t m (mN σ k) (lzN, nI 0) (mN σ k - m))
theorem lz1_c {D L D9 L9 : Nat → Int32} {p : Nat → Nat} {o t m x : Nat} {s : LzP} (hx : x < 47) (hD : ∀ q, q < 47 → D (47 * o + q) = D9 (47 * o + q) ∧ L (47 * o + q) = L9 (47 * o + q)) (hT : ∀ q, q < 47 → D (47 * t + q) = D9 (47 * t + q) ∧ L (47 * t + q) = L9 (47 * t + q)) : ∀ u, m + u ≤ 47 → lz1 D L p o t m x s u = lz1 D9 L9 p o t m x s u
  | 0, _ => rfl
  | u + 1, h => by
    show lzS D L p o t m x (m + u) (lz1 D L p o t m x s u) = lzS D9 L9 p o t m x (m + u) (lz1 D9 L9 p o t m x s u)
    rw [lz1_c hx hD hT u (by omega)]
    unfold lzS lzX lzD lzL
    rw [(hD x hx).1, (hD x hx).2, (hT (m + u) (by omega)).1, (hT (m + u) (by omega)).2]
theorem lz2_c {D L D9 L9 : Nat → Int32} {p : Nat → Nat} {o t m n : Nat} {s : LzP} (hn : n ≤ 47) (hm : m ≤ n) (hD : ∀ q, q < 47 → D (47 * o + q) = D9 (47 * o + q) ∧ L (47 * o + q) = L9 (47 * o + q)) (hT : ∀ q, q < 47 → D (47 * t + q) = D9 (47 * t + q) ∧ L (47 * t + q) = L9 (47 * t + q)) : ∀ v, m + v ≤ n → lz2 D L p o t m n s v = lz2 D9 L9 p o t m n s v
  | 0, _ => rfl
  | v + 1, h => by
    show lz1 D L p o t m (m + v) (lz2 D L p o t m n s v) (n - m) = lz1 D9 L9 p o t m (m + v) (lz2 D9 L9 p o t m n s v) (n - m)
    rw [lz2_c hn hm hD hT v (by omega)]
    exact lz1_c (by omega) hD hT (n - m) (by omega)
theorem lzE_c {σ : St} {i k : Nat} {D L D9 L9 : Nat → Int32} {g m : Nat} (hn : mN σ k ≤ 47) (hm : m < mN σ k) (hD : ∀ y q, g < y → q < 47 → D (47 * y + q) = D9 (47 * y + q) ∧ L (47 * y + q) = L9 (47 * y + q)) (h1 : D (47 * g + m) = D9 (47 * g + m)) (h2 : L (47 * g + m) = L9 (47 * g + m)) (h : lzE σ i k D L g m) : lzE σ i k D9 L9 g m := by
  rcases h with ⟨a, b, d⟩ | ⟨a, o, t, q1, q2, q3, q4, q5, q6, q7⟩
  · exact Or.inl ⟨a, by rw [← h1]; exact b, by rw [← h2]; exact d⟩
  · refine Or.inr ⟨a, o, t, q1, q2, q3, q4, q5, q6, ?_⟩
    rw [← h1, ← h2, q7]
    exact lz2_c hn (by omega) (fun q hq => hD o q q1 hq) (fun q hq => hD t q q3 hq) _ (by omega)
theorem row_ne {g y q m : Nat} (h : g < y) (hm : m < 47) : 47 * y + q ≠ 47 * g + m := by omega
theorem row_m {g q m : Nat} (h : q ≠ m) : 47 * g + q ≠ 47 * g + m := by omega
theorem lzF_o {g u : Nat} {D D9 L L9 : Nat → Int32} {x y9 : Int32} (hof : ∀ y q, g < y → q < 47 → D (47 * y + q) = D9 (47 * y + q) ∧ L (47 * y + q) = L9 (47 * y + q)) (hu : u < 47) : ∀ y q, g < y → q < 47 → D (47 * y + q) = upd D9 (47 * g + u) x (47 * y + q) ∧ L (47 * y + q) = upd L9 (47 * g + u) y9 (47 * y + q) := by
  intro y q hy hq
  rw [pk_un (row_ne hy hu), pk_un (row_ne hy hu)]
  exact hof y q hy hq
theorem lzF_s {σ : St} {i k g u : Nat} {D9 L9 : Nat → Int32} {x y9 : Int32} (hn : mN σ k ≤ 47) (hu : u < mN σ k) (hin : ∀ m9, m9 < u → lzE σ i k D9 L9 g m9) (h : lzE σ i k (upd D9 (47 * g + u) x) (upd L9 (47 * g + u) y9) g u) : ∀ m9, m9 < u + 1 → lzE σ i k (upd D9 (47 * g + u) x) (upd L9 (47 * g + u) y9) g m9 := by
  intro m9 h9
  by_cases e : m9 = u
  · rw [e]; exact h
  · refine lzE_c hn (by omega) (fun y q hy hq => ⟨(pk_un (row_ne hy (by omega))).symm, (pk_un (row_ne hy (by omega))).symm⟩) (pk_un (row_m e)).symm (pk_un (row_m e)).symm (hin m9 (by omega))
theorem lzF_k {σ : St} {i k g u o t : Nat} {D9 L9 : Nat → Int32} (hn : mN σ k ≤ 47) (hu : u < mN σ k) (hneg : mK σ i g < 0) (h1 : g < o) (h2 : o < mN σ i) (h3 : g < t) (h4 : t < mN σ i) (h5 : nxC σ i g g (nI o)) (h6 : nxC σ i g o (nI t)) : lzE σ i k (upd D9 (47 * g + u) (lz2 D9 L9 (mq σ k) o t u (mN σ k) (lzN, nI 0) (mN σ k - u)).1) (upd L9 (47 * g + u) (lz2 D9 L9 (mq σ k) o t u (mN σ k) (lzN, nI 0) (mN σ k - u)).2) g u := by
  refine Or.inr ⟨hneg, o, t, h1, h2, h3, h4, h5, h6, ?_⟩
  rw [pk_us, pk_us]
  refine Eq.trans ?_ (lz2_c hn (by omega) (fun q hq => ⟨(pk_un (row_ne h1 (by omega))).symm, (pk_un (row_ne h1 (by omega))).symm⟩) (fun q hq => ⟨(pk_un (row_ne h3 (by omega))).symm, (pk_un (row_ne h3 (by omega))).symm⟩) _ (by omega))
  rfl
set_option maxRecDepth 100000 in
set_option maxHeartbeats 4000000 in
theorem m_X11_lays (l : Launch) (w : Wd) (σ : St) (hM : ∀ i, i < 8 → mtOk σ i) (i k : Nat) (hb_i : i < 8) (hb_k : k < 8) (h0 : 0 < mN σ i) (hT : mtT σ i) : MV l yX11_lays wsX11_lays (rmL 3) w [.ref (w.1 (0)), .int (nI (i)), .int (nI (k))] (σ) (fun σ9 => ∃ D L, (∀ x, x < mN σ i → ∀ m9, m9 < mN σ k → lzE σ i k D L x m9) ∧ σ9 = sI (sI σ 25 D) 26 L) := by
  refine MV_of (cc := cX11_lays) (maxL := 6) (by decide) rfl (Nat.le_of_ble_eq_true rfl) ?_
  intro p e s m args below meth c A C hr hlk
  have C : Cx p s m args c w A cX11_lays RX11 6 wsX11_lays := C
  have hin_11 : ∀ u ∈ wsX110, u ∈ wsX11_lays := by decide +kernel
  have hl_17 : Cond.fieldLink RX11 17 "LineageBenchModel" "many" "[I" ∈ wsX11_lays := by decide +kernel
  have hl_24 : Cond.fieldLink RX11 24 "LineageBenchModel" "kind" "[I" ∈ wsX11_lays := by decide +kernel
  have hl_92 : Cond.fieldLink RX11 92 "LineageBenchModel" "doubled" "[I" ∈ wsX11_lays := by decide +kernel
  have hl_95 : Cond.fieldLink RX11 95 "LineageBenchModel" "lost" "[I" ∈ wsX11_lays := by decide +kernel
  have h47i := (hM i hb_i).2.1
  have h47k := (hM k hb_k).2.1
  refine g_st (σ9 := sI (sI σ (25) (iA σ 25)) (26) (iA σ 26)) (by rw [show sI σ 25 (iA σ 25) = σ from sI_self]; exact (show sI σ 26 (iA σ 26) = σ from sI_self).symm) ?_
  refine g_aload_n (pc9 := 1) C rfl 0 dX11_lays_0 rfl rfl ?_
  refine g_get (v := .ref (w.1 (2))) (pc9 := 4) C rfl (0) 5 dX11_lays_1 (by decide) (ce_0 w (sI (sI σ (25) (iA σ 25)) (26) (iA σ 26))) hin_11 hl_17 rfl (by decide) rfl rfl ?_
  refine g_iload_n (pc9 := 5) C rfl 1 dX11_lays_4 rfl rfl ?_
  refine g_iald (x := nI (mN σ (i))) (pc9 := 6) C rfl (2) (i) dX11_lays_5 (by decide) (ce_2 w (sI (sI σ (25) (iA σ 25)) (26) (iA σ 26))) rfl (by omega) (by decide) ((congrFun ((iA_n (by decide)).trans (iA_n (by decide))) _).trans (hM i hb_i).1) ?_
  refine g_iconst (pc9 := 7) C rfl (nI (1)) dX11_lays_6 rfl ?_
  refine g_isubN (pc9 := 8) C rfl dX11_lays_7 (by omega) ?_
  refine g_istore_n (pc9 := 9) C rfl [(3, .int (nI ((mN σ (i)) - (1)))), (0, .ref (w.1 (0))), (1, .int (nI (i))), (2, .int (nI (k)))] dX11_lays_8 rfl (by decide) rfl ?_
  refine g_sub [0, 1, 2, 3] [(3, .int (nI ((mN σ (i)) - (1)))), (0, .ref (w.1 (0))), (1, .int (nI (i))), (2, .int (nI (k)))] rfl ?_
  rw [show nI (mN σ i - 1) = dn (mN σ i) from (dn_s (by omega)).symm]
  refine g_lp3 (α := Nat) (β := Nat → Int32) (γ := Nat → Int32) (fun K D L => K ≤ mN σ i ∧ ∀ x, K ≤ x → x < mN σ i → ∀ m9, m9 < mN σ k → lzE σ i k D L x m9) (fun K D L => K) (fun K D L => G p l e _ s m args below meth c _ w A _ (sI (sI σ (25) (D)) (26) (L)) 0 0 9 [(3, .int (dn K)), (0, .ref (w.1 (0))), (1, .int (nI (i))), (2, .int (nI (k)))] []) (fun K D L hI ih0 => ?_) (mN σ i) (iA σ 25) (iA σ 26) ⟨Nat.le_refl _, fun x h1 h2 => absurd h1 (by omega)⟩
  obtain ⟨hK, hE⟩ := hI
  rcases Nat.eq_zero_or_pos K with hK0 | hK0
  · subst hK0
    rw [dn_0]
    refine g_iload_n (pc9 := 10) C rfl 0 dX11_lays_9 rfl rfl ?_
    refine g_if_lt (pc9 := 13) C rfl 120 dX11_lays_10 rfl (fun c_1 => ?_) (fun c_1 => ?_)
    · exact g_return C hr hlk dX11_lays_120 ⟨D, L, fun x hx m9 h9 => hE x (Nat.zero_le _) hx m9 h9, rfl⟩
    · exact absurd (by decide) c_1
  · rw [dn_s hK0]
    obtain ⟨g, rfl⟩ : ∃ z, K = z + 1 := ⟨K - 1, by omega⟩
    rw [show g + 1 - 1 = g by omega]
    have hKi := (hM i hb_i).2.2.2.2 g (by omega)
    refine g_iload_n (pc9 := 10) C rfl 0 dX11_lays_9 rfl rfl ?_
    refine g_if_lt (pc9 := 13) C rfl 120 dX11_lays_10 rfl (fun c_2 => ?_) (fun c_2 => ?_)
    · replace c_2 := (z_lt (by omega)).mp c_2
      exact absurd c_2 (by simp)
    · replace c_2 := (not_congr (z_lt (by omega))).mp c_2
      refine g_aload_n (pc9 := 14) C rfl 1 dX11_lays_13 rfl rfl ?_
      refine g_get (v := .ref (w.1 (4))) (pc9 := 17) C rfl (0) 7 dX11_lays_14 (by decide) (ce_0 w (sI (sI σ (25) (D)) (26) (L))) hin_11 hl_24 rfl (by decide) rfl rfl ?_
      refine g_bipush (pc9 := 19) C rfl (nI (47)) dX11_lays_17 rfl ?_
      refine g_iload_n (pc9 := 20) C rfl 2 dX11_lays_19 rfl rfl ?_
      refine g_imulN (pc9 := 21) C rfl dX11_lays_20 ?_
      refine g_iload_n (pc9 := 22) C rfl 0 dX11_lays_21 rfl rfl ?_
      refine g_iaddN (pc9 := 23) C rfl dX11_lays_22 ?_
      refine g_iald (x := (iA σ (4)) ((47 * i) + g)) (pc9 := 24) C rfl (4) ((47 * i) + g) dX11_lays_23 (by decide) (ce_4 w (sI (sI σ (25) (D)) (26) (L))) rfl (by omega) (by decide) (congrFun ((iA_n (by decide)).trans (iA_n (by decide))) _) ?_
      refine g_istore (pc9 := 26) C rfl [(4, .int ((iA σ (4)) ((47 * i) + g))), (3, .int (nI (g))), (0, .ref (w.1 (0))), (1, .int (nI (i))), (2, .int (nI (k)))] dX11_lays_24 (by decide) rfl ?_
      refine g_iconst (pc9 := 27) C rfl (nI (0)) dX11_lays_26 rfl ?_
      refine g_istore (pc9 := 29) C rfl [(5, .int (nI (0))), (4, .int ((iA σ (4)) ((47 * i) + g))), (3, .int (nI (g))), (0, .ref (w.1 (0))), (1, .int (nI (i))), (2, .int (nI (k)))] dX11_lays_27 (by decide) rfl ?_
      refine g_sub [0, 1, 2, 3, 4, 5] [(5, .int (nI (0))), (4, .int ((iA σ (4)) ((47 * i) + g))), (3, .int (nI (g))), (0, .ref (w.1 (0))), (1, .int (nI (i))), (2, .int (nI (k)))] rfl ?_
      refine g_lp3 (α := Nat) (β := Nat → Int32) (γ := Nat → Int32) (fun u D9 L9 => u ≤ mN σ k ∧ (∀ y q, g < y → q < 47 → D (47 * y + q) = D9 (47 * y + q) ∧ L (47 * y + q) = L9 (47 * y + q)) ∧ ∀ m9, m9 < u → lzE σ i k D9 L9 g m9) (fun u D9 L9 => mN σ k - u) (fun u D9 L9 => G p l e _ s m args below meth c _ w A _ (sI (sI σ (25) (D9)) (26) (L9)) 0 0 29 [(5, .int (nI (u))), (4, .int (mK σ i g)), (3, .int (nI (g))), (0, .ref (w.1 (0))), (1, .int (nI (i))), (2, .int (nI (k)))] []) (fun u D9 L9 hI ih1 => ?_) (0) (D) (L) ⟨Nat.zero_le _, fun _ _ _ _ => ⟨rfl, rfl⟩, fun m9 h => absurd h (by omega)⟩
      obtain ⟨hu, hof, hin⟩ := hI
      refine g_iload (pc9 := 31) C rfl 0 dX11_lays_29 rfl ?_
      refine g_aload_n (pc9 := 32) C rfl 3 dX11_lays_31 rfl rfl ?_
      refine g_get (v := .ref (w.1 (2))) (pc9 := 35) C rfl (0) 5 dX11_lays_32 (by decide) (ce_0 w (sI (sI σ (25) (D9)) (26) (L9))) hin_11 hl_17 rfl (by decide) rfl rfl ?_
      refine g_iload_n (pc9 := 36) C rfl 5 dX11_lays_35 rfl rfl ?_
      refine g_iald (x := nI (mN σ (k))) (pc9 := 37) C rfl (2) (k) dX11_lays_36 (by decide) (ce_2 w (sI (sI σ (25) (D9)) (26) (L9))) rfl (by omega) (by decide) ((congrFun ((iA_n (by decide)).trans (iA_n (by decide))) _).trans (hM k hb_k).1) ?_
      refine g_icmp_ge (pc9 := 40) C rfl 114 dX11_lays_37 rfl (fun c_3 => ?_) (fun c_3 => ?_)
      · replace c_3 := (nI_leI (by omega) (by omega)).mp c_3
        refine g_iinc (pc9 := 117) C rfl [(3, .int (dn g)), (5, .int (nI (u))), (4, .int (mK σ i g)), (0, .ref (w.1 (0))), (1, .int (nI (i))), (2, .int (nI (k)))] 2 (dn g) dX11_lays_114 rfl rfl (by decide) rfl ?_
        refine g_goto C 9 dX11_lays_117 rfl ?_
        refine g_sub [0, 3, 4, 5] [(3, .int (dn g)), (0, .ref (w.1 (0))), (1, .int (nI (i))), (2, .int (nI (k)))] rfl ?_
        exact ih0 g D9 L9 ⟨by omega, fun x hx hn m9 h9 => by by_cases e : x = g; (subst e; exact hin m9 (by omega)); exact lzE_c h47k h9 (fun y q hy hq => hof y q (by omega) hq) (hof x m9 (by omega) (by omega)).1 (hof x m9 (by omega) (by omega)).2 (hE x (by omega) hn m9 h9)⟩ (by omega)
      · replace c_3 := (not_congr (nI_leI (by omega) (by omega))).mp c_3
        refine g_aload_n (pc9 := 41) C rfl 3 dX11_lays_40 rfl rfl ?_
        refine g_get (v := .ref (w.1 (25))) (pc9 := 44) C rfl (0) 34 dX11_lays_41 (by decide) (ce_0 w (sI (sI σ (25) (D9)) (26) (L9))) hin_11 hl_92 rfl (by decide) rfl rfl ?_
        refine g_bipush (pc9 := 46) C rfl (nI (47)) dX11_lays_44 rfl ?_
        refine g_iload_n (pc9 := 47) C rfl 2 dX11_lays_46 rfl rfl ?_
        refine g_imulN (pc9 := 48) C rfl dX11_lays_47 ?_
        refine g_iload (pc9 := 50) C rfl 0 dX11_lays_48 rfl ?_
        refine g_iaddN (pc9 := 51) C rfl dX11_lays_50 ?_
        refine g_iload (pc9 := 53) C rfl 1 dX11_lays_51 rfl ?_
        refine g_if_lt (pc9 := 56) C rfl 77 dX11_lays_53 rfl (fun c_4 => ?_) (fun c_4 => ?_)
        · have hneg : mK σ i g < 0 := c_4
          refine g_ldc_w (pc9 := 80) C rfl (lzN) dX11_lays_77 (by decide +kernel) ?_
          refine g_iast (pc9 := 81) C rfl (25) ((47 * g) + u) (D9) dX11_lays_80 (by decide) (fun _ => rfl) (ce_25 w (sI (sI σ (25) (D9)) (26) (L9))) rfl (by omega) (by decide) ((iA_n (by decide)).trans (iA_s)) ?_
          rw [sI_cm (a := 26) (b := 25) (by decide), sI_sI (a := 25)]
          refine g_aload_n (pc9 := 82) C rfl 3 dX11_lays_81 rfl rfl ?_
          refine g_get (v := .ref (w.1 (26))) (pc9 := 85) C rfl (0) 35 dX11_lays_82 (by decide) (ce_0 w (sI (sI σ (25) (upd (D9) ((47 * g) + u) (lzN))) (26) (L9))) hin_11 hl_95 rfl (by decide) rfl rfl ?_
          refine g_bipush (pc9 := 87) C rfl (nI (47)) dX11_lays_85 rfl ?_
          refine g_iload_n (pc9 := 88) C rfl 2 dX11_lays_87 rfl rfl ?_
          refine g_imulN (pc9 := 89) C rfl dX11_lays_88 ?_
          refine g_iload (pc9 := 91) C rfl 0 dX11_lays_89 rfl ?_
          refine g_iaddN (pc9 := 92) C rfl dX11_lays_91 ?_
          refine g_iconst (pc9 := 93) C rfl (nI (0)) dX11_lays_92 rfl ?_
          refine g_iast (pc9 := 94) C rfl (26) ((47 * g) + u) (L9) dX11_lays_93 (by decide) (fun _ => rfl) (ce_26 w (sI (sI σ (25) (upd (D9) ((47 * g) + u) (lzN))) (26) (L9))) rfl (by omega) (by decide) (iA_s) ?_
          rw [sI_sI (a := 26)]
          refine g_iload (pc9 := 96) C rfl 1 dX11_lays_94 rfl ?_
          refine g_if_ge (pc9 := 99) C rfl 108 dX11_lays_96 rfl (fun c_5 => ?_) (fun c_5 => ?_)
          · have hge : ¬ mK σ i g < 0 := Int32.not_lt.mpr c_5
            refine g_iinc (pc9 := 111) C rfl [(5, .int (nI (u + 1))), (4, .int (mK σ i g)), (3, .int (nI (g))), (0, .ref (w.1 (0))), (1, .int (nI (i))), (2, .int (nI (k)))] 0 (nI (u + 1)) dX11_lays_108 rfl (nI_1 (u)) (by decide) rfl ?_
            refine g_goto C 29 dX11_lays_111 rfl ?_
            refine g_sub [0, 1, 2, 3, 4, 5] [(5, .int (nI (u + 1))), (4, .int (mK σ i g)), (3, .int (nI (g))), (0, .ref (w.1 (0))), (1, .int (nI (i))), (2, .int (nI (k)))] rfl ?_
            exact ih1 (u + 1) _ _ ⟨by omega, lzF_o hof (by omega), lzF_s h47k (by omega) hin (by first | exact absurd hneg hge | exact Or.inl ⟨hge, by rw [pk_us, hv], pk_us⟩ | exact lzF_k h47k (by omega) hlt9 hgo ho hgt ht hn1 hn2)⟩ (by omega)
          · have hlt9 : mK σ i g < 0 := Int32.not_le.mp c_5
            obtain ⟨o, t9, hgo, ho, hgt, ht, hn1, hn2⟩ := hT g (by omega) hlt9
            refine g_st (σ9 := sI (sI (sI (sI σ 25 D9) 26 L9) 25 (upd D9 (47 * g + u) lzN)) 26 (upd L9 (47 * g + u) (nI 0))) (by first | exact lz_st.symm | exact absurd hlt9 hneg) ?_
            refine g_aload_n (pc9 := 100) C rfl 3 dX11_lays_99 rfl rfl ?_
            refine g_iload_n (pc9 := 101) C rfl 4 dX11_lays_100 rfl rfl ?_
            refine g_iload_n (pc9 := 102) C rfl 5 dX11_lays_101 rfl rfl ?_
            refine g_iload_n (pc9 := 103) C rfl 2 dX11_lays_102 rfl rfl ?_
            refine g_iload (pc9 := 105) C rfl 0 dX11_lays_103 rfl ?_
            refine g_callVv (nn := 4) (rest := []) (pc9 := 108) C rfl (0) [.int (nI (i)), .int (nI (k)), .int (nI (g)), .int (nI (u))] rfl dX11_lays_105 (m_X11_laysOne l w (sI (sI σ 25 D9) 26 L9) hM i k g u o t9 hb_i hb_k (show g < mN σ i by omega) ho ht hgo hgt (show u < mN σ k by omega) hn1 hn2 (lzN, nI 0)) gX11_lays_X11_laysOne (by decide) (ce_0 w (sI (sI σ (25) (upd (D9) ((47 * g) + u) (lzN))) (26) (upd (L9) ((47 * g) + u) (nI (0))))) rfl rfl rfl rfl rfl (by decide +kernel) ⟨by decide, by decide⟩ rfl (Nat.le_of_ble_eq_true rfl) ⟨by decide, by decide⟩ (fun σ_6 q_6 => ?_)
            replace q_6 : σ_6 = sI (sI (sI (sI σ 25 D9) 26 L9) 25 (upd D9 (47 * g + u) (lz2 D9 L9 (mq σ k) o t9 u (mN σ k) (lzN, nI 0) (mN σ k - u)).1)) 26 (upd L9 (47 * g + u) (lz2 D9 L9 (mq σ k) o t9 u (mN σ k) (lzN, nI 0) (mN σ k - u)).2) := q_6
            refine g_st (σ9 := sI (sI σ (25) (upd D9 (47 * g + u) (lz2 D9 L9 (mq σ k) o t9 u (mN σ k) (lzN, nI 0) (mN σ k - u)).1)) (26) (upd L9 (47 * g + u) (lz2 D9 L9 (mq σ k) o t9 u (mN σ k) (lzN, nI 0) (mN σ k - u)).2)) (q_6.trans lz_st) ?_
            refine g_iinc (pc9 := 111) C rfl [(5, .int (nI (u + 1))), (4, .int (mK σ i g)), (3, .int (nI (g))), (0, .ref (w.1 (0))), (1, .int (nI (i))), (2, .int (nI (k)))] 0 (nI (u + 1)) dX11_lays_108 rfl (nI_1 (u)) (by decide) rfl ?_
            refine g_goto C 29 dX11_lays_111 rfl ?_
            refine g_sub [0, 1, 2, 3, 4, 5] [(5, .int (nI (u + 1))), (4, .int (mK σ i g)), (3, .int (nI (g))), (0, .ref (w.1 (0))), (1, .int (nI (i))), (2, .int (nI (k)))] rfl ?_
            exact ih1 (u + 1) _ _ ⟨by omega, lzF_o hof (by omega), lzF_s h47k (by omega) hin (by first | exact absurd hneg hge | exact Or.inl ⟨hge, by rw [pk_us, hv], pk_us⟩ | exact lzF_k h47k (by omega) hlt9 hgo ho hgt ht hn1 hn2)⟩ (by omega)
        · have hneg : ¬ mK σ i g < 0 := c_4
          refine g_aload_n (pc9 := 57) C rfl 3 dX11_lays_56 rfl rfl ?_
          refine g_get (v := .ref (w.1 (4))) (pc9 := 60) C rfl (0) 7 dX11_lays_57 (by decide) (ce_0 w (sI (sI σ (25) (D9)) (26) (L9))) hin_11 hl_24 rfl (by decide) rfl rfl ?_
          refine g_bipush (pc9 := 62) C rfl (nI (47)) dX11_lays_60 rfl ?_
          refine g_iload_n (pc9 := 63) C rfl 5 dX11_lays_62 rfl rfl ?_
          refine g_imulN (pc9 := 64) C rfl dX11_lays_63 ?_
          refine g_iload (pc9 := 66) C rfl 0 dX11_lays_64 rfl ?_
          refine g_iaddN (pc9 := 67) C rfl dX11_lays_66 ?_
          refine g_iald (x := (iA σ (4)) ((47 * k) + u)) (pc9 := 68) C rfl (4) ((47 * k) + u) dX11_lays_67 (by decide) (ce_4 w (sI (sI σ (25) (D9)) (26) (L9))) rfl (by omega) (by decide) (congrFun ((iA_n (by decide)).trans (iA_n (by decide))) _) ?_
          refine g_iload (pc9 := 70) C rfl 1 dX11_lays_68 rfl ?_
          refine g_icmp_ne (pc9 := 73) C rfl 77 dX11_lays_70 rfl (fun c_7 => ?_) (fun c_7 => ?_)
          · have hv : (if mK σ k u = mK σ i g then nI 0 else lzN) = lzN := if_neg c_7
            refine g_ldc_w (pc9 := 80) C rfl (lzN) dX11_lays_77 (by decide +kernel) ?_
            refine g_iast (pc9 := 81) C rfl (25) ((47 * g) + u) (D9) dX11_lays_80 (by decide) (fun _ => rfl) (ce_25 w (sI (sI σ (25) (D9)) (26) (L9))) rfl (by omega) (by decide) ((iA_n (by decide)).trans (iA_s)) ?_
            rw [sI_cm (a := 26) (b := 25) (by decide), sI_sI (a := 25)]
            refine g_aload_n (pc9 := 82) C rfl 3 dX11_lays_81 rfl rfl ?_
            refine g_get (v := .ref (w.1 (26))) (pc9 := 85) C rfl (0) 35 dX11_lays_82 (by decide) (ce_0 w (sI (sI σ (25) (upd (D9) ((47 * g) + u) (lzN))) (26) (L9))) hin_11 hl_95 rfl (by decide) rfl rfl ?_
            refine g_bipush (pc9 := 87) C rfl (nI (47)) dX11_lays_85 rfl ?_
            refine g_iload_n (pc9 := 88) C rfl 2 dX11_lays_87 rfl rfl ?_
            refine g_imulN (pc9 := 89) C rfl dX11_lays_88 ?_
            refine g_iload (pc9 := 91) C rfl 0 dX11_lays_89 rfl ?_
            refine g_iaddN (pc9 := 92) C rfl dX11_lays_91 ?_
            refine g_iconst (pc9 := 93) C rfl (nI (0)) dX11_lays_92 rfl ?_
            refine g_iast (pc9 := 94) C rfl (26) ((47 * g) + u) (L9) dX11_lays_93 (by decide) (fun _ => rfl) (ce_26 w (sI (sI σ (25) (upd (D9) ((47 * g) + u) (lzN))) (26) (L9))) rfl (by omega) (by decide) (iA_s) ?_
            rw [sI_sI (a := 26)]
            refine g_iload (pc9 := 96) C rfl 1 dX11_lays_94 rfl ?_
            refine g_if_ge (pc9 := 99) C rfl 108 dX11_lays_96 rfl (fun c_8 => ?_) (fun c_8 => ?_)
            · have hge : ¬ mK σ i g < 0 := Int32.not_lt.mpr c_8
              refine g_iinc (pc9 := 111) C rfl [(5, .int (nI (u + 1))), (4, .int (mK σ i g)), (3, .int (nI (g))), (0, .ref (w.1 (0))), (1, .int (nI (i))), (2, .int (nI (k)))] 0 (nI (u + 1)) dX11_lays_108 rfl (nI_1 (u)) (by decide) rfl ?_
              refine g_goto C 29 dX11_lays_111 rfl ?_
              refine g_sub [0, 1, 2, 3, 4, 5] [(5, .int (nI (u + 1))), (4, .int (mK σ i g)), (3, .int (nI (g))), (0, .ref (w.1 (0))), (1, .int (nI (i))), (2, .int (nI (k)))] rfl ?_
              exact ih1 (u + 1) _ _ ⟨by omega, lzF_o hof (by omega), lzF_s h47k (by omega) hin (by first | exact absurd hneg hge | exact Or.inl ⟨hge, by rw [pk_us, hv], pk_us⟩ | exact lzF_k h47k (by omega) hlt9 hgo ho hgt ht hn1 hn2)⟩ (by omega)
            · have hlt9 : mK σ i g < 0 := Int32.not_le.mp c_8
              obtain ⟨o, t9, hgo, ho, hgt, ht, hn1, hn2⟩ := hT g (by omega) hlt9
              refine g_st (σ9 := sI (sI (sI (sI σ 25 D9) 26 L9) 25 (upd D9 (47 * g + u) lzN)) 26 (upd L9 (47 * g + u) (nI 0))) (by first | exact lz_st.symm | exact absurd hlt9 hneg) ?_
              refine g_aload_n (pc9 := 100) C rfl 3 dX11_lays_99 rfl rfl ?_
              refine g_iload_n (pc9 := 101) C rfl 4 dX11_lays_100 rfl rfl ?_
              refine g_iload_n (pc9 := 102) C rfl 5 dX11_lays_101 rfl rfl ?_
              refine g_iload_n (pc9 := 103) C rfl 2 dX11_lays_102 rfl rfl ?_
              refine g_iload (pc9 := 105) C rfl 0 dX11_lays_103 rfl ?_
              refine g_callVv (nn := 4) (rest := []) (pc9 := 108) C rfl (0) [.int (nI (i)), .int (nI (k)), .int (nI (g)), .int (nI (u))] rfl dX11_lays_105 (m_X11_laysOne l w (sI (sI σ 25 D9) 26 L9) hM i k g u o t9 hb_i hb_k (show g < mN σ i by omega) ho ht hgo hgt (show u < mN σ k by omega) hn1 hn2 (lzN, nI 0)) gX11_lays_X11_laysOne (by decide) (ce_0 w (sI (sI σ (25) (upd (D9) ((47 * g) + u) (lzN))) (26) (upd (L9) ((47 * g) + u) (nI (0))))) rfl rfl rfl rfl rfl (by decide +kernel) ⟨by decide, by decide⟩ rfl (Nat.le_of_ble_eq_true rfl) ⟨by decide, by decide⟩ (fun σ_9 q_9 => ?_)
              replace q_9 : σ_9 = sI (sI (sI (sI σ 25 D9) 26 L9) 25 (upd D9 (47 * g + u) (lz2 D9 L9 (mq σ k) o t9 u (mN σ k) (lzN, nI 0) (mN σ k - u)).1)) 26 (upd L9 (47 * g + u) (lz2 D9 L9 (mq σ k) o t9 u (mN σ k) (lzN, nI 0) (mN σ k - u)).2) := q_9
              refine g_st (σ9 := sI (sI σ (25) (upd D9 (47 * g + u) (lz2 D9 L9 (mq σ k) o t9 u (mN σ k) (lzN, nI 0) (mN σ k - u)).1)) (26) (upd L9 (47 * g + u) (lz2 D9 L9 (mq σ k) o t9 u (mN σ k) (lzN, nI 0) (mN σ k - u)).2)) (q_9.trans lz_st) ?_
              refine g_iinc (pc9 := 111) C rfl [(5, .int (nI (u + 1))), (4, .int (mK σ i g)), (3, .int (nI (g))), (0, .ref (w.1 (0))), (1, .int (nI (i))), (2, .int (nI (k)))] 0 (nI (u + 1)) dX11_lays_108 rfl (nI_1 (u)) (by decide) rfl ?_
              refine g_goto C 29 dX11_lays_111 rfl ?_
              refine g_sub [0, 1, 2, 3, 4, 5] [(5, .int (nI (u + 1))), (4, .int (mK σ i g)), (3, .int (nI (g))), (0, .ref (w.1 (0))), (1, .int (nI (i))), (2, .int (nI (k)))] rfl ?_
              exact ih1 (u + 1) _ _ ⟨by omega, lzF_o hof (by omega), lzF_s h47k (by omega) hin (by first | exact absurd hneg hge | exact Or.inl ⟨hge, by rw [pk_us, hv], pk_us⟩ | exact lzF_k h47k (by omega) hlt9 hgo ho hgt ht hn1 hn2)⟩ (by omega)
          · have hv : (if mK σ k u = mK σ i g then nI 0 else lzN) = nI 0 := if_pos (Classical.not_not.mp (fun h => h c_7))
            refine g_iconst (pc9 := 74) C rfl (nI (0)) dX11_lays_73 rfl ?_
            refine g_goto C 80 dX11_lays_74 rfl ?_
            refine g_iast (pc9 := 81) C rfl (25) ((47 * g) + u) (D9) dX11_lays_80 (by decide) (fun _ => rfl) (ce_25 w (sI (sI σ (25) (D9)) (26) (L9))) rfl (by omega) (by decide) ((iA_n (by decide)).trans (iA_s)) ?_
            rw [sI_cm (a := 26) (b := 25) (by decide), sI_sI (a := 25)]
            refine g_aload_n (pc9 := 82) C rfl 3 dX11_lays_81 rfl rfl ?_
            refine g_get (v := .ref (w.1 (26))) (pc9 := 85) C rfl (0) 35 dX11_lays_82 (by decide) (ce_0 w (sI (sI σ (25) (upd (D9) ((47 * g) + u) (nI (0)))) (26) (L9))) hin_11 hl_95 rfl (by decide) rfl rfl ?_
            refine g_bipush (pc9 := 87) C rfl (nI (47)) dX11_lays_85 rfl ?_
            refine g_iload_n (pc9 := 88) C rfl 2 dX11_lays_87 rfl rfl ?_
            refine g_imulN (pc9 := 89) C rfl dX11_lays_88 ?_
            refine g_iload (pc9 := 91) C rfl 0 dX11_lays_89 rfl ?_
            refine g_iaddN (pc9 := 92) C rfl dX11_lays_91 ?_
            refine g_iconst (pc9 := 93) C rfl (nI (0)) dX11_lays_92 rfl ?_
            refine g_iast (pc9 := 94) C rfl (26) ((47 * g) + u) (L9) dX11_lays_93 (by decide) (fun _ => rfl) (ce_26 w (sI (sI σ (25) (upd (D9) ((47 * g) + u) (nI (0)))) (26) (L9))) rfl (by omega) (by decide) (iA_s) ?_
            rw [sI_sI (a := 26)]
            refine g_iload (pc9 := 96) C rfl 1 dX11_lays_94 rfl ?_
            refine g_if_ge (pc9 := 99) C rfl 108 dX11_lays_96 rfl (fun c_10 => ?_) (fun c_10 => ?_)
            · have hge : ¬ mK σ i g < 0 := Int32.not_lt.mpr c_10
              refine g_iinc (pc9 := 111) C rfl [(5, .int (nI (u + 1))), (4, .int (mK σ i g)), (3, .int (nI (g))), (0, .ref (w.1 (0))), (1, .int (nI (i))), (2, .int (nI (k)))] 0 (nI (u + 1)) dX11_lays_108 rfl (nI_1 (u)) (by decide) rfl ?_
              refine g_goto C 29 dX11_lays_111 rfl ?_
              refine g_sub [0, 1, 2, 3, 4, 5] [(5, .int (nI (u + 1))), (4, .int (mK σ i g)), (3, .int (nI (g))), (0, .ref (w.1 (0))), (1, .int (nI (i))), (2, .int (nI (k)))] rfl ?_
              exact ih1 (u + 1) _ _ ⟨by omega, lzF_o hof (by omega), lzF_s h47k (by omega) hin (by first | exact absurd hneg hge | exact Or.inl ⟨hge, by rw [pk_us, hv], pk_us⟩ | exact lzF_k h47k (by omega) hlt9 hgo ho hgt ht hn1 hn2)⟩ (by omega)
            · have hlt9 : mK σ i g < 0 := Int32.not_le.mp c_10
              obtain ⟨o, t9, hgo, ho, hgt, ht, hn1, hn2⟩ := hT g (by omega) hlt9
              refine g_st (σ9 := sI (sI (sI (sI σ 25 D9) 26 L9) 25 (upd D9 (47 * g + u) lzN)) 26 (upd L9 (47 * g + u) (nI 0))) (by first | exact lz_st.symm | exact absurd hlt9 hneg) ?_
              refine g_aload_n (pc9 := 100) C rfl 3 dX11_lays_99 rfl rfl ?_
              refine g_iload_n (pc9 := 101) C rfl 4 dX11_lays_100 rfl rfl ?_
              refine g_iload_n (pc9 := 102) C rfl 5 dX11_lays_101 rfl rfl ?_
              refine g_iload_n (pc9 := 103) C rfl 2 dX11_lays_102 rfl rfl ?_
              refine g_iload (pc9 := 105) C rfl 0 dX11_lays_103 rfl ?_
              refine g_callVv (nn := 4) (rest := []) (pc9 := 108) C rfl (0) [.int (nI (i)), .int (nI (k)), .int (nI (g)), .int (nI (u))] rfl dX11_lays_105 (m_X11_laysOne l w (sI (sI σ 25 D9) 26 L9) hM i k g u o t9 hb_i hb_k (show g < mN σ i by omega) ho ht hgo hgt (show u < mN σ k by omega) hn1 hn2 (lzN, nI 0)) gX11_lays_X11_laysOne (by decide) (ce_0 w (sI (sI σ (25) (upd (D9) ((47 * g) + u) (nI (0)))) (26) (upd (L9) ((47 * g) + u) (nI (0))))) rfl rfl rfl rfl rfl (by decide +kernel) ⟨by decide, by decide⟩ rfl (Nat.le_of_ble_eq_true rfl) ⟨by decide, by decide⟩ (fun σ_11 q_11 => ?_)
              replace q_11 : σ_11 = sI (sI (sI (sI σ 25 D9) 26 L9) 25 (upd D9 (47 * g + u) (lz2 D9 L9 (mq σ k) o t9 u (mN σ k) (lzN, nI 0) (mN σ k - u)).1)) 26 (upd L9 (47 * g + u) (lz2 D9 L9 (mq σ k) o t9 u (mN σ k) (lzN, nI 0) (mN σ k - u)).2) := q_11
              refine g_st (σ9 := sI (sI σ (25) (upd D9 (47 * g + u) (lz2 D9 L9 (mq σ k) o t9 u (mN σ k) (lzN, nI 0) (mN σ k - u)).1)) (26) (upd L9 (47 * g + u) (lz2 D9 L9 (mq σ k) o t9 u (mN σ k) (lzN, nI 0) (mN σ k - u)).2)) (q_11.trans lz_st) ?_
              refine g_iinc (pc9 := 111) C rfl [(5, .int (nI (u + 1))), (4, .int (mK σ i g)), (3, .int (nI (g))), (0, .ref (w.1 (0))), (1, .int (nI (i))), (2, .int (nI (k)))] 0 (nI (u + 1)) dX11_lays_108 rfl (nI_1 (u)) (by decide) rfl ?_
              refine g_goto C 29 dX11_lays_111 rfl ?_
              refine g_sub [0, 1, 2, 3, 4, 5] [(5, .int (nI (u + 1))), (4, .int (mK σ i g)), (3, .int (nI (g))), (0, .ref (w.1 (0))), (1, .int (nI (i))), (2, .int (nI (k)))] rfl ?_
              exact ih1 (u + 1) _ _ ⟨by omega, lzF_o hof (by omega), lzF_s h47k (by omega) hin (by first | exact absurd hneg hge | exact Or.inl ⟨hge, by rw [pk_us, hv], pk_us⟩ | exact lzF_k h47k (by omega) hlt9 hgo ho hgt ht hn1 hn2)⟩ (by omega)
/-- the first of the least -/
noncomputable def lbB (D L : Nat → Int32) : Nat → Nat
  | 0 => 0
  | m + 1 => cI (D m < D (lbB D L m) ∨ (D m = D (lbB D L m) ∧ L m < L (lbB D L m))) m (lbB D L m)
theorem lbB_1 {D L : Nat → Int32} : lbB D L 1 = 0 := by
  by_cases h : D 0 < D 0 ∨ (D 0 = D 0 ∧ L 0 < L 0)
  · exact cI_t h
  · exact cI_f h
theorem lbB_lt {D L : Nat → Int32} : ∀ m, 0 < m → lbB D L m < m
  | 0, h => absurd h (by omega)
  | m + 1, _ => by
    by_cases h : D m < D (lbB D L m) ∨ (D m = D (lbB D L m) ∧ L m < L (lbB D L m))
    · rw [show lbB D L (m + 1) = m from cI_t h]; omega
    · rw [show lbB D L (m + 1) = lbB D L m from cI_f h]
      rcases Nat.eq_zero_or_pos m with z | z
      · subst z; exact Nat.lt_succ_self _
      · have := lbB_lt (D := D) (L := L) m z
        omega
set_option maxRecDepth 100000 in
set_option maxHeartbeats 4000000 in
theorem m_X11_bestOf (l : Launch) (w : Wd) (σ : St) (i : Nat) (hi : i < 8) (hm : mtOk σ i) (h0 : 0 < mN σ i) : MI l yX11_bestOf wsX11_bestOf (rmL 2) w [.ref (w.1 (0)), .int (nI (i))] (σ) (fun r σ9 => σ9 = σ ∧ r = nI (lbB (iA σ 25) (iA σ 26) (mN σ i))) := by
  refine MI_of (cc := cX11_bestOf) (maxL := 4) (ret := .int) (by decide) rfl (Nat.le_of_ble_eq_true rfl) ?_
  intro p e s m args below meth c A C hr hlk
  have C : Cx p s m args c w A cX11_bestOf RX11 4 wsX11_bestOf := C
  have hin_11 : ∀ u ∈ wsX110, u ∈ wsX11_bestOf := by decide +kernel
  have hl_17 : Cond.fieldLink RX11 17 "LineageBenchModel" "many" "[I" ∈ wsX11_bestOf := by decide +kernel
  have hl_92 : Cond.fieldLink RX11 92 "LineageBenchModel" "doubled" "[I" ∈ wsX11_bestOf := by decide +kernel
  have hl_95 : Cond.fieldLink RX11 95 "LineageBenchModel" "lost" "[I" ∈ wsX11_bestOf := by decide +kernel
  have h47 := hm.2.1
  refine g_iconst (pc9 := 1) C rfl (nI (0)) dX11_bestOf_0 rfl ?_
  refine g_istore_n (pc9 := 2) C rfl [(2, .int (nI (0))), (0, .ref (w.1 (0))), (1, .int (nI (i)))] dX11_bestOf_1 rfl (by decide) rfl ?_
  refine g_iconst (pc9 := 3) C rfl (nI (1)) dX11_bestOf_2 rfl ?_
  refine g_istore_n (pc9 := 4) C rfl [(3, .int (nI (1))), (2, .int (nI (0))), (0, .ref (w.1 (0))), (1, .int (nI (i)))] dX11_bestOf_3 rfl (by decide) rfl ?_
  refine g_sub [0, 1, 2, 3] [(3, .int (nI (1))), (2, .int (nI (0))), (0, .ref (w.1 (0))), (1, .int (nI (i)))] rfl ?_
  refine g_l2 (x9 := nI (lbB (iA σ 25) (iA σ 26) (1))) (congrArg nI lbB_1.symm) ?_
  refine g_lp1 (α := Nat) (fun v => 0 < v ∧ v ≤ mN σ i) (fun v => mN σ i - v) (fun v => G p l e _ s m args below meth c _ w A _ (σ) 0 0 4 [(3, .int (nI (v))), (2, .int (nI (lbB (iA σ 25) (iA σ 26) (v)))), (0, .ref (w.1 (0))), (1, .int (nI (i)))] []) (fun v hI ih => ?_) (1) ⟨by decide, by omega⟩
  obtain ⟨hv0, hv⟩ := hI
  have hlt := lbB_lt (D := iA σ 25) (L := iA σ 26) v hv0
  refine g_iload_n (pc9 := 5) C rfl 0 dX11_bestOf_4 rfl rfl ?_
  refine g_aload_n (pc9 := 6) C rfl 2 dX11_bestOf_5 rfl rfl ?_
  refine g_get (v := .ref (w.1 (2))) (pc9 := 9) C rfl (0) 5 dX11_bestOf_6 (by decide) (ce_0 w (σ)) hin_11 hl_17 rfl (by decide) rfl rfl ?_
  refine g_iload_n (pc9 := 10) C rfl 3 dX11_bestOf_9 rfl rfl ?_
  refine g_iald (x := nI (mN σ (i))) (pc9 := 11) C rfl (2) (i) dX11_bestOf_10 (by decide) (ce_2 w (σ)) rfl (by omega) (by decide) hm.1 ?_
  refine g_icmp_ge (pc9 := 14) C rfl 67 dX11_bestOf_11 rfl (fun c_1 => ?_) (fun c_1 => ?_)
  · replace c_1 := (nI_leI (by omega) (by omega)).mp c_1
    refine g_iload_n (pc9 := 68) C rfl 1 dX11_bestOf_67 rfl rfl ?_
    exact g_ireturn C hr hlk dX11_bestOf_68 ⟨rfl, by rw [show v = mN σ i by omega]⟩
  · replace c_1 := (not_congr (nI_leI (by omega) (by omega))).mp c_1
    refine g_aload_n (pc9 := 15) C rfl 2 dX11_bestOf_14 rfl rfl ?_
    refine g_get (v := .ref (w.1 (25))) (pc9 := 18) C rfl (0) 34 dX11_bestOf_15 (by decide) (ce_0 w (σ)) hin_11 hl_92 rfl (by decide) rfl rfl ?_
    refine g_iload_n (pc9 := 19) C rfl 0 dX11_bestOf_18 rfl rfl ?_
    refine g_iald (x := (iA σ (25)) (v)) (pc9 := 20) C rfl (25) (v) dX11_bestOf_19 (by decide) (ce_25 w (σ)) rfl (by omega) (by decide) rfl ?_
    refine g_aload_n (pc9 := 21) C rfl 2 dX11_bestOf_20 rfl rfl ?_
    refine g_get (v := .ref (w.1 (25))) (pc9 := 24) C rfl (0) 34 dX11_bestOf_21 (by decide) (ce_0 w (σ)) hin_11 hl_92 rfl (by decide) rfl rfl ?_
    refine g_iload_n (pc9 := 25) C rfl 1 dX11_bestOf_24 rfl rfl ?_
    refine g_iald (x := (iA σ (25)) (lbB (iA σ 25) (iA σ 26) (v))) (pc9 := 26) C rfl (25) (lbB (iA σ 25) (iA σ 26) (v)) dX11_bestOf_25 (by decide) (ce_25 w (σ)) rfl (by omega) (by decide) rfl ?_
    refine g_icmp_lt (pc9 := 29) C rfl 59 dX11_bestOf_26 rfl (fun c_2 => ?_) (fun c_2 => ?_)
    · have hs : lbB (iA σ 25) (iA σ 26) (v + 1) = v := cI_t (Or.inl c_2)
      refine g_iload_n (pc9 := 60) C rfl 0 dX11_bestOf_59 rfl rfl ?_
      refine g_istore_n (pc9 := 61) C rfl [(2, .int (nI (v))), (3, .int (nI (v))), (0, .ref (w.1 (0))), (1, .int (nI (i)))] dX11_bestOf_60 rfl (by decide) rfl ?_
      refine g_iinc (pc9 := 64) C rfl [(3, .int (nI (v + 1))), (2, .int (nI (v))), (0, .ref (w.1 (0))), (1, .int (nI (i)))] 1 (nI (v + 1)) dX11_bestOf_61 rfl (nI_1 (v)) (by decide) rfl ?_
      refine g_goto C 4 dX11_bestOf_64 rfl ?_
      refine g_sub [0, 1, 2, 3] [(3, .int (nI (v + 1))), (2, .int (nI (v))), (0, .ref (w.1 (0))), (1, .int (nI (i)))] rfl ?_
      refine g_l2 (congrArg nI hs.symm) ?_
      exact ih (v + 1) ⟨by omega, by omega⟩ (by omega)
    · have h1 := c_2
      refine g_aload_n (pc9 := 30) C rfl 2 dX11_bestOf_29 rfl rfl ?_
      refine g_get (v := .ref (w.1 (25))) (pc9 := 33) C rfl (0) 34 dX11_bestOf_30 (by decide) (ce_0 w (σ)) hin_11 hl_92 rfl (by decide) rfl rfl ?_
      refine g_iload_n (pc9 := 34) C rfl 0 dX11_bestOf_33 rfl rfl ?_
      refine g_iald (x := (iA σ (25)) (v)) (pc9 := 35) C rfl (25) (v) dX11_bestOf_34 (by decide) (ce_25 w (σ)) rfl (by omega) (by decide) rfl ?_
      refine g_aload_n (pc9 := 36) C rfl 2 dX11_bestOf_35 rfl rfl ?_
      refine g_get (v := .ref (w.1 (25))) (pc9 := 39) C rfl (0) 34 dX11_bestOf_36 (by decide) (ce_0 w (σ)) hin_11 hl_92 rfl (by decide) rfl rfl ?_
      refine g_iload_n (pc9 := 40) C rfl 1 dX11_bestOf_39 rfl rfl ?_
      refine g_iald (x := (iA σ (25)) (lbB (iA σ 25) (iA σ 26) (v))) (pc9 := 41) C rfl (25) (lbB (iA σ 25) (iA σ 26) (v)) dX11_bestOf_40 (by decide) (ce_25 w (σ)) rfl (by omega) (by decide) rfl ?_
      refine g_icmp_ne (pc9 := 44) C rfl 61 dX11_bestOf_41 rfl (fun c_3 => ?_) (fun c_3 => ?_)
      · have hs : lbB (iA σ 25) (iA σ 26) (v + 1) = lbB (iA σ 25) (iA σ 26) (v) := cI_f (fun h => h.elim h1 (fun q => c_3 q.1))
        refine g_iinc (pc9 := 64) C rfl [(3, .int (nI (v + 1))), (2, .int (nI (lbB (iA σ 25) (iA σ 26) (v)))), (0, .ref (w.1 (0))), (1, .int (nI (i)))] 0 (nI (v + 1)) dX11_bestOf_61 rfl (nI_1 (v)) (by decide) rfl ?_
        refine g_goto C 4 dX11_bestOf_64 rfl ?_
        refine g_sub [0, 1, 2, 3] [(3, .int (nI (v + 1))), (2, .int (nI (lbB (iA σ 25) (iA σ 26) (v)))), (0, .ref (w.1 (0))), (1, .int (nI (i)))] rfl ?_
        refine g_l2 (congrArg nI hs.symm) ?_
        exact ih (v + 1) ⟨by omega, by omega⟩ (by omega)
      · have h2 := Classical.not_not.mp (fun h => h c_3)
        refine g_aload_n (pc9 := 45) C rfl 2 dX11_bestOf_44 rfl rfl ?_
        refine g_get (v := .ref (w.1 (26))) (pc9 := 48) C rfl (0) 35 dX11_bestOf_45 (by decide) (ce_0 w (σ)) hin_11 hl_95 rfl (by decide) rfl rfl ?_
        refine g_iload_n (pc9 := 49) C rfl 0 dX11_bestOf_48 rfl rfl ?_
        refine g_iald (x := (iA σ (26)) (v)) (pc9 := 50) C rfl (26) (v) dX11_bestOf_49 (by decide) (ce_26 w (σ)) rfl (by omega) (by decide) rfl ?_
        refine g_aload_n (pc9 := 51) C rfl 2 dX11_bestOf_50 rfl rfl ?_
        refine g_get (v := .ref (w.1 (26))) (pc9 := 54) C rfl (0) 35 dX11_bestOf_51 (by decide) (ce_0 w (σ)) hin_11 hl_95 rfl (by decide) rfl rfl ?_
        refine g_iload_n (pc9 := 55) C rfl 1 dX11_bestOf_54 rfl rfl ?_
        refine g_iald (x := (iA σ (26)) (lbB (iA σ 25) (iA σ 26) (v))) (pc9 := 56) C rfl (26) (lbB (iA σ 25) (iA σ 26) (v)) dX11_bestOf_55 (by decide) (ce_26 w (σ)) rfl (by omega) (by decide) rfl ?_
        refine g_icmp_ge (pc9 := 59) C rfl 61 dX11_bestOf_56 rfl (fun c_4 => ?_) (fun c_4 => ?_)
        · have hs : lbB (iA σ 25) (iA σ 26) (v + 1) = lbB (iA σ 25) (iA σ 26) (v) := cI_f (fun h => h.elim h1 (fun q => absurd q.2 (Int32.not_lt.mpr c_4)))
          refine g_iinc (pc9 := 64) C rfl [(3, .int (nI (v + 1))), (2, .int (nI (lbB (iA σ 25) (iA σ 26) (v)))), (0, .ref (w.1 (0))), (1, .int (nI (i)))] 0 (nI (v + 1)) dX11_bestOf_61 rfl (nI_1 (v)) (by decide) rfl ?_
          refine g_goto C 4 dX11_bestOf_64 rfl ?_
          refine g_sub [0, 1, 2, 3] [(3, .int (nI (v + 1))), (2, .int (nI (lbB (iA σ 25) (iA σ 26) (v)))), (0, .ref (w.1 (0))), (1, .int (nI (i)))] rfl ?_
          refine g_l2 (congrArg nI hs.symm) ?_
          exact ih (v + 1) ⟨by omega, by omega⟩ (by omega)
        · have hs : lbB (iA σ 25) (iA σ 26) (v + 1) = v := cI_t (Or.inr ⟨h2, Int32.not_le.mp c_4⟩)
          refine g_iload_n (pc9 := 60) C rfl 0 dX11_bestOf_59 rfl rfl ?_
          refine g_istore_n (pc9 := 61) C rfl [(2, .int (nI (v))), (3, .int (nI (v))), (0, .ref (w.1 (0))), (1, .int (nI (i)))] dX11_bestOf_60 rfl (by decide) rfl ?_
          refine g_iinc (pc9 := 64) C rfl [(3, .int (nI (v + 1))), (2, .int (nI (v))), (0, .ref (w.1 (0))), (1, .int (nI (i)))] 1 (nI (v + 1)) dX11_bestOf_61 rfl (nI_1 (v)) (by decide) rfl ?_
          refine g_goto C 4 dX11_bestOf_64 rfl ?_
          refine g_sub [0, 1, 2, 3] [(3, .int (nI (v + 1))), (2, .int (nI (v))), (0, .ref (w.1 (0))), (1, .int (nI (i)))] rfl ?_
          refine g_l2 (congrArg nI hs.symm) ?_
          exact ih (v + 1) ⟨by omega, by omega⟩ (by omega)
def mdoP (σ : St) (x y : Int32) (z : Nat) (r : Int32) (σ9 : St) : Prop := (¬ (okI 8 x ∧ okI 8 y) ∧ σ9 = mT σ 1) ∨ (∃ i k, i < 8 ∧ k < 8 ∧ x = nI i ∧ y = nI k ∧ ((mnlB σ i k ∧ σ9 = mT σ 2) ∨ (¬ mnlB σ i k ∧ ∃ D L, (∀ x, x < mN σ i → ∀ m9, m9 < mN σ k → lzE σ i k D L x m9) ∧ σ9 = sI (sI (mT σ 0) 25 D) 26 L ∧ r = (if z = 0 then D else L) (lbB D L (mN σ k)))))
set_option maxRecDepth 100000 in
set_option maxHeartbeats 4000000 in
theorem m_X11_doublings (l : Launch) (w : Wd) (σ : St) (hM : ∀ i, i < 8 → mtOk σ i) (hT : ∀ i, i < 8 → mtT σ i) (x y : Int32) : MI l yX11_doublings wsX11_doublings (rmL 4) w [.ref (w.1 (0)), .int (x), .int (y)] (σ) (mdoP σ x y 0) := by
  refine MI_of (cc := cX11_doublings) (maxL := 3) (ret := .int) (by decide) rfl (Nat.le_of_ble_eq_true rfl) ?_
  intro p e s m args below meth c A C hr hlk
  have C : Cx p s m args c w A cX11_doublings RX11 3 wsX11_doublings := C
  have hin_11 : ∀ u ∈ wsX110, u ∈ wsX11_doublings := by decide +kernel
  have hl_92 : Cond.fieldLink RX11 92 "LineageBenchModel" "doubled" "[I" ∈ wsX11_doublings := by decide +kernel
  have hl_107 : Cond.fieldLink RX11 107 "LineageBenchModel" "thrown" "I" ∈ wsX11_doublings := by decide +kernel
  refine g_aload_n (pc9 := 1) C rfl 0 dX11_doublings_0 rfl rfl ?_
  refine g_iconst (pc9 := 2) C rfl (nI (0)) dX11_doublings_1 rfl ?_
  refine g_put (pc9 := 5) C rfl (0) 0 dX11_doublings_2 (by decide) (ce_0 w (σ)) (rfl) hin_11 hl_107 tyX11 tyX11_ok nmX11 rfl (by decide) rfl rfl rfl (Nat.le_of_ble_eq_true rfl) ?_
  refine g_aload_n (pc9 := 6) C rfl 0 dX11_doublings_5 rfl rfl ?_
  refine g_iload_n (pc9 := 7) C rfl 1 dX11_doublings_6 rfl rfl ?_
  refine g_iload_n (pc9 := 8) C rfl 2 dX11_doublings_7 rfl rfl ?_
  refine g_callVi (nn := 2) (rest := []) (pc9 := 11) C rfl (0) [.int (x), .int (y)] rfl dX11_doublings_8 (m_X11_noLaying l w σ hM x y) gX11_doublings_X11_noLaying (by decide) (ce_0 w (sN σ (0) 0 (nI (0)))) rfl rfl rfl rfl rfl (by decide +kernel) ⟨by decide, by decide⟩ rfl (Nat.le_of_ble_eq_true rfl) ⟨by decide, by decide⟩ (fun r_1 σ_1 q_1 => ?_)
  rcases q_1 with ⟨hns, qr, qs⟩ | ⟨i, k, hb_i, hb_k, hx_i, hx_k, hq⟩
  · rw [qr, qs]
    refine g_if_eq (pc9 := 14) C rfl 16 dX11_doublings_11 rfl (fun c_2 => ?_) (fun c_2 => ?_)
    · exact absurd c_2 (by decide)
    · refine g_iconst (pc9 := 15) C rfl (nI (0)) dX11_doublings_14 rfl ?_
      exact g_ireturn C hr hlk dX11_doublings_15 (Or.inl ⟨hns, rfl⟩)
  · subst hx_i
    subst hx_k
    rcases hq with ⟨hbd, qr, qs⟩ | ⟨hgd, qr, qs⟩
    · rw [qr, qs]
      refine g_if_eq (pc9 := 14) C rfl 16 dX11_doublings_11 rfl (fun c_3 => ?_) (fun c_3 => ?_)
      · exact absurd c_3 (by decide)
      · refine g_iconst (pc9 := 15) C rfl (nI (0)) dX11_doublings_14 rfl ?_
        exact g_ireturn C hr hlk dX11_doublings_15 (Or.inr ⟨i, k, hb_i, hb_k, rfl, rfl, Or.inl ⟨hbd, rfl⟩⟩)
    · rw [qr, qs]
      have h0i : 0 < mN σ i := Nat.pos_of_ne_zero (fun h => hgd (Or.inl h))
      have h0k : 0 < mN σ k := (Classical.not_not.mp (fun h => hgd (Or.inr (Or.inr (Or.inl h))))).1
      have h47k := (hM k hb_k).2.1
      refine g_if_eq (pc9 := 14) C rfl 16 dX11_doublings_11 rfl (fun c_4 => ?_) (fun c_4 => ?_)
      · refine g_aload_n (pc9 := 17) C rfl 0 dX11_doublings_16 rfl rfl ?_
        refine g_iload_n (pc9 := 18) C rfl 1 dX11_doublings_17 rfl rfl ?_
        refine g_iload_n (pc9 := 19) C rfl 2 dX11_doublings_18 rfl rfl ?_
        refine g_callVv (nn := 2) (rest := []) (pc9 := 22) C rfl (0) [.int (nI (i)), .int (nI (k))] rfl dX11_doublings_19 (m_X11_lays l w (mT σ 0) hM i k hb_i hb_k h0i (hT i hb_i)) gX11_doublings_X11_lays (by decide) (ce_0 w (sN σ (0) 0 (nI (0)))) rfl rfl rfl rfl rfl (by decide +kernel) ⟨by decide, by decide⟩ rfl (Nat.le_of_ble_eq_true rfl) ⟨by decide, by decide⟩ (fun σ_5 q_5 => ?_)
        obtain ⟨D, L, hE, qs_5⟩ := q_5
        replace hE : ∀ x, x < mN σ i → ∀ m9, m9 < mN σ k → lzE σ i k D L x m9 := hE
        rw [qs_5]
        refine g_aload_n (pc9 := 23) C rfl 0 dX11_doublings_22 rfl rfl ?_
        refine g_get (v := .ref (w.1 (25))) (pc9 := 26) C rfl (0) 34 dX11_doublings_23 (by decide) (ce_0 w (sI (sI (sN σ (0) 0 (nI (0))) (25) (D)) (26) (L))) hin_11 hl_92 rfl (by decide) rfl rfl ?_
        refine g_aload_n (pc9 := 27) C rfl 0 dX11_doublings_26 rfl rfl ?_
        refine g_iload_n (pc9 := 28) C rfl 2 dX11_doublings_27 rfl rfl ?_
        refine g_callVi (nn := 1) (rest := [.ref (w.1 (25))]) (pc9 := 31) C rfl (0) [.int (nI (k))] rfl dX11_doublings_28 (m_X11_bestOf l w (sI (sI (sN σ (0) 0 (nI (0))) (25) (D)) (26) (L)) k hb_k (hM k hb_k) h0k) gX11_doublings_X11_bestOf (by decide) (ce_0 w (sI (sI (sN σ (0) 0 (nI (0))) (25) (D)) (26) (L))) rfl rfl rfl rfl rfl (by decide +kernel) ⟨by decide, by decide⟩ rfl (Nat.le_of_ble_eq_true rfl) ⟨by decide, by decide⟩ (fun r_6 σ_6 q_6 => ?_)
        obtain ⟨qs_6, qr_6⟩ := q_6
        replace qr_6 : r_6 = nI (lbB D L (mN σ k)) := qr_6
        rw [qs_6, qr_6]
        have hlb := lbB_lt (D := D) (L := L) (mN σ k) h0k
        refine g_iald (x := D (lbB D L (mN σ k))) (pc9 := 32) C rfl (25) (lbB D L (mN σ k)) dX11_doublings_31 (by decide) (ce_25 w (sI (sI (sN σ (0) 0 (nI (0))) (25) (D)) (26) (L))) rfl (by omega) (by decide) (congrFun ((iA_n (by decide)).trans (iA_s)) _) ?_
        exact g_ireturn C hr hlk dX11_doublings_32 (Or.inr ⟨i, k, hb_i, hb_k, rfl, rfl, Or.inr ⟨hgd, D, L, hE, rfl, rfl⟩⟩)
      · exact absurd c_4 (by decide)
set_option maxRecDepth 100000 in
set_option maxHeartbeats 4000000 in
theorem m_X11_losses (l : Launch) (w : Wd) (σ : St) (hM : ∀ i, i < 8 → mtOk σ i) (hT : ∀ i, i < 8 → mtT σ i) (x y : Int32) : MI l yX11_losses wsX11_losses (rmL 4) w [.ref (w.1 (0)), .int (x), .int (y)] (σ) (mdoP σ x y 1) := by
  refine MI_of (cc := cX11_losses) (maxL := 3) (ret := .int) (by decide) rfl (Nat.le_of_ble_eq_true rfl) ?_
  intro p e s m args below meth c A C hr hlk
  have C : Cx p s m args c w A cX11_losses RX11 3 wsX11_losses := C
  have hin_11 : ∀ u ∈ wsX110, u ∈ wsX11_losses := by decide +kernel
  have hl_95 : Cond.fieldLink RX11 95 "LineageBenchModel" "lost" "[I" ∈ wsX11_losses := by decide +kernel
  have hl_107 : Cond.fieldLink RX11 107 "LineageBenchModel" "thrown" "I" ∈ wsX11_losses := by decide +kernel
  refine g_aload_n (pc9 := 1) C rfl 0 dX11_losses_0 rfl rfl ?_
  refine g_iconst (pc9 := 2) C rfl (nI (0)) dX11_losses_1 rfl ?_
  refine g_put (pc9 := 5) C rfl (0) 0 dX11_losses_2 (by decide) (ce_0 w (σ)) (rfl) hin_11 hl_107 tyX11 tyX11_ok nmX11 rfl (by decide) rfl rfl rfl (Nat.le_of_ble_eq_true rfl) ?_
  refine g_aload_n (pc9 := 6) C rfl 0 dX11_losses_5 rfl rfl ?_
  refine g_iload_n (pc9 := 7) C rfl 1 dX11_losses_6 rfl rfl ?_
  refine g_iload_n (pc9 := 8) C rfl 2 dX11_losses_7 rfl rfl ?_
  refine g_callVi (nn := 2) (rest := []) (pc9 := 11) C rfl (0) [.int (x), .int (y)] rfl dX11_losses_8 (m_X11_noLaying l w σ hM x y) gX11_losses_X11_noLaying (by decide) (ce_0 w (sN σ (0) 0 (nI (0)))) rfl rfl rfl rfl rfl (by decide +kernel) ⟨by decide, by decide⟩ rfl (Nat.le_of_ble_eq_true rfl) ⟨by decide, by decide⟩ (fun r_1 σ_1 q_1 => ?_)
  rcases q_1 with ⟨hns, qr, qs⟩ | ⟨i, k, hb_i, hb_k, hx_i, hx_k, hq⟩
  · rw [qr, qs]
    refine g_if_eq (pc9 := 14) C rfl 16 dX11_losses_11 rfl (fun c_2 => ?_) (fun c_2 => ?_)
    · exact absurd c_2 (by decide)
    · refine g_iconst (pc9 := 15) C rfl (nI (0)) dX11_losses_14 rfl ?_
      exact g_ireturn C hr hlk dX11_losses_15 (Or.inl ⟨hns, rfl⟩)
  · subst hx_i
    subst hx_k
    rcases hq with ⟨hbd, qr, qs⟩ | ⟨hgd, qr, qs⟩
    · rw [qr, qs]
      refine g_if_eq (pc9 := 14) C rfl 16 dX11_losses_11 rfl (fun c_3 => ?_) (fun c_3 => ?_)
      · exact absurd c_3 (by decide)
      · refine g_iconst (pc9 := 15) C rfl (nI (0)) dX11_losses_14 rfl ?_
        exact g_ireturn C hr hlk dX11_losses_15 (Or.inr ⟨i, k, hb_i, hb_k, rfl, rfl, Or.inl ⟨hbd, rfl⟩⟩)
    · rw [qr, qs]
      have h0i : 0 < mN σ i := Nat.pos_of_ne_zero (fun h => hgd (Or.inl h))
      have h0k : 0 < mN σ k := (Classical.not_not.mp (fun h => hgd (Or.inr (Or.inr (Or.inl h))))).1
      have h47k := (hM k hb_k).2.1
      refine g_if_eq (pc9 := 14) C rfl 16 dX11_losses_11 rfl (fun c_4 => ?_) (fun c_4 => ?_)
      · refine g_aload_n (pc9 := 17) C rfl 0 dX11_losses_16 rfl rfl ?_
        refine g_iload_n (pc9 := 18) C rfl 1 dX11_losses_17 rfl rfl ?_
        refine g_iload_n (pc9 := 19) C rfl 2 dX11_losses_18 rfl rfl ?_
        refine g_callVv (nn := 2) (rest := []) (pc9 := 22) C rfl (0) [.int (nI (i)), .int (nI (k))] rfl dX11_losses_19 (m_X11_lays l w (mT σ 0) hM i k hb_i hb_k h0i (hT i hb_i)) gX11_losses_X11_lays (by decide) (ce_0 w (sN σ (0) 0 (nI (0)))) rfl rfl rfl rfl rfl (by decide +kernel) ⟨by decide, by decide⟩ rfl (Nat.le_of_ble_eq_true rfl) ⟨by decide, by decide⟩ (fun σ_5 q_5 => ?_)
        obtain ⟨D, L, hE, qs_5⟩ := q_5
        replace hE : ∀ x, x < mN σ i → ∀ m9, m9 < mN σ k → lzE σ i k D L x m9 := hE
        rw [qs_5]
        refine g_aload_n (pc9 := 23) C rfl 0 dX11_losses_22 rfl rfl ?_
        refine g_get (v := .ref (w.1 (26))) (pc9 := 26) C rfl (0) 35 dX11_losses_23 (by decide) (ce_0 w (sI (sI (sN σ (0) 0 (nI (0))) (25) (D)) (26) (L))) hin_11 hl_95 rfl (by decide) rfl rfl ?_
        refine g_aload_n (pc9 := 27) C rfl 0 dX11_losses_26 rfl rfl ?_
        refine g_iload_n (pc9 := 28) C rfl 2 dX11_losses_27 rfl rfl ?_
        refine g_callVi (nn := 1) (rest := [.ref (w.1 (26))]) (pc9 := 31) C rfl (0) [.int (nI (k))] rfl dX11_losses_28 (m_X11_bestOf l w (sI (sI (sN σ (0) 0 (nI (0))) (25) (D)) (26) (L)) k hb_k (hM k hb_k) h0k) gX11_losses_X11_bestOf (by decide) (ce_0 w (sI (sI (sN σ (0) 0 (nI (0))) (25) (D)) (26) (L))) rfl rfl rfl rfl rfl (by decide +kernel) ⟨by decide, by decide⟩ rfl (Nat.le_of_ble_eq_true rfl) ⟨by decide, by decide⟩ (fun r_6 σ_6 q_6 => ?_)
        obtain ⟨qs_6, qr_6⟩ := q_6
        replace qr_6 : r_6 = nI (lbB D L (mN σ k)) := qr_6
        rw [qs_6, qr_6]
        have hlb := lbB_lt (D := D) (L := L) (mN σ k) h0k
        refine g_iald (x := L (lbB D L (mN σ k))) (pc9 := 32) C rfl (26) (lbB D L (mN σ k)) dX11_losses_31 (by decide) (ce_26 w (sI (sI (sN σ (0) 0 (nI (0))) (25) (D)) (26) (L))) rfl (by omega) (by decide) (congrFun (iA_s) _) ?_
        exact g_ireturn C hr hlk dX11_losses_32 (Or.inr ⟨i, k, hb_i, hb_k, rfl, rfl, Or.inr ⟨hgd, D, L, hE, rfl, rfl⟩⟩)
      · exact absurd c_4 (by decide)

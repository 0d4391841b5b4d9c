/-! The reference: clusters without their scratch row; least, shows -/
theorem MI_mono {l : Launch} {y : MethodName} {ws : List Cond} {rm : Room} {w : Wd} {av : List Value} {σ : St} {p1 p2 : Int32 → St → Prop} (h : ∀ r σ9, p1 r σ9 → p2 r σ9) (k : MI l y ws rm w av σ p1) : MI l y ws rm w av σ p2 := fun sz p e h1 h2 h3 s m args below a b c d => by
  obtain ⟨n, o, q1, q2, q3, ⟨⟨⟨r, u, e1, e2, e3⟩, hF⟩, hL⟩⟩ := k sz p e h1 h2 h3 s m args below a b c d
  exact ⟨n, o, q1, q2, q3, ⟨⟨⟨r, u, e1, h r u e2, e3⟩, hF⟩, hL⟩⟩
theorem MV_mono {l : Launch} {y : MethodName} {ws : List Cond} {rm : Room} {w : Wd} {av : List Value} {σ : St} {p1 p2 : St → Prop} (h : ∀ σ9, p1 σ9 → p2 σ9) (k : MV l y ws rm w av σ p1) : MV l y ws rm w av σ p2 := fun sz p e h1 h2 h3 s m args below a b c d => by
  obtain ⟨n, o, q1, q2, q3, ⟨⟨⟨u, e1, e2, e3⟩, hF⟩, hL⟩⟩ := k sz p e h1 h2 h3 s m args below a b c d
  exact ⟨n, o, q1, q2, q3, ⟨⟨⟨u, e1, h u e2, e3⟩, hF⟩, hL⟩⟩
theorem gath_c {P : Nat → Nat} {n : Nat} (hP : ∀ v, 0 < v → v < n → P v < v) : ∀ (v : Nat) (c d : Nat → Int32), v < n → (∀ x, x < n → c x = d x) → ∀ x, x < n → gath P v c x = gath P v d x
  | 0, c, d, _, h, x, hx => h x hx
  | v + 1, c, d, hv, h, x, hx => by
    have hp := hP (v + 1) (by omega) hv
    refine gath_c hP v _ _ (by omega) (fun y hy => ?_) x hx
    unfold upd
    by_cases e : y = P (v + 1)
    · rw [if_pos e, if_pos e, h _ (by omega), h _ hv]
    · rw [if_neg e, if_neg e]; exact h y hy
/-- the cluster of node v on shelf i -/
def mcl (σ : St) (i v : Nat) : Int32 := gath (mp σ i) (mN σ i - 1) (fun v => mB (mK σ i v)) v
theorem mC_mcl {σ : St} {i : Nat} (hm : mtOk σ i) (h0 : 0 < mN σ i) {v : Nat} (hv : v < mN σ i) : mC σ i v = mcl σ i v :=
  gath_c (fun v h1 h2 => (hm.2.2.1 v h1 h2).2) _ _ _ (by omega) (fun x hx => if_pos hx) v hv
abbrev mHas (σ : St) (i : Nat) (x : Int32) : Prop := ∃ v, v < mN σ i ∧ mcl σ i v = x
theorem m_clu (l : Launch) (w : Wd) (σ : St) (i : Nat) (hi : i < 8) (hm : mtOk σ i) (h0 : 0 < mN σ i) : MV l yX11_clusters wsX11_clusters (rmL 1) w [.ref (w.1 0), .int (nI i)] σ (fun σ9 => ∃ g, σ9 = sI σ 12 g ∧ ∀ v, v < mN σ i → g v = mcl σ i v) :=
  MV_mono (fun σ9 q => ⟨_, q, fun v hv => mC_mcl hm h0 hv⟩) (m_X11_clusters l w σ i hi hm h0)
theorem m_hasC (l : Launch) (w : Wd) (σ : St) (i : Nat) (hi : i < 8) (hm : mtOk σ i) (h0 : 0 < mN σ i) (x : Int32) : MI l yX11_hasCluster wsX11_hasCluster (rmL 2) w [.ref (w.1 0), .int (nI i), .int x] σ (fun r σ9 => ∃ g, σ9 = sI σ 12 g ∧ r = pI (mHas σ i x)) :=
  MI_mono (fun r σ9 q => ⟨_, q.1, q.2.trans (pI_c ⟨fun ⟨v, h1, h2⟩ => ⟨v, h1, (mC_mcl hm h0 h1).symm.trans h2⟩, fun ⟨v, h1, h2⟩ => ⟨v, h1, (mC_mcl hm h0 h1).trans h2⟩⟩)⟩) (m_X11_hasCluster l w σ i hi hm h0 x)
def mlc (f : Nat → Int32) (x : Int32) : Nat → Int32
  | 0 => -1
  | v + 1 => if x &&& (f v ^^^ (-1)) = 0 ∧ (mlc f x v < 0 ∨ bC (f v) < bC (mlc f x v)) then f v else mlc f x v
abbrev mLo (σ : St) (i : Nat) (x : Int32) : Int32 := mlc (mcl σ i) x (mN σ i)
set_option maxRecDepth 100000 in
set_option maxHeartbeats 4000000 in
theorem m_X11_leastOf (l : Launch) (w : Wd) (σ : St) (i : Nat) (hi : i < 8) (hm : mtOk σ i) (h0 : 0 < mN σ i) (x : Int32) : MI l yX11_leastOf wsX11_leastOf (rmL 2) w [.ref (w.1 (0)), .int (nI (i)), .int (x)] (σ) (fun r σ9 => ∃ g, σ9 = sI σ 12 g ∧ r = mLo σ i x) := by
  refine MI_of (cc := cX11_leastOf) (maxL := 5) (ret := .int) (by decide) rfl (Nat.le_of_ble_eq_true rfl) ?_
  intro p e s m args below meth c A C hr hlk
  have C : Cx p s m args c w A cX11_leastOf RX11 5 wsX11_leastOf := C
  have hin_11 : ∀ u ∈ wsX110, u ∈ wsX11_leastOf := by decide +kernel
  have hl_17 : Cond.fieldLink RX11 17 "LineageBenchModel" "many" "[I" ∈ wsX11_leastOf := by decide +kernel
  have hl_51 : Cond.fieldLink RX11 51 "LineageBenchModel" "clusters" "[I" ∈ wsX11_leastOf := by decide +kernel
  have h47 := hm.2.1
  refine g_aload_n (pc9 := 1) C rfl 0 dX11_leastOf_0 rfl rfl ?_
  refine g_iload_n (pc9 := 2) C rfl 1 dX11_leastOf_1 rfl rfl ?_
  refine g_callVv (nn := 1) (rest := []) (pc9 := 5) C rfl (0) [.int (nI (i))] rfl dX11_leastOf_2 (m_clu l w σ i hi hm h0) gX11_leastOf_X11_clusters (by decide) (ce_0 w (σ)) rfl rfl rfl rfl rfl (by decide +kernel) ⟨by decide, by decide⟩ rfl (Nat.le_of_ble_eq_true rfl) ⟨by decide, by decide⟩ (fun σ_1 q_1 => ?_)
  obtain ⟨g9, qs_1, hg9⟩ := q_1
  rw [qs_1]
  refine g_iconst (pc9 := 6) C rfl ((-1)) dX11_leastOf_5 rfl ?_
  refine g_istore_n (pc9 := 7) C rfl [(3, .int ((-1))), (0, .ref (w.1 (0))), (1, .int (nI (i))), (2, .int (x))] dX11_leastOf_6 rfl (by decide) rfl ?_
  refine g_iconst (pc9 := 8) C rfl (nI (0)) dX11_leastOf_7 rfl ?_
  refine g_istore (pc9 := 10) C rfl [(4, .int (nI (0))), (3, .int ((-1))), (0, .ref (w.1 (0))), (1, .int (nI (i))), (2, .int (x))] dX11_leastOf_8 (by decide) rfl ?_
  refine g_sub [0, 1, 2, 3, 4] [(4, .int (nI (0))), (3, .int ((-1))), (0, .ref (w.1 (0))), (1, .int (nI (i))), (2, .int (x))] rfl ?_
  refine g_lp1 (α := Nat) (fun v => v ≤ mN σ i) (fun v => mN σ i - v) (fun v => G p l e _ s m args below meth c _ w A _ (sI σ (12) (g9)) 0 0 10 [(4, .int (nI (v))), (3, .int (mlc (mcl σ i) x (v))), (0, .ref (w.1 (0))), (1, .int (nI (i))), (2, .int (x))] []) (fun v hI ih => ?_) (0) (Nat.zero_le _)
  obtain hv := hI
  refine g_iload (pc9 := 12) C rfl 0 dX11_leastOf_10 rfl ?_
  refine g_aload_n (pc9 := 13) C rfl 2 dX11_leastOf_12 rfl rfl ?_
  refine g_get (v := .ref (w.1 (2))) (pc9 := 16) C rfl (0) 5 dX11_leastOf_13 (by decide) (ce_0 w (sI σ (12) (g9))) hin_11 hl_17 rfl (by decide) rfl rfl ?_
  refine g_iload_n (pc9 := 17) C rfl 3 dX11_leastOf_16 rfl rfl ?_
  refine g_iald (x := nI (mN σ (i))) (pc9 := 18) C rfl (2) (i) dX11_leastOf_17 (by decide) (ce_2 w (sI σ (12) (g9))) rfl (by omega) (by decide) ((congrFun (iA_n (by decide)) _).trans hm.1) ?_
  refine g_icmp_ge (pc9 := 21) C rfl 70 dX11_leastOf_18 rfl (fun c_2 => ?_) (fun c_2 => ?_)
  · replace c_2 := (nI_leI (by omega) (by omega)).mp c_2
    refine g_iload_n (pc9 := 71) C rfl 1 dX11_leastOf_70 rfl rfl ?_
    exact g_ireturn C hr hlk dX11_leastOf_71 ⟨g9, rfl, by rw [show v = mN σ i by omega]⟩
  · replace c_2 := (not_congr (nI_leI (by omega) (by omega))).mp c_2
    refine g_iload_n (pc9 := 22) C rfl 4 dX11_leastOf_21 rfl rfl ?_
    refine g_aload_n (pc9 := 23) C rfl 2 dX11_leastOf_22 rfl rfl ?_
    refine g_get (v := .ref (w.1 (12))) (pc9 := 26) C rfl (0) 19 dX11_leastOf_23 (by decide) (ce_0 w (sI σ (12) (g9))) hin_11 hl_51 rfl (by decide) rfl rfl ?_
    refine g_iload (pc9 := 28) C rfl 0 dX11_leastOf_26 rfl ?_
    refine g_iald (x := mcl σ i (v)) (pc9 := 29) C rfl (12) (v) dX11_leastOf_28 (by decide) (ce_12 w (sI σ (12) (g9))) rfl (by omega) (by decide) ((congrFun (iA_s) _).trans (hg9 (v) (by omega))) ?_
    refine g_iconst (pc9 := 30) C rfl ((-1)) dX11_leastOf_29 rfl ?_
    refine g_ixor (pc9 := 31) C rfl dX11_leastOf_30 ?_
    refine g_iand (pc9 := 32) C rfl dX11_leastOf_31 ?_
    refine g_if_ne (pc9 := 35) C rfl 64 dX11_leastOf_32 rfl (fun c_3 => ?_) (fun c_3 => ?_)
    · have hs : mlc (mcl σ i) x (v + 1) = mlc (mcl σ i) x (v) := if_neg (fun h => c_3 h.1)
      refine g_iinc (pc9 := 67) C rfl [(4, .int (nI (v + 1))), (3, .int (mlc (mcl σ i) x (v))), (0, .ref (w.1 (0))), (1, .int (nI (i))), (2, .int (x))] 0 (nI (v + 1)) dX11_leastOf_64 rfl (nI_1 (v)) (by decide) rfl ?_
      refine g_goto C 10 dX11_leastOf_67 rfl ?_
      refine g_sub [0, 1, 2, 3, 4] [(4, .int (nI (v + 1))), (3, .int (mlc (mcl σ i) x (v))), (0, .ref (w.1 (0))), (1, .int (nI (i))), (2, .int (x))] rfl ?_
      refine g_l2 hs.symm ?_
      exact ih (v + 1) (by omega) (by omega)
    · have hin := Classical.not_not.mp (fun h => h c_3)
      refine g_iload_n (pc9 := 36) C rfl 1 dX11_leastOf_35 rfl rfl ?_
      refine g_if_lt (pc9 := 39) C rfl 56 dX11_leastOf_36 rfl (fun c_4 => ?_) (fun c_4 => ?_)
      · have hs : mlc (mcl σ i) x (v + 1) = mcl σ i v := if_pos ⟨hin, Or.inl c_4⟩
        refine g_aload_n (pc9 := 57) C rfl 2 dX11_leastOf_56 rfl rfl ?_
        refine g_get (v := .ref (w.1 (12))) (pc9 := 60) C rfl (0) 19 dX11_leastOf_57 (by decide) (ce_0 w (sI σ (12) (g9))) hin_11 hl_51 rfl (by decide) rfl rfl ?_
        refine g_iload (pc9 := 62) C rfl 0 dX11_leastOf_60 rfl ?_
        refine g_iald (x := mcl σ i (v)) (pc9 := 63) C rfl (12) (v) dX11_leastOf_62 (by decide) (ce_12 w (sI σ (12) (g9))) rfl (by omega) (by decide) ((congrFun (iA_s) _).trans (hg9 (v) (by omega))) ?_
        refine g_istore_n (pc9 := 64) C rfl [(3, .int (mcl σ i (v))), (4, .int (nI (v))), (0, .ref (w.1 (0))), (1, .int (nI (i))), (2, .int (x))] dX11_leastOf_63 rfl (by decide) rfl ?_
        refine g_iinc (pc9 := 67) C rfl [(4, .int (nI (v + 1))), (3, .int (mcl σ i (v))), (0, .ref (w.1 (0))), (1, .int (nI (i))), (2, .int (x))] 1 (nI (v + 1)) dX11_leastOf_64 rfl (nI_1 (v)) (by decide) rfl ?_
        refine g_goto C 10 dX11_leastOf_67 rfl ?_
        refine g_sub [0, 1, 2, 3, 4] [(4, .int (nI (v + 1))), (3, .int (mcl σ i (v))), (0, .ref (w.1 (0))), (1, .int (nI (i))), (2, .int (x))] rfl ?_
        refine g_l2 hs.symm ?_
        exact ih (v + 1) (by omega) (by omega)
      · have hnn := c_4
        refine g_aload_n (pc9 := 40) C rfl 2 dX11_leastOf_39 rfl rfl ?_
        refine g_get (v := .ref (w.1 (12))) (pc9 := 43) C rfl (0) 19 dX11_leastOf_40 (by decide) (ce_0 w (sI σ (12) (g9))) hin_11 hl_51 rfl (by decide) rfl rfl ?_
        refine g_iload (pc9 := 45) C rfl 0 dX11_leastOf_43 rfl ?_
        refine g_iald (x := mcl σ i (v)) (pc9 := 46) C rfl (12) (v) dX11_leastOf_45 (by decide) (ce_12 w (sI σ (12) (g9))) rfl (by omega) (by decide) ((congrFun (iA_s) _).trans (hg9 (v) (by omega))) ?_
        refine g_callSi (nn := 1) (rest := []) (pc9 := 49) C rfl [.int (mcl σ i (v))] rfl dX11_leastOf_46 (m_bitCount l w _ (mcl σ i (v))) gX11_leastOf_J6_bitCount_0f7a4 rfl rfl rfl (by decide +kernel) ⟨by decide, by decide⟩ rfl (Nat.le_of_ble_eq_true rfl) ⟨by decide, by decide⟩ (fun r_5 σ_5 q_5 => ?_)
        obtain ⟨qs_5, qr_5⟩ := q_5
        rw [qs_5, qr_5]
        clear qs_5 qr_5
        refine g_iload_n (pc9 := 50) C rfl 1 dX11_leastOf_49 rfl rfl ?_
        refine g_callSi (nn := 1) (rest := [.int (bC (mcl σ i (v)))]) (pc9 := 53) C rfl [.int (mlc (mcl σ i) x (v))] rfl dX11_leastOf_50 (m_bitCount l w _ (mlc (mcl σ i) x (v))) gX11_leastOf_J6_bitCount_0f7a4 rfl rfl rfl (by decide +kernel) ⟨by decide, by decide⟩ rfl (Nat.le_of_ble_eq_true rfl) ⟨by decide, by decide⟩ (fun r_6 σ_6 q_6 => ?_)
        obtain ⟨qs_6, qr_6⟩ := q_6
        rw [qs_6, qr_6]
        clear qs_6 qr_6
        refine g_icmp_ge (pc9 := 56) C rfl 64 dX11_leastOf_53 rfl (fun c_7 => ?_) (fun c_7 => ?_)
        · have hs : mlc (mcl σ i) x (v + 1) = mlc (mcl σ i) x (v) := if_neg (fun h => by rcases h.2 with q | q; exact hnn q; exact absurd q (Int32.not_lt.mpr c_7))
          refine g_iinc (pc9 := 67) C rfl [(4, .int (nI (v + 1))), (3, .int (mlc (mcl σ i) x (v))), (0, .ref (w.1 (0))), (1, .int (nI (i))), (2, .int (x))] 0 (nI (v + 1)) dX11_leastOf_64 rfl (nI_1 (v)) (by decide) rfl ?_
          refine g_goto C 10 dX11_leastOf_67 rfl ?_
          refine g_sub [0, 1, 2, 3, 4] [(4, .int (nI (v + 1))), (3, .int (mlc (mcl σ i) x (v))), (0, .ref (w.1 (0))), (1, .int (nI (i))), (2, .int (x))] rfl ?_
          refine g_l2 hs.symm ?_
          exact ih (v + 1) (by omega) (by omega)
        · have hs : mlc (mcl σ i) x (v + 1) = mcl σ i v := if_pos ⟨hin, Or.inr (Int32.not_le.mp c_7)⟩
          refine g_aload_n (pc9 := 57) C rfl 2 dX11_leastOf_56 rfl rfl ?_
          refine g_get (v := .ref (w.1 (12))) (pc9 := 60) C rfl (0) 19 dX11_leastOf_57 (by decide) (ce_0 w (sI σ (12) (g9))) hin_11 hl_51 rfl (by decide) rfl rfl ?_
          refine g_iload (pc9 := 62) C rfl 0 dX11_leastOf_60 rfl ?_
          refine g_iald (x := mcl σ i (v)) (pc9 := 63) C rfl (12) (v) dX11_leastOf_62 (by decide) (ce_12 w (sI σ (12) (g9))) rfl (by omega) (by decide) ((congrFun (iA_s) _).trans (hg9 (v) (by omega))) ?_
          refine g_istore_n (pc9 := 64) C rfl [(3, .int (mcl σ i (v))), (4, .int (nI (v))), (0, .ref (w.1 (0))), (1, .int (nI (i))), (2, .int (x))] dX11_leastOf_63 rfl (by decide) rfl ?_
          refine g_iinc (pc9 := 67) C rfl [(4, .int (nI (v + 1))), (3, .int (mcl σ i (v))), (0, .ref (w.1 (0))), (1, .int (nI (i))), (2, .int (x))] 1 (nI (v + 1)) dX11_leastOf_64 rfl (nI_1 (v)) (by decide) rfl ?_
          refine g_goto C 10 dX11_leastOf_67 rfl ?_
          refine g_sub [0, 1, 2, 3, 4] [(4, .int (nI (v + 1))), (3, .int (mcl σ i (v))), (0, .ref (w.1 (0))), (1, .int (nI (i))), (2, .int (x))] rfl ?_
          refine g_l2 hs.symm ?_
          exact ih (v + 1) (by omega) (by omega)
abbrev msP (σ : St) (i a b d : Nat) : Prop := al3 a b d &&& (mKs σ i ^^^ (-1)) = 0 ∧ (mLo σ i (bitI a ||| bitI b) >>> (nI d &&& 31)) &&& nI 1 = 0
/-- only the scratch row of clusters has changed -/
abbrev s12 (σ σ9 : St) : Prop := ∃ g, σ9 = sI σ 12 g
theorem s12_r {σ : St} : s12 σ σ := ⟨iA σ 12, sI_self.symm⟩
theorem s12_t {σ σ8 σ9 : St} (h : s12 σ σ8) (h2 : s12 σ8 σ9) : s12 σ σ9 := by
  obtain ⟨g, rfl⟩ := h
  obtain ⟨g2, rfl⟩ := h2
  exact ⟨g2, sI_sI⟩
set_option maxRecDepth 100000 in
set_option maxHeartbeats 4000000 in
theorem m_X11_shows (l : Launch) (w : Wd) (σ : St) (i : Nat) (hi : i < 8) (hm : mtOk σ i) (h0 : 0 < mN σ i) (a b d : Nat) (ha : a < 12) (hb : b < 12) (hd : d < 12) : MI l yX11_shows wsX11_shows (rmL 3) w [.ref (w.1 (0)), .int (nI (i)), .int (nI (a)), .int (nI (b)), .int (nI (d))] (σ) (fun r σ9 => s12 σ σ9 ∧ r = pI (msP σ i a b d)) := by
  refine MI_of (cc := cX11_shows) (maxL := 6) (ret := .boolean) (by decide) rfl (Nat.le_of_ble_eq_true rfl) ?_
  intro p e s m args below meth c A C hr hlk
  have C : Cx p s m args c w A cX11_shows RX11 6 wsX11_shows := C
  refine g_iconst (pc9 := 1) C rfl (nI (1)) dX11_shows_0 rfl ?_
  refine g_iload_n (pc9 := 2) C rfl 2 dX11_shows_1 rfl rfl ?_
  refine g_ishl (pc9 := 3) C rfl dX11_shows_2 ?_
  refine g_iconst (pc9 := 4) C rfl (nI (1)) dX11_shows_3 rfl ?_
  refine g_iload_n (pc9 := 5) C rfl 3 dX11_shows_4 rfl rfl ?_
  refine g_ishl (pc9 := 6) C rfl dX11_shows_5 ?_
  refine g_ior (pc9 := 7) C rfl dX11_shows_6 ?_
  refine g_iconst (pc9 := 8) C rfl (nI (1)) dX11_shows_7 rfl ?_
  refine g_iload (pc9 := 10) C rfl 4 dX11_shows_8 rfl ?_
  refine g_ishl (pc9 := 11) C rfl dX11_shows_10 ?_
  refine g_ior (pc9 := 12) C rfl dX11_shows_11 ?_
  refine g_istore (pc9 := 14) C rfl [(5, .int ((((nI (1)) <<< ((nI (a)) &&& 31)) ||| ((nI (1)) <<< ((nI (b)) &&& 31))) ||| ((nI (1)) <<< ((nI (d)) &&& 31)))), (0, .ref (w.1 (0))), (1, .int (nI (i))), (2, .int (nI (a))), (3, .int (nI (b))), (4, .int (nI (d)))] dX11_shows_12 (by decide) rfl ?_
  refine g_iload (pc9 := 16) C rfl 0 dX11_shows_14 rfl ?_
  refine g_aload_n (pc9 := 17) C rfl 1 dX11_shows_16 rfl rfl ?_
  refine g_iload_n (pc9 := 18) C rfl 2 dX11_shows_17 rfl rfl ?_
  refine g_callVi (nn := 1) (rest := [.int ((((nI (1)) <<< ((nI (a)) &&& 31)) ||| ((nI (1)) <<< ((nI (b)) &&& 31))) ||| ((nI (1)) <<< ((nI (d)) &&& 31)))]) (pc9 := 21) C rfl (0) [.int (nI (i))] rfl dX11_shows_18 (m_X11_kindsOf l w σ i hi hm) gX11_shows_X11_kindsOf (by decide) (ce_0 w (σ)) rfl rfl rfl rfl rfl (by decide +kernel) ⟨by decide, by decide⟩ rfl (Nat.le_of_ble_eq_true rfl) ⟨by decide, by decide⟩ (fun r_1 σ_1 q_1 => ?_)
  obtain ⟨qs_1, qr_1⟩ := q_1
  rw [qs_1, qr_1]
  clear qs_1 qr_1
  refine g_iconst (pc9 := 22) C rfl ((-1)) dX11_shows_21 rfl ?_
  refine g_ixor (pc9 := 23) C rfl dX11_shows_22 ?_
  refine g_iand (pc9 := 24) C rfl dX11_shows_23 ?_
  refine g_if_ne (pc9 := 27) C rfl 51 dX11_shows_24 rfl (fun c_2 => ?_) (fun c_2 => ?_)
  · have hq : ¬ msP σ i a b d := fun h => c_2 h.1
    refine g_iconst (pc9 := 52) C rfl (nI (0)) dX11_shows_51 rfl ?_
    exact g_zreturn C hr hlk dX11_shows_52 (by decide) ⟨by first | exact ⟨g9, rfl⟩ | exact s12_r, by first | exact (pI_t hq).symm | exact (pI_f hq).symm⟩
  · have h1 := Classical.not_not.mp (fun h => h c_2)
    refine g_aload_n (pc9 := 28) C rfl 1 dX11_shows_27 rfl rfl ?_
    refine g_iload_n (pc9 := 29) C rfl 2 dX11_shows_28 rfl rfl ?_
    refine g_iconst (pc9 := 30) C rfl (nI (1)) dX11_shows_29 rfl ?_
    refine g_iload_n (pc9 := 31) C rfl 3 dX11_shows_30 rfl rfl ?_
    refine g_ishl (pc9 := 32) C rfl dX11_shows_31 ?_
    refine g_iconst (pc9 := 33) C rfl (nI (1)) dX11_shows_32 rfl ?_
    refine g_iload_n (pc9 := 34) C rfl 4 dX11_shows_33 rfl rfl ?_
    refine g_ishl (pc9 := 35) C rfl dX11_shows_34 ?_
    refine g_ior (pc9 := 36) C rfl dX11_shows_35 ?_
    refine g_callVi (nn := 2) (rest := []) (pc9 := 39) C rfl (0) [.int (nI (i)), .int (((nI (1)) <<< ((nI (a)) &&& 31)) ||| ((nI (1)) <<< ((nI (b)) &&& 31)))] rfl dX11_shows_36 (m_X11_leastOf l w σ i hi hm h0 (bitI a ||| bitI b)) gX11_shows_X11_leastOf (by decide) (ce_0 w (σ)) rfl rfl rfl rfl rfl (by decide +kernel) ⟨by decide, by decide⟩ rfl (Nat.le_of_ble_eq_true rfl) ⟨by decide, by decide⟩ (fun r_3 σ_3 q_3 => ?_)
    obtain ⟨g9, qs_3, qr_3⟩ := q_3
    rw [qs_3, qr_3]
    refine g_iload (pc9 := 41) C rfl 5 dX11_shows_39 rfl ?_
    refine g_ishr (pc9 := 42) C rfl dX11_shows_41 ?_
    refine g_iconst (pc9 := 43) C rfl (nI (1)) dX11_shows_42 rfl ?_
    refine g_iand (pc9 := 44) C rfl dX11_shows_43 ?_
    refine g_if_ne (pc9 := 47) C rfl 51 dX11_shows_44 rfl (fun c_4 => ?_) (fun c_4 => ?_)
    · have hq : ¬ msP σ i a b d := fun h => c_4 h.2
      refine g_iconst (pc9 := 52) C rfl (nI (0)) dX11_shows_51 rfl ?_
      exact g_zreturn C hr hlk dX11_shows_52 (by decide) ⟨by first | exact ⟨g9, rfl⟩ | exact s12_r, by first | exact (pI_t hq).symm | exact (pI_f hq).symm⟩
    · have hq : msP σ i a b d := ⟨h1, Classical.not_not.mp (fun h => h c_4)⟩
      refine g_iconst (pc9 := 48) C rfl (nI (1)) dX11_shows_47 rfl ?_
      refine g_goto C 52 dX11_shows_48 rfl ?_
      exact g_zreturn C hr hlk dX11_shows_52 (by decide) ⟨by first | exact ⟨g9, rfl⟩ | exact s12_r, by first | exact (pI_t hq).symm | exact (pI_f hq).symm⟩
noncomputable def msO (σ : St) (i a b d : Nat) : Int32 := cI (msP σ i a b d) (nI 0) (cI (msP σ i a d b) (nI 1) (cI (msP σ i b d a) (nI 2) (nI 3)))
set_option maxRecDepth 100000 in
set_option maxHeartbeats 4000000 in
theorem m_X11_shownOf (l : Launch) (w : Wd) (σ : St) (i : Nat) (hi : i < 8) (hm : mtOk σ i) (h0 : 0 < mN σ i) (a b d : Nat) (ha : a < 12) (hb : b < 12) (hd : d < 12) : MI l yX11_shownOf wsX11_shownOf (rmL 4) w [.ref (w.1 (0)), .int (nI (i)), .int (nI (a)), .int (nI (b)), .int (nI (d))] (σ) (fun r σ9 => s12 σ σ9 ∧ r = msO σ i a b d) := by
  refine MI_of (cc := cX11_shownOf) (maxL := 5) (ret := .int) (by decide) rfl (Nat.le_of_ble_eq_true rfl) ?_
  intro p e s m args below meth c A C hr hlk
  have C : Cx p s m args c w A cX11_shownOf RX11 5 wsX11_shownOf := C
  refine g_aload_n (pc9 := 1) C rfl 0 dX11_shownOf_0 rfl rfl ?_
  refine g_iload_n (pc9 := 2) C rfl 1 dX11_shownOf_1 rfl rfl ?_
  refine g_iload_n (pc9 := 3) C rfl 2 dX11_shownOf_2 rfl rfl ?_
  refine g_iload_n (pc9 := 4) C rfl 3 dX11_shownOf_3 rfl rfl ?_
  refine g_iload (pc9 := 6) C rfl 4 dX11_shownOf_4 rfl ?_
  refine g_callVi (nn := 4) (rest := []) (pc9 := 9) C rfl (0) [.int (nI (i)), .int (nI (a)), .int (nI (b)), .int (nI (d))] rfl dX11_shownOf_6 (m_X11_shows l w (σ) i hi hm h0 a b d (by omega) (by omega) (by omega)) gX11_shownOf_X11_shows (by decide) (ce_0 w (σ)) rfl rfl rfl rfl rfl (by decide +kernel) ⟨by decide, by decide⟩ rfl (Nat.le_of_ble_eq_true rfl) ⟨by decide, by decide⟩ (fun r_1 σ_1 q_1 => ?_)
  obtain ⟨⟨g1, qs_1⟩, qr_1⟩ := q_1
  replace qr_1 : r_1 = pI (msP σ i a b d) := qr_1
  rw [qs_1, qr_1]
  refine g_if_eq (pc9 := 12) C rfl 16 dX11_shownOf_9 rfl (fun c_2 => ?_) (fun c_2 => ?_)
  · have h_1 := pI_no c_2
    refine g_aload_n (pc9 := 17) C rfl 0 dX11_shownOf_16 rfl rfl ?_
    refine g_iload_n (pc9 := 18) C rfl 1 dX11_shownOf_17 rfl rfl ?_
    refine g_iload_n (pc9 := 19) C rfl 2 dX11_shownOf_18 rfl rfl ?_
    refine g_iload (pc9 := 21) C rfl 4 dX11_shownOf_19 rfl ?_
    refine g_iload_n (pc9 := 22) C rfl 3 dX11_shownOf_21 rfl rfl ?_
    refine g_callVi (nn := 4) (rest := []) (pc9 := 25) C rfl (0) [.int (nI (i)), .int (nI (a)), .int (nI (d)), .int (nI (b))] rfl dX11_shownOf_22 (m_X11_shows l w (sI σ (12) (g1)) i hi hm h0 a d b (by omega) (by omega) (by omega)) gX11_shownOf_X11_shows (by decide) (ce_0 w (sI σ (12) (g1))) rfl rfl rfl rfl rfl (by decide +kernel) ⟨by decide, by decide⟩ rfl (Nat.le_of_ble_eq_true rfl) ⟨by decide, by decide⟩ (fun r_3 σ_3 q_3 => ?_)
    obtain ⟨⟨g2, qs_3⟩, qr_3⟩ := q_3
    rw [sI_sI] at qs_3
    replace qr_3 : r_3 = pI (msP σ i a d b) := qr_3
    rw [qs_3, qr_3]
    refine g_if_eq (pc9 := 28) C rfl 32 dX11_shownOf_25 rfl (fun c_4 => ?_) (fun c_4 => ?_)
    · have h_2 := pI_no c_4
      refine g_aload_n (pc9 := 33) C rfl 0 dX11_shownOf_32 rfl rfl ?_
      refine g_iload_n (pc9 := 34) C rfl 1 dX11_shownOf_33 rfl rfl ?_
      refine g_iload_n (pc9 := 35) C rfl 3 dX11_shownOf_34 rfl rfl ?_
      refine g_iload (pc9 := 37) C rfl 4 dX11_shownOf_35 rfl ?_
      refine g_iload_n (pc9 := 38) C rfl 2 dX11_shownOf_37 rfl rfl ?_
      refine g_callVi (nn := 4) (rest := []) (pc9 := 41) C rfl (0) [.int (nI (i)), .int (nI (b)), .int (nI (d)), .int (nI (a))] rfl dX11_shownOf_38 (m_X11_shows l w (sI σ (12) (g2)) i hi hm h0 b d a (by omega) (by omega) (by omega)) gX11_shownOf_X11_shows (by decide) (ce_0 w (sI σ (12) (g2))) rfl rfl rfl rfl rfl (by decide +kernel) ⟨by decide, by decide⟩ rfl (Nat.le_of_ble_eq_true rfl) ⟨by decide, by decide⟩ (fun r_5 σ_5 q_5 => ?_)
      obtain ⟨⟨g3, qs_5⟩, qr_5⟩ := q_5
      rw [sI_sI] at qs_5
      replace qr_5 : r_5 = pI (msP σ i b d a) := qr_5
      rw [qs_5, qr_5]
      refine g_if_eq (pc9 := 44) C rfl 48 dX11_shownOf_41 rfl (fun c_6 => ?_) (fun c_6 => ?_)
      · have h_3 := pI_no c_6
        refine g_iconst (pc9 := 49) C rfl (nI (3)) dX11_shownOf_48 rfl ?_
        exact g_ireturn C hr hlk dX11_shownOf_49 ⟨by first | exact ⟨g3, rfl⟩ | exact ⟨g2, rfl⟩ | exact ⟨g1, rfl⟩, by unfold msO; first | rw [cI_t h_1] | rw [cI_f h_1, cI_t h_2] | rw [cI_f h_1, cI_f h_2, cI_t h_3] | rw [cI_f h_1, cI_f h_2, cI_f h_3]⟩
      · have h_3 := pI_ye c_6
        refine g_iconst (pc9 := 45) C rfl (nI (2)) dX11_shownOf_44 rfl ?_
        refine g_goto C 49 dX11_shownOf_45 rfl ?_
        exact g_ireturn C hr hlk dX11_shownOf_49 ⟨by first | exact ⟨g3, rfl⟩ | exact ⟨g2, rfl⟩ | exact ⟨g1, rfl⟩, by unfold msO; first | rw [cI_t h_1] | rw [cI_f h_1, cI_t h_2] | rw [cI_f h_1, cI_f h_2, cI_t h_3] | rw [cI_f h_1, cI_f h_2, cI_f h_3]⟩
    · have h_2 := pI_ye c_4
      refine g_iconst (pc9 := 29) C rfl (nI (1)) dX11_shownOf_28 rfl ?_
      refine g_goto C 49 dX11_shownOf_29 rfl ?_
      exact g_ireturn C hr hlk dX11_shownOf_49 ⟨by first | exact ⟨g3, rfl⟩ | exact ⟨g2, rfl⟩ | exact ⟨g1, rfl⟩, by unfold msO; first | rw [cI_t h_1] | rw [cI_f h_1, cI_t h_2] | rw [cI_f h_1, cI_f h_2, cI_t h_3] | rw [cI_f h_1, cI_f h_2, cI_f h_3]⟩
  · have h_1 := pI_ye c_2
    refine g_iconst (pc9 := 13) C rfl (nI (0)) dX11_shownOf_12 rfl ?_
    refine g_goto C 49 dX11_shownOf_13 rfl ?_
    exact g_ireturn C hr hlk dX11_shownOf_49 ⟨by first | exact ⟨g3, rfl⟩ | exact ⟨g2, rfl⟩ | exact ⟨g1, rfl⟩, by unfold msO; first | rw [cI_t h_1] | rw [cI_f h_1, cI_t h_2] | rw [cI_f h_1, cI_f h_2, cI_t h_3] | rw [cI_f h_1, cI_f h_2, cI_f h_3]⟩
set_option maxRecDepth 100000 in
set_option maxHeartbeats 4000000 in
theorem m_X11_deep (l : Launch) (w : Wd) (σ : St) (i : Nat) (hi : i < 8) (hm : mtOk σ i) : MI l yX11_deep wsX11_deep (rmL 1) w [.ref (w.1 (0)), .int (nI (i))] (σ) (fun r σ9 => σ9 = σ ∧ r = nI (maxF (dep (mp σ i)) (mN σ i))) := by
  refine MI_of (cc := cX11_deep) (maxL := 6) (ret := .int) (by decide) rfl (Nat.le_of_ble_eq_true rfl) ?_
  intro p e s m args below meth c A C hr hlk
  have C : Cx p s m args c w A cX11_deep RX11 6 wsX11_deep := C
  have hin_11 : ∀ u ∈ wsX110, u ∈ wsX11_deep := by decide +kernel
  have hl_17 : Cond.fieldLink RX11 17 "LineageBenchModel" "many" "[I" ∈ wsX11_deep := by decide +kernel
  have hl_21 : Cond.fieldLink RX11 21 "LineageBenchModel" "parent" "[I" ∈ wsX11_deep := by decide +kernel
  have h47 := hm.2.1
  refine g_iconst (pc9 := 1) C rfl (nI (0)) dX11_deep_0 rfl ?_
  refine g_istore_n (pc9 := 2) C rfl [(2, .int (nI (0))), (0, .ref (w.1 (0))), (1, .int (nI (i)))] dX11_deep_1 rfl (by decide) rfl ?_
  refine g_iconst (pc9 := 3) C rfl (nI (0)) dX11_deep_2 rfl ?_
  refine g_istore_n (pc9 := 4) C rfl [(3, .int (nI (0))), (2, .int (nI (0))), (0, .ref (w.1 (0))), (1, .int (nI (i)))] dX11_deep_3 rfl (by decide) rfl ?_
  refine g_sub [0, 1, 2, 3] [(3, .int (nI (0))), (2, .int (nI (0))), (0, .ref (w.1 (0))), (1, .int (nI (i)))] rfl ?_
  refine g_lp1 (α := Nat) (fun v => v ≤ mN σ i ∧ maxF (dep (mp σ i)) v ≤ mN σ i) (fun v => mN σ i - v) (fun v => G p l e _ s m args below meth c _ w A _ (σ) 0 0 4 [(3, .int (nI (v))), (2, .int (nI (maxF (dep (mp σ i)) v))), (0, .ref (w.1 (0))), (1, .int (nI (i)))] []) (fun v hI ih => ?_) (0) ⟨Nat.zero_le _, Nat.zero_le _⟩
  obtain ⟨hv, hmx⟩ := hI
  refine g_iload_n (pc9 := 5) C rfl 0 dX11_deep_4 rfl rfl ?_
  refine g_aload_n (pc9 := 6) C rfl 2 dX11_deep_5 rfl rfl ?_
  refine g_get (v := .ref (w.1 (2))) (pc9 := 9) C rfl (0) 5 dX11_deep_6 (by decide) (ce_0 w (σ)) hin_11 hl_17 rfl (by decide) rfl rfl ?_
  refine g_iload_n (pc9 := 10) C rfl 3 dX11_deep_9 rfl rfl ?_
  refine g_iald (x := nI (mN σ (i))) (pc9 := 11) C rfl (2) (i) dX11_deep_10 (by decide) (ce_2 w (σ)) rfl (by omega) (by decide) hm.1 ?_
  refine g_icmp_ge (pc9 := 14) C rfl 64 dX11_deep_11 rfl (fun c_1 => ?_) (fun c_1 => ?_)
  · replace c_1 := (nI_leI (by omega) (by omega)).mp c_1
    refine g_iload_n (pc9 := 65) C rfl 1 dX11_deep_64 rfl rfl ?_
    exact g_ireturn C hr hlk dX11_deep_65 ⟨rfl, by rw [show v = mN σ i by omega]⟩
  · replace c_1 := (not_congr (nI_leI (by omega) (by omega))).mp c_1
    refine g_iconst (pc9 := 15) C rfl (nI (0)) dX11_deep_14 rfl ?_
    refine g_istore (pc9 := 17) C rfl [(4, .int (nI (0))), (3, .int (nI (v))), (2, .int (nI (maxF (dep (mp σ i)) v))), (0, .ref (w.1 (0))), (1, .int (nI (i)))] dX11_deep_15 (by decide) rfl ?_
    refine g_iload_n (pc9 := 18) C rfl 1 dX11_deep_17 rfl rfl ?_
    refine g_istore (pc9 := 20) C rfl [(5, .int (nI (v))), (4, .int (nI (0))), (3, .int (nI (v))), (2, .int (nI (maxF (dep (mp σ i)) v))), (0, .ref (w.1 (0))), (1, .int (nI (i)))] dX11_deep_18 (by decide) rfl ?_
    have hdi := dep_le (fun v h1 h2 => (hm.2.2.1 v h1 h2).2) v (by omega)
    have hms : maxF (dep (mp σ i)) (v + 1) = max (maxF (dep (mp σ i)) v) (dep (mp σ i) v) := rfl
    refine g_sub [0, 1, 2, 3, 4, 5] [(5, .int (nI (v))), (4, .int (nI (0))), (3, .int (nI (v))), (2, .int (nI (maxF (dep (mp σ i)) v))), (0, .ref (w.1 (0))), (1, .int (nI (i)))] rfl ?_
    refine g_lp2 (α := Int32) (β := Nat) (fun x t => (x = -1 ∧ t = dep (mp σ i) v) ∨ (∃ a, x = nI a ∧ a < mN σ i ∧ a ≤ v ∧ t + dep (mp σ i) a = dep (mp σ i) v)) (fun x t => mN σ i + 1 - t) (fun x t => G p l e _ s m args below meth c _ w A _ (σ) 0 0 20 [(5, .int (x)), (4, .int (nI (t))), (3, .int (nI (v))), (2, .int (nI (maxF (dep (mp σ i)) v))), (0, .ref (w.1 (0))), (1, .int (nI (i)))] []) (fun x t hI ih2 => ?_) (nI v) (0) (Or.inr ⟨v, rfl, by omega, Nat.le_refl _, Nat.zero_add _⟩)
    obtain hI := hI
    rcases hI with ⟨hx, ht⟩ | ⟨a, hx, han, hai, ht⟩
    · subst hx
      refine g_iload (pc9 := 22) C rfl 0 dX11_deep_20 rfl ?_
      refine g_if_lt (pc9 := 25) C rfl 45 dX11_deep_22 rfl (fun c_2 => ?_) (fun c_2 => ?_)
      · refine g_iload (pc9 := 47) C rfl 1 dX11_deep_45 rfl ?_
        refine g_iload_n (pc9 := 48) C rfl 3 dX11_deep_47 rfl rfl ?_
        refine g_icmp_le (pc9 := 51) C rfl 56 dX11_deep_48 rfl (fun c_3 => ?_) (fun c_3 => ?_)
        · replace c_3 := (nI_leI (by omega) (by omega)).mp c_3
          refine g_iload_n (pc9 := 57) C rfl 3 dX11_deep_56 rfl rfl ?_
          refine g_istore_n (pc9 := 58) C rfl [(2, .int (nI (maxF (dep (mp σ i)) v))), (5, .int (-1)), (4, .int (nI (t))), (3, .int (nI (v))), (0, .ref (w.1 (0))), (1, .int (nI (i)))] dX11_deep_57 rfl (by decide) rfl ?_
          refine g_iinc (pc9 := 61) C rfl [(3, .int (nI (v + 1))), (2, .int (nI (maxF (dep (mp σ i)) v))), (5, .int (-1)), (4, .int (nI (t))), (0, .ref (w.1 (0))), (1, .int (nI (i)))] 3 (nI (v + 1)) dX11_deep_58 rfl (nI_1 (v)) (by decide) rfl ?_
          refine g_goto C 4 dX11_deep_61 rfl ?_
          refine g_sub [0, 1, 4, 5] [(3, .int (nI (v + 1))), (2, .int (nI (maxF (dep (mp σ i)) v))), (0, .ref (w.1 (0))), (1, .int (nI (i)))] rfl ?_
          rw [show maxF (dep (mp σ i)) v = maxF (dep (mp σ i)) (v + 1) from by rw [hms]; omega]
          exact ih (v + 1) ⟨by omega, by rw [hms]; omega⟩ (by omega)
        · replace c_3 := (not_congr (nI_leI (by omega) (by omega))).mp c_3
          refine g_iload (pc9 := 53) C rfl 1 dX11_deep_51 rfl ?_
          refine g_goto C 57 dX11_deep_53 rfl ?_
          refine g_istore_n (pc9 := 58) C rfl [(2, .int (nI (t))), (5, .int (-1)), (4, .int (nI (t))), (3, .int (nI (v))), (0, .ref (w.1 (0))), (1, .int (nI (i)))] dX11_deep_57 rfl (by decide) rfl ?_
          refine g_iinc (pc9 := 61) C rfl [(3, .int (nI (v + 1))), (2, .int (nI (t))), (5, .int (-1)), (4, .int (nI (t))), (0, .ref (w.1 (0))), (1, .int (nI (i)))] 3 (nI (v + 1)) dX11_deep_58 rfl (nI_1 (v)) (by decide) rfl ?_
          refine g_goto C 4 dX11_deep_61 rfl ?_
          refine g_sub [0, 1, 4, 5] [(3, .int (nI (v + 1))), (2, .int (nI (t))), (0, .ref (w.1 (0))), (1, .int (nI (i)))] rfl ?_
          rw [show t = maxF (dep (mp σ i)) (v + 1) from by rw [hms]; omega]
          exact ih (v + 1) ⟨by omega, by rw [hms]; omega⟩ (by omega)
      · exact absurd (by decide) c_2
    · subst hx
      have hda := dep_pos (P := (mp σ i)) (v := a)
      refine g_iload (pc9 := 22) C rfl 0 dX11_deep_20 rfl ?_
      refine g_if_lt (pc9 := 25) C rfl 45 dX11_deep_22 rfl (fun c_4 => ?_) (fun c_4 => ?_)
      · replace c_4 := (z_lt (by omega)).mp c_4
        exact absurd c_4 (by simp)
      · replace c_4 := (not_congr (z_lt (by omega))).mp c_4
        refine g_iinc (pc9 := 28) C rfl [(4, .int (nI (t + 1))), (5, .int (nI (a))), (3, .int (nI (v))), (2, .int (nI (maxF (dep (mp σ i)) v))), (0, .ref (w.1 (0))), (1, .int (nI (i)))] 1 (nI (t + 1)) dX11_deep_25 rfl (nI_1 (t)) (by decide) rfl ?_
        refine g_aload_n (pc9 := 29) C rfl 4 dX11_deep_28 rfl rfl ?_
        refine g_get (v := .ref (w.1 (3))) (pc9 := 32) C rfl (0) 6 dX11_deep_29 (by decide) (ce_0 w (σ)) hin_11 hl_21 rfl (by decide) rfl rfl ?_
        refine g_bipush (pc9 := 34) C rfl (nI (47)) dX11_deep_32 rfl ?_
        refine g_iload_n (pc9 := 35) C rfl 5 dX11_deep_34 rfl rfl ?_
        refine g_imulN (pc9 := 36) C rfl dX11_deep_35 ?_
        refine g_iload (pc9 := 38) C rfl 1 dX11_deep_36 rfl ?_
        refine g_iaddN (pc9 := 39) C rfl dX11_deep_38 ?_
        refine g_iald (x := (iA σ (3)) ((47 * i) + a)) (pc9 := 40) C rfl (3) ((47 * i) + a) dX11_deep_39 (by decide) (ce_3 w (σ)) rfl (by omega) (by decide) rfl ?_
        refine g_istore (pc9 := 42) C rfl [(5, .int ((iA σ (3)) ((47 * i) + a))), (4, .int (nI (t + 1))), (3, .int (nI (v))), (2, .int (nI (maxF (dep (mp σ i)) v))), (0, .ref (w.1 (0))), (1, .int (nI (i)))] dX11_deep_40 (by decide) rfl ?_
        refine g_goto C 20 dX11_deep_42 rfl ?_
        refine g_sub [0, 1, 2, 3, 4, 5] [(5, .int ((iA σ (3)) ((47 * i) + a))), (4, .int (nI (t + 1))), (3, .int (nI (v))), (2, .int (nI (maxF (dep (mp σ i)) v))), (0, .ref (w.1 (0))), (1, .int (nI (i)))] rfl ?_
        by_cases ha0 : a = 0
        · refine ih2 _ (t + 1) (Or.inl ⟨?_, ?_⟩) (by omega)
          · subst ha0; exact hm.2.2.2.1 (by omega)
          · subst ha0; rw [← ht, dep_0]
        · have hpa := hm.2.2.1 a (by omega) han
          refine ih2 _ (t + 1) (Or.inr ⟨mp σ i a, hpa.1, by omega, by omega, ?_⟩) (by omega)
          rw [← ht, dep_s (fun v h1 h2 => (hm.2.2.1 v h1 h2).2) (by omega) han]; omega

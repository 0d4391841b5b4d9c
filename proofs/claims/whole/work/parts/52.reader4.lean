/-! Reader: growTree; read -/
abbrev gq0 (σ : St) (j : Nat) : GT := (0, -1, (0, tP σ j, tK σ j, tC σ j, tH σ j))
theorem rd_open {x : Int32} {r : RdS} (h : (rdR x r).1 = 0) (hx : x = nI 40 ∨ letP x) : r.2.2.1 = 0 := by
  obtain ⟨o, lf, ph, c⟩ := r
  have hk : ¬ x = nI 32 ∧ ¬ x = nI 59 ∧ ¬ x = nI 44 ∧ ¬ x = nI 41 := by
    rcases hx with rfl | hx
    · decide
    · obtain ⟨k, hk, rfl⟩ := letP_k hx
      refine ⟨fun y => ?_, fun y => ?_, fun y => ?_, fun y => ?_⟩ <;> (have := (nI_eq (by omega) (by decide)).mp y; omega)
  unfold rdR rdA at h
  dsimp only at h ⊢
  rw [if_neg hk.1] at h
  refine Classical.byContradiction (fun hp => ?_)
  rw [if_neg hp] at h
  unfold rdE rdB at h
  rw [if_neg hk.2.1, if_neg hk.2.2.1, if_neg hk.2.2.2] at h
  split at h
  · split at h <;> exact absurd (show nI 1 = 0 from h) (by decide)
  · exact absurd (show nI 1 = 0 from h) (by decide)
theorem rd_close {r : RdS} (h : (rdR (nI 41) r).1 = 0) : 0 < r.1 ∧ r.2.2.1 = 1 := by
  obtain ⟨o, lf, ph, c⟩ := r
  unfold rdR rdA at h
  dsimp only at h ⊢
  rw [if_neg (by decide)] at h
  by_cases hp : ph = 0
  · rw [if_pos hp] at h
    unfold rdN at h
    rw [if_neg (by decide), if_neg (by decide)] at h
    exact absurd (show nI 1 = 0 from h) (by decide)
  · rw [if_neg hp] at h
    by_cases h1 : ph = 1
    · rw [if_pos h1] at h
      by_cases ho : o = 0
      · rw [if_pos ho] at h
        unfold rdE at h
        rw [if_neg (by decide)] at h
        exact absurd (show nI 1 = 0 from h) (by decide)
      · exact ⟨by omega, h1⟩
    · rw [if_neg h1] at h
      exact absurd (show nI 1 = 0 from h) (by decide)
/-- above, where a node may be added or closed -/
theorem gw_ab {i : Nat} {r : RdS} {q : GT} (h : gwOk i r q) (hr : rdOk r) (h0 : 0 < r.1) : q.2.1 = nI q.2.1.toNatClampNeg ∧ q.2.1.toNatClampNeg < q.1 := by
  obtain ⟨a, cc, br, i1, i2, i3, i4, i5, i6, i7, i8, i9, i10, i11, i12, i13⟩ := h
  obtain ⟨r1, r2, r3⟩ := hr
  have := i3 (r.1 - 1) (by omega)
  have e : q.2.1.toNatClampNeg = a (r.1 - 1) := by rw [(i2 h0).1, nI_clamp (by omega)]
  rw [e]
  exact ⟨(i2 h0).1, this⟩
theorem gw_par {i : Nat} {r : RdS} {q : GT} (h : gwOk i r q) (hb : q.1 ≤ 47) (v : Nat) (h1 : 0 < v) (h2 : v < q.1) : q.2.2.2.1 v = nI (q.2.2.2.1 v).toNatClampNeg ∧ (q.2.2.2.1 v).toNatClampNeg < v := by
  obtain ⟨a, cc, br, i1, i2, i3, i4, i5, i6, i7, i8, i9, i10, i11, i12, i13⟩ := h
  obtain ⟨u, hu, e⟩ := i13 v h1 h2
  rw [e, nI_clamp (by omega)]
  exact ⟨rfl, hu⟩
theorem gw_40 {x : Int32} {q : GT} (h : x = nI 40) : gwS x q = (q.1 + 1, nI q.1, tdA q.1 q.2.1.toNatClampNeg (-1) q.2.2) := if_pos h
theorem gw_41 {x : Int32} {q : GT} (h : x = nI 41) : gwS x q = (q.1, q.2.2.2.1 q.2.1.toNatClampNeg, q.2.2) := by unfold gwS; rw [if_neg (by rw [h]; decide), if_pos h]
theorem gw_let {x : Int32} {q : GT} (h1 : ¬ x = nI 40) (h2 : ¬ x = nI 41) (h : letP x) : gwS x q = (q.1 + 1, q.2.1, tdA q.1 q.2.1.toNatClampNeg (x - nI 97) q.2.2) := by unfold gwS; rw [if_neg h1, if_neg h2, if_pos h]
abbrev grP (D : TD) : Nat → Nat := fun v => (D.2.1 v).toNatClampNeg
def rgS (σ : St) (j : Nat) (q : GT) : St := sI (tdS σ j q.1 q.2.2) (67 + 5 * j) (gath (grP q.2.2) (q.1 - 1) q.2.2.2.2.2.1)
theorem tdS_R {σ : St} {j u n : Nat} {k : Int32} {D : TD} (h : n = 0) : trS σ j 1 (D.1 + kN k) (upd D.2.1 0 (-1)) (upd D.2.2.1 0 k) (upd D.2.2.2.1 0 (kB k)) (upd D.2.2.2.2 0 (nI 0)) = tdS σ j (n + 1) (tdA n u k D) := by subst h; rfl
theorem g_sk {p : Program} {l : Launch} {e : Env} {R : Room} {s : State} {m : MethodId} {args : Array Value} {below : List Frame} {meth : Method} {c : Code} {Q : State → Prop} {w : Wd} {A : Nat → Prop} {nL : Nat} {σ : St} {cells slots pc : Nat} {lv : List (Nat × Value)} {v v9 : Value} {rest : List Value} (h : v = v9) (k : G p l e R s m args below meth c Q w A nL σ cells slots pc lv (v9 :: rest)) : G p l e R s m args below meth c Q w A nL σ cells slots pc lv (v :: rest) := h ▸ k
theorem g_sk2 {p : Program} {l : Launch} {e : Env} {R : Room} {s : State} {m : MethodId} {args : Array Value} {below : List Frame} {meth : Method} {c : Code} {Q : State → Prop} {w : Wd} {A : Nat → Prop} {nL : Nat} {σ : St} {cells slots pc : Nat} {lv : List (Nat × Value)} {v v9 : Value} {x : Value} {rest : List Value} (h : v = v9) (k : G p l e R s m args below meth c Q w A nL σ cells slots pc lv (x :: v9 :: rest)) : G p l e R s m args below meth c Q w A nL σ cells slots pc lv (x :: v :: rest) := h ▸ k
set_option maxRecDepth 100000 in
set_option maxHeartbeats 4000000 in
theorem m_X3_growTree (l : Launch) (w : Wd) (σ : St) (L : Nat) (hL : L ≤ 400) (j : Nat) (hj : j < 9) (c9 : Nat → Int32) (hF : noF (iA σ 33) (0, 0, 0, c9) L) : MV l yX3_growTree wsX3_growTree (rmL 2) w [.ref (w.1 (34)), .ref (w.1 (32)), .int (nI (L)), .ref (w.1 (64 + 5 * j))] (σ) (fun σ9 => σ9 = rgS σ j (gwU (iA σ 33) (gq0 σ j) L)) := by
  refine MV_of (cc := cX3_growTree) (maxL := 7) (by decide) rfl (Nat.le_of_ble_eq_true rfl) ?_
  intro p e s m args below meth c A C hr hlk
  have C : Cx p s m args c w A cX3_growTree RX3 7 wsX3_growTree := C
  have hin_6 : ∀ u ∈ wsX60, u ∈ wsX3_growTree := by decide +kernel
  have hl_31 : Cond.fieldLink RX3 31 "LineageBench$Tape" "bytes" "[I" ∈ wsX3_growTree := by decide +kernel
  have hq0 : ((gq0 σ j) : GT).1 = 0 ∧ ((gq0 σ j) : GT).2.1 = -1 ∧ ((gq0 σ j) : GT).2.2.1 = 0 := ⟨rfl, rfl, rfl⟩
  refine g_aload_n (pc9 := 1) C rfl 3 dX3_growTree_0 rfl rfl ?_
  refine g_callVv (nn := 0) (rest := []) (pc9 := 4) C rfl (64 + 5 * j) [] rfl dX3_growTree_1 (m_X7_makeNone l w σ j hj) gX3_growTree_X7_makeNone (by omega) (ce_tree w (σ) (j)) rfl rfl rfl rfl rfl (by decide +kernel) ⟨by decide, by decide⟩ rfl (Nat.le_of_ble_eq_true rfl) ⟨by decide, by decide⟩ (fun σ_1 q_1 => ?_)
  replace q_1 := q_1.trans tdS_self.symm
  replace q_1 : σ_1 = sN (sN (sI (sI (sI (sI σ (65 + 5 * j) (((gwU (iA σ 33) (gq0 σ j) (0)).2.2).2.1)) (66 + 5 * j) (((gwU (iA σ 33) (gq0 σ j) (0)).2.2).2.2.1)) (67 + 5 * j) (((gwU (iA σ 33) (gq0 σ j) (0)).2.2).2.2.2.1)) (68 + 5 * j) (((gwU (iA σ 33) (gq0 σ j) (0)).2.2).2.2.2.2)) (64 + 5 * j) 4 (nI ((gwU (iA σ 33) (gq0 σ j) (0)).1))) (64 + 5 * j) 5 (nI (((gwU (iA σ 33) (gq0 σ j) (0)).2.2).1)) := q_1
  rw [q_1]
  clear q_1
  refine g_iconst (pc9 := 5) C rfl ((-1)) dX3_growTree_4 rfl ?_
  refine g_istore (pc9 := 7) C rfl [(4, .int ((-1))), (0, .ref (w.1 (34))), (1, .ref (w.1 (32))), (2, .int (nI (L))), (3, .ref (w.1 (64 + 5 * j)))] dX3_growTree_5 (by decide) rfl ?_
  refine g_iconst (pc9 := 8) C rfl (nI (0)) dX3_growTree_7 rfl ?_
  refine g_istore (pc9 := 10) C rfl [(5, .int (nI (0))), (4, .int ((-1))), (0, .ref (w.1 (34))), (1, .ref (w.1 (32))), (2, .int (nI (L))), (3, .ref (w.1 (64 + 5 * j)))] dX3_growTree_8 (by decide) rfl ?_
  refine g_sub [0, 1, 2, 3, 4, 5] [(5, .int (nI (0))), (4, .int ((-1))), (0, .ref (w.1 (34))), (1, .ref (w.1 (32))), (2, .int (nI (L))), (3, .ref (w.1 (64 + 5 * j)))] rfl ?_
  refine g_lp1 (α := Nat) (fun i => i ≤ L) (fun i => L - i) (fun i => G p l e _ s m args below meth c _ w A _ (sN (sN (sI (sI (sI (sI σ (65 + 5 * j) (((gwU (iA σ 33) (gq0 σ j) (i)).2.2).2.1)) (66 + 5 * j) (((gwU (iA σ 33) (gq0 σ j) (i)).2.2).2.2.1)) (67 + 5 * j) (((gwU (iA σ 33) (gq0 σ j) (i)).2.2).2.2.2.1)) (68 + 5 * j) (((gwU (iA σ 33) (gq0 σ j) (i)).2.2).2.2.2.2)) (64 + 5 * j) 4 (nI ((gwU (iA σ 33) (gq0 σ j) (i)).1))) (64 + 5 * j) 5 (nI (((gwU (iA σ 33) (gq0 σ j) (i)).2.2).1))) 0 0 10 [(5, .int (nI (i))), (4, .int ((gwU (iA σ 33) (gq0 σ j) (i)).2.1)), (0, .ref (w.1 (34))), (1, .ref (w.1 (32))), (2, .int (nI (L))), (3, .ref (w.1 (64 + 5 * j)))] []) (fun i hI ih => ?_) (0) (Nat.zero_le _)
  obtain hi := hI
  have hgw := gw_all hL hq0 hF i hI
  have hrk := rdU_ok (f := (iA σ 33)) (r := (0, 0, 0, c9)) ⟨Nat.zero_le _, Nat.zero_le _, Nat.zero_le _⟩ i
  have h47 := (gw_47 hL hq0 hF).2
  have hle := gwU_le (f := (iA σ 33)) (q := (gq0 σ j)) hI
  refine g_iload (pc9 := 12) C rfl 0 dX3_growTree_10 rfl ?_
  refine g_iload_n (pc9 := 13) C rfl 4 dX3_growTree_12 rfl rfl ?_
  refine g_icmp_ge (pc9 := 16) C rfl 88 dX3_growTree_13 rfl (fun c_2 => ?_) (fun c_2 => ?_)
  · replace c_2 := (nI_leI (by omega) (by omega)).mp c_2
    have hiL : i = L := by omega
    refine g_aload_n (pc9 := 89) C rfl 5 dX3_growTree_88 rfl rfl ?_
    refine g_callVv (nn := 0) (rest := []) (pc9 := 92) C rfl (64 + 5 * j) [] rfl dX3_growTree_89 (m_X7_gatherClusters l w (sN (sN (sI (sI (sI (sI σ (65 + 5 * j) (((gwU (iA σ 33) (gq0 σ j) (i)).2.2).2.1)) (66 + 5 * j) (((gwU (iA σ 33) (gq0 σ j) (i)).2.2).2.2.1)) (67 + 5 * j) (((gwU (iA σ 33) (gq0 σ j) (i)).2.2).2.2.2.1)) (68 + 5 * j) (((gwU (iA σ 33) (gq0 σ j) (i)).2.2).2.2.2.2)) (64 + 5 * j) 4 (nI ((gwU (iA σ 33) (gq0 σ j) (i)).1))) (64 + 5 * j) 5 (nI (((gwU (iA σ 33) (gq0 σ j) (i)).2.2).1))) j hj (gwU (iA σ 33) (gq0 σ j) (i)).1 (((nF_k (k := 5) (k9 := 4) (by decide)).trans (nF_s))) (by omega) (grP (gwU (iA σ 33) (gq0 σ j) (i)).2.2) (fun v h1 h2 => by rw [show tP (sN (sN (sI (sI (sI (sI σ (65 + 5 * j) (((gwU (iA σ 33) (gq0 σ j) (i)).2.2).2.1)) (66 + 5 * j) (((gwU (iA σ 33) (gq0 σ j) (i)).2.2).2.2.1)) (67 + 5 * j) (((gwU (iA σ 33) (gq0 σ j) (i)).2.2).2.2.2.1)) (68 + 5 * j) (((gwU (iA σ 33) (gq0 σ j) (i)).2.2).2.2.2.2)) (64 + 5 * j) 4 (nI ((gwU (iA σ 33) (gq0 σ j) (i)).1))) (64 + 5 * j) 5 (nI (((gwU (iA σ 33) (gq0 σ j) (i)).2.2).1))) j = (gwU (iA σ 33) (gq0 σ j) (i)).2.2.2.1 from ((((((iA_N).trans (iA_N)).trans (iA_n (by omega))).trans (iA_n (by omega))).trans (iA_n (by omega))).trans (iA_s))]; exact gw_par hgw (by omega) v h1 h2) (by rw [hiL]; exact (gw_47 hL hq0 hF).1)) gX3_growTree_X7_gatherClusters (by omega) (ce_tree w (sN (sN (sI (sI (sI (sI σ (65 + 5 * j) (((gwU (iA σ 33) (gq0 σ j) (i)).2.2).2.1)) (66 + 5 * j) (((gwU (iA σ 33) (gq0 σ j) (i)).2.2).2.2.1)) (67 + 5 * j) (((gwU (iA σ 33) (gq0 σ j) (i)).2.2).2.2.2.1)) (68 + 5 * j) (((gwU (iA σ 33) (gq0 σ j) (i)).2.2).2.2.2.2)) (64 + 5 * j) 4 (nI ((gwU (iA σ 33) (gq0 σ j) (i)).1))) (64 + 5 * j) 5 (nI (((gwU (iA σ 33) (gq0 σ j) (i)).2.2).1))) (j)) rfl rfl rfl rfl rfl (by decide +kernel) ⟨by decide, by decide⟩ rfl (Nat.le_of_ble_eq_true rfl) ⟨by decide, by decide⟩ (fun σ_3 q_3 => ?_)
    exact g_return C hr hlk dX3_growTree_92 (by subst hiL; exact q_3.trans (congrArg (fun z => sI _ (67 + 5 * j) (gath _ _ z)) ((((iA_N).trans (iA_N)).trans (iA_n (by omega))).trans (iA_s))))
  · replace c_2 := (not_congr (nI_leI (by omega) (by omega))).mp c_2
    refine g_aload_n (pc9 := 17) C rfl 3 dX3_growTree_16 rfl rfl ?_
    refine g_get (v := .ref (w.1 (33))) (pc9 := 20) C rfl (32) 0 dX3_growTree_17 (by decide) (ce_32 w (sN (sN (sI (sI (sI (sI σ (65 + 5 * j) (((gwU (iA σ 33) (gq0 σ j) (i)).2.2).2.1)) (66 + 5 * j) (((gwU (iA σ 33) (gq0 σ j) (i)).2.2).2.2.1)) (67 + 5 * j) (((gwU (iA σ 33) (gq0 σ j) (i)).2.2).2.2.2.1)) (68 + 5 * j) (((gwU (iA σ 33) (gq0 σ j) (i)).2.2).2.2.2.2)) (64 + 5 * j) 4 (nI ((gwU (iA σ 33) (gq0 σ j) (i)).1))) (64 + 5 * j) 5 (nI (((gwU (iA σ 33) (gq0 σ j) (i)).2.2).1)))) hin_6 hl_31 rfl (by decide) rfl rfl ?_
    refine g_iload (pc9 := 22) C rfl 0 dX3_growTree_20 rfl ?_
    refine g_iald (x := (iA σ (33)) (i)) (pc9 := 23) C rfl (33) (i) dX3_growTree_22 (by decide) (ce_33 w (sN (sN (sI (sI (sI (sI σ (65 + 5 * j) (((gwU (iA σ 33) (gq0 σ j) (i)).2.2).2.1)) (66 + 5 * j) (((gwU (iA σ 33) (gq0 σ j) (i)).2.2).2.2.1)) (67 + 5 * j) (((gwU (iA σ 33) (gq0 σ j) (i)).2.2).2.2.2.1)) (68 + 5 * j) (((gwU (iA σ 33) (gq0 σ j) (i)).2.2).2.2.2.2)) (64 + 5 * j) 4 (nI ((gwU (iA σ 33) (gq0 σ j) (i)).1))) (64 + 5 * j) 5 (nI (((gwU (iA σ 33) (gq0 σ j) (i)).2.2).1)))) rfl (by omega) (by decide) (congrFun ((((((iA_N).trans (iA_N)).trans (iA_n (by omega))).trans (iA_n (by omega))).trans (iA_n (by omega))).trans (iA_n (by omega))) _) ?_
    refine g_istore (pc9 := 25) C rfl [(6, .int ((iA σ (33)) (i))), (5, .int (nI (i))), (4, .int ((gwU (iA σ 33) (gq0 σ j) (i)).2.1)), (0, .ref (w.1 (34))), (1, .ref (w.1 (32))), (2, .int (nI (L))), (3, .ref (w.1 (64 + 5 * j)))] dX3_growTree_23 (by decide) rfl ?_
    refine g_iload (pc9 := 27) C rfl 0 dX3_growTree_25 rfl ?_
    refine g_bipush (pc9 := 29) C rfl (nI (40)) dX3_growTree_27 rfl ?_
    refine g_icmp_ne (pc9 := 32) C rfl 44 dX3_growTree_29 rfl (fun c_4 => ?_) (fun c_4 => ?_)
    · have hn40 : ¬ iA σ 33 i = nI 40 := c_4
      refine g_iload (pc9 := 46) C rfl 0 dX3_growTree_44 rfl ?_
      refine g_bipush (pc9 := 48) C rfl (nI (41)) dX3_growTree_46 rfl ?_
      refine g_icmp_ne (pc9 := 51) C rfl 62 dX3_growTree_48 rfl (fun c_5 => ?_) (fun c_5 => ?_)
      · have hn41 : ¬ iA σ 33 i = nI 41 := c_5
        refine g_iload (pc9 := 64) C rfl 0 dX3_growTree_62 rfl ?_
        refine g_callSi (nn := 1) (rest := []) (pc9 := 67) C rfl [.int ((iA σ (33)) (i))] rfl dX3_growTree_64 (m_X3_isKindLetter l w _ ((iA σ (33)) (i))) gX3_growTree_X3_isKindLetter rfl rfl rfl (by decide +kernel) ⟨by decide, by decide⟩ rfl (Nat.le_of_ble_eq_true rfl) ⟨by decide, by decide⟩ (fun r_6 σ_6 q_6 => ?_)
        obtain ⟨qs_6, qr_6⟩ := q_6
        rw [qs_6, qr_6]
        clear qs_6 qr_6
        refine g_if_eq (pc9 := 70) C rfl 82 dX3_growTree_67 rfl (fun c_7 => ?_) (fun c_7 => ?_)
        · have hnl := pI_no c_7
          refine g_iinc (pc9 := 85) C rfl [(5, .int (nI (i + 1))), (6, .int ((iA σ (33)) (i))), (4, .int ((gwU (iA σ 33) (gq0 σ j) (i)).2.1)), (0, .ref (w.1 (34))), (1, .ref (w.1 (32))), (2, .int (nI (L))), (3, .ref (w.1 (64 + 5 * j)))] 1 (nI (i + 1)) dX3_growTree_82 rfl (nI_1 (i)) (by decide) rfl ?_
          refine g_goto C 10 dX3_growTree_85 rfl ?_
          refine g_sub [0, 2, 3, 4, 5, 6] [(5, .int (nI (i + 1))), (4, .int ((gwU (iA σ 33) (gq0 σ j) (i)).2.1)), (0, .ref (w.1 (34))), (1, .ref (w.1 (32))), (2, .int (nI (L))), (3, .ref (w.1 (64 + 5 * j)))] rfl ?_
          have hih := ih (i + 1) (by omega) (by omega)
          rw [show gwU (iA σ 33) (gq0 σ j) (i + 1) = (gwU (iA σ 33) (gq0 σ j) (i)) from gw_skip hn40 hn41 hnl] at hih
          exact hih
        · have hle0 : letP (iA σ 33 i) := pI_ye c_7
          have hop : iA σ 33 i = nI 40 ∨ letP (iA σ 33 i) := Or.inr hle0
          refine g_aload_n (pc9 := 71) C rfl 6 dX3_growTree_70 rfl rfl ?_
          refine g_iload (pc9 := 73) C rfl 2 dX3_growTree_71 rfl ?_
          refine g_iload (pc9 := 75) C rfl 0 dX3_growTree_73 rfl ?_
          refine g_bipush (pc9 := 77) C rfl (nI (97)) dX3_growTree_75 rfl ?_
          refine g_isub (pc9 := 78) C rfl dX3_growTree_77 ?_
          have hph := rd_open (hF.1 i (by omega)) hop
          have hA := gw_add (k := iA σ 33 i - nI 97) (u := (gwU (iA σ 33) (gq0 σ j) (i)).2.1.toNatClampNeg) hgw hrk hph rfl
          have hle9 : (gwU (iA σ 33) (gq0 σ j) (i)).1 + 1 ≤ 47 := by
            have h9 := gwU_le (f := (iA σ 33)) (q := (gq0 σ j)) (i := i + 1) (L := L) (by omega)
            rw [show gwU (iA σ 33) (gq0 σ j) (i + 1) = ((gwU (iA σ 33) (gq0 σ j) (i)).1 + 1, (gwU (iA σ 33) (gq0 σ j) (i)).2.1, tdA (gwU (iA σ 33) (gq0 σ j) (i)).1 ((gwU (iA σ 33) (gq0 σ j) (i)).2.1.toNatClampNeg) (iA σ 33 i - nI 97) (gwU (iA σ 33) (gq0 σ j) (i)).2.2) from gw_let hn40 hn41 hle0] at h9
            have : (gwU (iA σ 33) (gq0 σ j) (i)).1 + 1 ≤ (gwU (iA σ 33) (gq0 σ j) (L)).1 := h9
            omega
          rcases Nat.eq_zero_or_pos (gwU (iA σ 33) (gq0 σ j) (i)).1 with hn0 | hn0
          · refine g_st (σ9 := sN (sN (sI (sI (sI (sI σ (65 + 5 * j) (((gwU (iA σ 33) (gq0 σ j) (i)).2.2).2.1)) (66 + 5 * j) (((gwU (iA σ 33) (gq0 σ j) (i)).2.2).2.2.1)) (67 + 5 * j) (((gwU (iA σ 33) (gq0 σ j) (i)).2.2).2.2.2.1)) (68 + 5 * j) (((gwU (iA σ 33) (gq0 σ j) (i)).2.2).2.2.2.2)) (64 + 5 * j) 4 (nI (0))) (64 + 5 * j) 5 (nI (((gwU (iA σ 33) (gq0 σ j) (i)).2.2).1))) (by rw [hn0]) ?_
            refine g_callVi (nn := 2) (rest := []) (pc9 := 81) C rfl (64 + 5 * j) [.int ((gwU (iA σ 33) (gq0 σ j) (i)).2.1), .int (((iA σ (33)) (i)) - (nI (97)))] rfl dX3_growTree_78 (m_X7_addRoot l w σ j hj _ _ _ _ _ _ _) gX3_growTree_X7_addNode (by omega) (ce_tree w (sN (sN (sI (sI (sI (sI σ (65 + 5 * j) (((gwU (iA σ 33) (gq0 σ j) (i)).2.2).2.1)) (66 + 5 * j) (((gwU (iA σ 33) (gq0 σ j) (i)).2.2).2.2.1)) (67 + 5 * j) (((gwU (iA σ 33) (gq0 σ j) (i)).2.2).2.2.2.1)) (68 + 5 * j) (((gwU (iA σ 33) (gq0 σ j) (i)).2.2).2.2.2.2)) (64 + 5 * j) 4 (nI (0))) (64 + 5 * j) 5 (nI (((gwU (iA σ 33) (gq0 σ j) (i)).2.2).1))) (j)) rfl rfl rfl rfl rfl (by decide +kernel) ⟨by decide, by decide⟩ rfl (Nat.le_of_ble_eq_true rfl) ⟨by decide, by decide⟩ (fun r_8 σ_8 q_8 => ?_)
            obtain ⟨qs_8, qr_8⟩ := q_8
            replace qs_8 : σ_8 = sN (sN (sI (sI (sI (sI σ (65 + 5 * j) ((tdA (gwU (iA σ 33) (gq0 σ j) (i)).1 ((gwU (iA σ 33) (gq0 σ j) (i)).2.1.toNatClampNeg) (iA σ 33 i - nI 97) (gwU (iA σ 33) (gq0 σ j) (i)).2.2).2.1)) (66 + 5 * j) ((tdA (gwU (iA σ 33) (gq0 σ j) (i)).1 ((gwU (iA σ 33) (gq0 σ j) (i)).2.1.toNatClampNeg) (iA σ 33 i - nI 97) (gwU (iA σ 33) (gq0 σ j) (i)).2.2).2.2.1)) (67 + 5 * j) ((tdA (gwU (iA σ 33) (gq0 σ j) (i)).1 ((gwU (iA σ 33) (gq0 σ j) (i)).2.1.toNatClampNeg) (iA σ 33 i - nI 97) (gwU (iA σ 33) (gq0 σ j) (i)).2.2).2.2.2.1)) (68 + 5 * j) ((tdA (gwU (iA σ 33) (gq0 σ j) (i)).1 ((gwU (iA σ 33) (gq0 σ j) (i)).2.1.toNatClampNeg) (iA σ 33 i - nI 97) (gwU (iA σ 33) (gq0 σ j) (i)).2.2).2.2.2.2)) (64 + 5 * j) 4 (nI ((gwU (iA σ 33) (gq0 σ j) (i)).1 + 1))) (64 + 5 * j) 5 (nI ((tdA (gwU (iA σ 33) (gq0 σ j) (i)).1 ((gwU (iA σ 33) (gq0 σ j) (i)).2.1.toNatClampNeg) (iA σ 33 i - nI 97) (gwU (iA σ 33) (gq0 σ j) (i)).2.2).1)) := qs_8.trans (tdS_R hn0)
            rw [qs_8, qr_8]
            refine g_pop (pc9 := 82) C rfl dX3_growTree_81 rfl ?_
            refine g_iinc (pc9 := 85) C rfl [(5, .int (nI (i + 1))), (6, .int ((iA σ (33)) (i))), (4, .int ((gwU (iA σ 33) (gq0 σ j) (i)).2.1)), (0, .ref (w.1 (34))), (1, .ref (w.1 (32))), (2, .int (nI (L))), (3, .ref (w.1 (64 + 5 * j)))] 1 (nI (i + 1)) dX3_growTree_82 rfl (nI_1 (i)) (by decide) rfl ?_
            refine g_goto C 10 dX3_growTree_85 rfl ?_
            refine g_sub [0, 2, 3, 4, 5, 6] [(5, .int (nI (i + 1))), (4, .int ((gwU (iA σ 33) (gq0 σ j) (i)).2.1)), (0, .ref (w.1 (34))), (1, .ref (w.1 (32))), (2, .int (nI (L))), (3, .ref (w.1 (64 + 5 * j)))] rfl ?_
            have hih := ih (i + 1) (by omega) (by omega)
            rw [show gwU (iA σ 33) (gq0 σ j) (i + 1) = ((gwU (iA σ 33) (gq0 σ j) (i)).1 + 1, (gwU (iA σ 33) (gq0 σ j) (i)).2.1, tdA (gwU (iA σ 33) (gq0 σ j) (i)).1 ((gwU (iA σ 33) (gq0 σ j) (i)).2.1.toNatClampNeg) (iA σ 33 i - nI 97) (gwU (iA σ 33) (gq0 σ j) (i)).2.2) from gw_let hn40 hn41 hle0] at hih
            exact hih
          · have hab := (gw_ab hgw hrk (Nat.pos_of_ne_zero (fun z => by have := hA.2.1.mpr z; omega))).1
            refine g_sk2 (v9 := _) (congrArg Value.int hab) ?_
            refine g_callVi (nn := 2) (rest := []) (pc9 := 81) C rfl (64 + 5 * j) [.int (nI ((gwU (iA σ 33) (gq0 σ j) (i)).2.1.toNatClampNeg)), .int (((iA σ (33)) (i)) - (nI (97)))] rfl dX3_growTree_78 (m_X7_addChild l w σ j hj (gwU (iA σ 33) (gq0 σ j) (i)).1 _ _ _ _ _ hn0 (by omega) ((gwU (iA σ 33) (gq0 σ j) (i)).2.1.toNatClampNeg) (hA.1 hn0) _) gX3_growTree_X7_addNode (by omega) (ce_tree w (sN (sN (sI (sI (sI (sI σ (65 + 5 * j) (((gwU (iA σ 33) (gq0 σ j) (i)).2.2).2.1)) (66 + 5 * j) (((gwU (iA σ 33) (gq0 σ j) (i)).2.2).2.2.1)) (67 + 5 * j) (((gwU (iA σ 33) (gq0 σ j) (i)).2.2).2.2.2.1)) (68 + 5 * j) (((gwU (iA σ 33) (gq0 σ j) (i)).2.2).2.2.2.2)) (64 + 5 * j) 4 (nI ((gwU (iA σ 33) (gq0 σ j) (i)).1))) (64 + 5 * j) 5 (nI (((gwU (iA σ 33) (gq0 σ j) (i)).2.2).1))) (j)) rfl rfl rfl rfl rfl (by decide +kernel) ⟨by decide, by decide⟩ rfl (Nat.le_of_ble_eq_true rfl) ⟨by decide, by decide⟩ (fun r_9 σ_9 q_9 => ?_)
            obtain ⟨qs_9, qr_9⟩ := q_9
            replace qs_9 : σ_9 = sN (sN (sI (sI (sI (sI σ (65 + 5 * j) ((tdA (gwU (iA σ 33) (gq0 σ j) (i)).1 ((gwU (iA σ 33) (gq0 σ j) (i)).2.1.toNatClampNeg) (iA σ 33 i - nI 97) (gwU (iA σ 33) (gq0 σ j) (i)).2.2).2.1)) (66 + 5 * j) ((tdA (gwU (iA σ 33) (gq0 σ j) (i)).1 ((gwU (iA σ 33) (gq0 σ j) (i)).2.1.toNatClampNeg) (iA σ 33 i - nI 97) (gwU (iA σ 33) (gq0 σ j) (i)).2.2).2.2.1)) (67 + 5 * j) ((tdA (gwU (iA σ 33) (gq0 σ j) (i)).1 ((gwU (iA σ 33) (gq0 σ j) (i)).2.1.toNatClampNeg) (iA σ 33 i - nI 97) (gwU (iA σ 33) (gq0 σ j) (i)).2.2).2.2.2.1)) (68 + 5 * j) ((tdA (gwU (iA σ 33) (gq0 σ j) (i)).1 ((gwU (iA σ 33) (gq0 σ j) (i)).2.1.toNatClampNeg) (iA σ 33 i - nI 97) (gwU (iA σ 33) (gq0 σ j) (i)).2.2).2.2.2.2)) (64 + 5 * j) 4 (nI ((gwU (iA σ 33) (gq0 σ j) (i)).1 + 1))) (64 + 5 * j) 5 (nI ((tdA (gwU (iA σ 33) (gq0 σ j) (i)).1 ((gwU (iA σ 33) (gq0 σ j) (i)).2.1.toNatClampNeg) (iA σ 33 i - nI 97) (gwU (iA σ 33) (gq0 σ j) (i)).2.2).1)) := qs_9.trans (tdS_A hn0)
            rw [qs_9, qr_9]
            refine g_pop (pc9 := 82) C rfl dX3_growTree_81 rfl ?_
            refine g_iinc (pc9 := 85) C rfl [(5, .int (nI (i + 1))), (6, .int ((iA σ (33)) (i))), (4, .int ((gwU (iA σ 33) (gq0 σ j) (i)).2.1)), (0, .ref (w.1 (34))), (1, .ref (w.1 (32))), (2, .int (nI (L))), (3, .ref (w.1 (64 + 5 * j)))] 1 (nI (i + 1)) dX3_growTree_82 rfl (nI_1 (i)) (by decide) rfl ?_
            refine g_goto C 10 dX3_growTree_85 rfl ?_
            refine g_sub [0, 2, 3, 4, 5, 6] [(5, .int (nI (i + 1))), (4, .int ((gwU (iA σ 33) (gq0 σ j) (i)).2.1)), (0, .ref (w.1 (34))), (1, .ref (w.1 (32))), (2, .int (nI (L))), (3, .ref (w.1 (64 + 5 * j)))] rfl ?_
            have hih := ih (i + 1) (by omega) (by omega)
            rw [show gwU (iA σ 33) (gq0 σ j) (i + 1) = ((gwU (iA σ 33) (gq0 σ j) (i)).1 + 1, (gwU (iA σ 33) (gq0 σ j) (i)).2.1, tdA (gwU (iA σ 33) (gq0 σ j) (i)).1 ((gwU (iA σ 33) (gq0 σ j) (i)).2.1.toNatClampNeg) (iA σ 33 i - nI 97) (gwU (iA σ 33) (gq0 σ j) (i)).2.2) from gw_let hn40 hn41 hle0] at hih
            exact hih
      · have hx41 : iA σ 33 i = nI 41 := c_5
        have hcl := rd_close (r := rdU (iA σ 33) (0, 0, 0, c9) i) (by have := hF.1 i (by omega); rw [hx41] at this; exact this)
        have hab := gw_ab hgw hrk hcl.1
        refine g_aload_n (pc9 := 52) C rfl 6 dX3_growTree_51 rfl rfl ?_
        refine g_iload (pc9 := 54) C rfl 2 dX3_growTree_52 rfl ?_
        refine g_sk (v9 := _) (congrArg Value.int hab.1) ?_
        refine g_callVi (nn := 1) (rest := []) (pc9 := 57) C rfl (64 + 5 * j) [.int (nI ((gwU (iA σ 33) (gq0 σ j) (i)).2.1.toNatClampNeg))] rfl dX3_growTree_54 (m_X7_parentOf l w (sN (sN (sI (sI (sI (sI σ (65 + 5 * j) (((gwU (iA σ 33) (gq0 σ j) (i)).2.2).2.1)) (66 + 5 * j) (((gwU (iA σ 33) (gq0 σ j) (i)).2.2).2.2.1)) (67 + 5 * j) (((gwU (iA σ 33) (gq0 σ j) (i)).2.2).2.2.2.1)) (68 + 5 * j) (((gwU (iA σ 33) (gq0 σ j) (i)).2.2).2.2.2.2)) (64 + 5 * j) 4 (nI ((gwU (iA σ 33) (gq0 σ j) (i)).1))) (64 + 5 * j) 5 (nI (((gwU (iA σ 33) (gq0 σ j) (i)).2.2).1))) j hj (gwU (iA σ 33) (gq0 σ j) (i)).1 (((nF_k (k := 5) (k9 := 4) (by decide)).trans (nF_s))) (by omega) ((gwU (iA σ 33) (gq0 σ j) (i)).2.1.toNatClampNeg) hab.2) gX3_growTree_X7_parentOf (by omega) (ce_tree w (sN (sN (sI (sI (sI (sI σ (65 + 5 * j) (((gwU (iA σ 33) (gq0 σ j) (i)).2.2).2.1)) (66 + 5 * j) (((gwU (iA σ 33) (gq0 σ j) (i)).2.2).2.2.1)) (67 + 5 * j) (((gwU (iA σ 33) (gq0 σ j) (i)).2.2).2.2.2.1)) (68 + 5 * j) (((gwU (iA σ 33) (gq0 σ j) (i)).2.2).2.2.2.2)) (64 + 5 * j) 4 (nI ((gwU (iA σ 33) (gq0 σ j) (i)).1))) (64 + 5 * j) 5 (nI (((gwU (iA σ 33) (gq0 σ j) (i)).2.2).1))) (j)) rfl rfl rfl rfl rfl (by decide +kernel) ⟨by decide, by decide⟩ rfl (Nat.le_of_ble_eq_true rfl) ⟨by decide, by decide⟩ (fun r_10 σ_10 q_10 => ?_)
        obtain ⟨qs_10, qr_10⟩ := q_10
        replace qr_10 : r_10 = (gwU (iA σ 33) (gq0 σ j) (i)).2.2.2.1 ((gwU (iA σ 33) (gq0 σ j) (i)).2.1.toNatClampNeg) := qr_10.trans (congrFun ((((((iA_N).trans (iA_N)).trans (iA_n (by omega))).trans (iA_n (by omega))).trans (iA_n (by omega))).trans (iA_s)) _)
        rw [qs_10, qr_10]
        clear qs_10 qr_10
        refine g_istore (pc9 := 59) C rfl [(4, .int ((gwU (iA σ 33) (gq0 σ j) (i)).2.2.2.1 ((gwU (iA σ 33) (gq0 σ j) (i)).2.1.toNatClampNeg))), (6, .int ((iA σ (33)) (i))), (5, .int (nI (i))), (0, .ref (w.1 (34))), (1, .ref (w.1 (32))), (2, .int (nI (L))), (3, .ref (w.1 (64 + 5 * j)))] dX3_growTree_57 (by decide) rfl ?_
        refine g_goto C 82 dX3_growTree_59 rfl ?_
        refine g_iinc (pc9 := 85) C rfl [(5, .int (nI (i + 1))), (4, .int ((gwU (iA σ 33) (gq0 σ j) (i)).2.2.2.1 ((gwU (iA σ 33) (gq0 σ j) (i)).2.1.toNatClampNeg))), (6, .int ((iA σ (33)) (i))), (0, .ref (w.1 (34))), (1, .ref (w.1 (32))), (2, .int (nI (L))), (3, .ref (w.1 (64 + 5 * j)))] 2 (nI (i + 1)) dX3_growTree_82 rfl (nI_1 (i)) (by decide) rfl ?_
        refine g_goto C 10 dX3_growTree_85 rfl ?_
        refine g_sub [0, 1, 3, 4, 5, 6] [(5, .int (nI (i + 1))), (4, .int ((gwU (iA σ 33) (gq0 σ j) (i)).2.2.2.1 ((gwU (iA σ 33) (gq0 σ j) (i)).2.1.toNatClampNeg))), (0, .ref (w.1 (34))), (1, .ref (w.1 (32))), (2, .int (nI (L))), (3, .ref (w.1 (64 + 5 * j)))] rfl ?_
        have hih := ih (i + 1) (by omega) (by omega)
        rw [show gwU (iA σ 33) (gq0 σ j) (i + 1) = ((gwU (iA σ 33) (gq0 σ j) (i)).1, (gwU (iA σ 33) (gq0 σ j) (i)).2.2.2.1 ((gwU (iA σ 33) (gq0 σ j) (i)).2.1.toNatClampNeg), (gwU (iA σ 33) (gq0 σ j) (i)).2.2) from gw_41 hx41] at hih
        exact hih
    · have hx40 : iA σ 33 i = nI 40 := c_4
      have hop : iA σ 33 i = nI 40 ∨ letP (iA σ 33 i) := Or.inl hx40
      refine g_aload_n (pc9 := 33) C rfl 6 dX3_growTree_32 rfl rfl ?_
      refine g_iload (pc9 := 35) C rfl 2 dX3_growTree_33 rfl ?_
      refine g_iconst (pc9 := 36) C rfl ((-1)) dX3_growTree_35 rfl ?_
      have hph := rd_open (hF.1 i (by omega)) hop
      have hA := gw_add (k := -1) (u := (gwU (iA σ 33) (gq0 σ j) (i)).2.1.toNatClampNeg) hgw hrk hph rfl
      have hle9 : (gwU (iA σ 33) (gq0 σ j) (i)).1 + 1 ≤ 47 := by
        have h9 := gwU_le (f := (iA σ 33)) (q := (gq0 σ j)) (i := i + 1) (L := L) (by omega)
        rw [show gwU (iA σ 33) (gq0 σ j) (i + 1) = ((gwU (iA σ 33) (gq0 σ j) (i)).1 + 1, nI (gwU (iA σ 33) (gq0 σ j) (i)).1, tdA (gwU (iA σ 33) (gq0 σ j) (i)).1 ((gwU (iA σ 33) (gq0 σ j) (i)).2.1.toNatClampNeg) (-1) (gwU (iA σ 33) (gq0 σ j) (i)).2.2) from gw_40 hx40] at h9
        have : (gwU (iA σ 33) (gq0 σ j) (i)).1 + 1 ≤ (gwU (iA σ 33) (gq0 σ j) (L)).1 := h9
        omega
      rcases Nat.eq_zero_or_pos (gwU (iA σ 33) (gq0 σ j) (i)).1 with hn0 | hn0
      · refine g_st (σ9 := sN (sN (sI (sI (sI (sI σ (65 + 5 * j) (((gwU (iA σ 33) (gq0 σ j) (i)).2.2).2.1)) (66 + 5 * j) (((gwU (iA σ 33) (gq0 σ j) (i)).2.2).2.2.1)) (67 + 5 * j) (((gwU (iA σ 33) (gq0 σ j) (i)).2.2).2.2.2.1)) (68 + 5 * j) (((gwU (iA σ 33) (gq0 σ j) (i)).2.2).2.2.2.2)) (64 + 5 * j) 4 (nI (0))) (64 + 5 * j) 5 (nI (((gwU (iA σ 33) (gq0 σ j) (i)).2.2).1))) (by rw [hn0]) ?_
        refine g_callVi (nn := 2) (rest := []) (pc9 := 39) C rfl (64 + 5 * j) [.int ((gwU (iA σ 33) (gq0 σ j) (i)).2.1), .int ((-1))] rfl dX3_growTree_36 (m_X7_addRoot l w σ j hj _ _ _ _ _ _ _) gX3_growTree_X7_addNode (by omega) (ce_tree w (sN (sN (sI (sI (sI (sI σ (65 + 5 * j) (((gwU (iA σ 33) (gq0 σ j) (i)).2.2).2.1)) (66 + 5 * j) (((gwU (iA σ 33) (gq0 σ j) (i)).2.2).2.2.1)) (67 + 5 * j) (((gwU (iA σ 33) (gq0 σ j) (i)).2.2).2.2.2.1)) (68 + 5 * j) (((gwU (iA σ 33) (gq0 σ j) (i)).2.2).2.2.2.2)) (64 + 5 * j) 4 (nI (0))) (64 + 5 * j) 5 (nI (((gwU (iA σ 33) (gq0 σ j) (i)).2.2).1))) (j)) rfl rfl rfl rfl rfl (by decide +kernel) ⟨by decide, by decide⟩ rfl (Nat.le_of_ble_eq_true rfl) ⟨by decide, by decide⟩ (fun r_11 σ_11 q_11 => ?_)
        obtain ⟨qs_11, qr_11⟩ := q_11
        replace qs_11 : σ_11 = sN (sN (sI (sI (sI (sI σ (65 + 5 * j) ((tdA (gwU (iA σ 33) (gq0 σ j) (i)).1 ((gwU (iA σ 33) (gq0 σ j) (i)).2.1.toNatClampNeg) (-1) (gwU (iA σ 33) (gq0 σ j) (i)).2.2).2.1)) (66 + 5 * j) ((tdA (gwU (iA σ 33) (gq0 σ j) (i)).1 ((gwU (iA σ 33) (gq0 σ j) (i)).2.1.toNatClampNeg) (-1) (gwU (iA σ 33) (gq0 σ j) (i)).2.2).2.2.1)) (67 + 5 * j) ((tdA (gwU (iA σ 33) (gq0 σ j) (i)).1 ((gwU (iA σ 33) (gq0 σ j) (i)).2.1.toNatClampNeg) (-1) (gwU (iA σ 33) (gq0 σ j) (i)).2.2).2.2.2.1)) (68 + 5 * j) ((tdA (gwU (iA σ 33) (gq0 σ j) (i)).1 ((gwU (iA σ 33) (gq0 σ j) (i)).2.1.toNatClampNeg) (-1) (gwU (iA σ 33) (gq0 σ j) (i)).2.2).2.2.2.2)) (64 + 5 * j) 4 (nI ((gwU (iA σ 33) (gq0 σ j) (i)).1 + 1))) (64 + 5 * j) 5 (nI ((tdA (gwU (iA σ 33) (gq0 σ j) (i)).1 ((gwU (iA σ 33) (gq0 σ j) (i)).2.1.toNatClampNeg) (-1) (gwU (iA σ 33) (gq0 σ j) (i)).2.2).1)) := qs_11.trans (tdS_R hn0)
        rw [qs_11, qr_11]
        refine g_istore (pc9 := 41) C rfl [(4, .int (nI (0))), (6, .int ((iA σ (33)) (i))), (5, .int (nI (i))), (0, .ref (w.1 (34))), (1, .ref (w.1 (32))), (2, .int (nI (L))), (3, .ref (w.1 (64 + 5 * j)))] dX3_growTree_39 (by decide) rfl ?_
        refine g_goto C 82 dX3_growTree_41 rfl ?_
        refine g_iinc (pc9 := 85) C rfl [(5, .int (nI (i + 1))), (4, .int (nI (0))), (6, .int ((iA σ (33)) (i))), (0, .ref (w.1 (34))), (1, .ref (w.1 (32))), (2, .int (nI (L))), (3, .ref (w.1 (64 + 5 * j)))] 2 (nI (i + 1)) dX3_growTree_82 rfl (nI_1 (i)) (by decide) rfl ?_
        refine g_goto C 10 dX3_growTree_85 rfl ?_
        refine g_sub [0, 1, 3, 4, 5, 6] [(5, .int (nI (i + 1))), (4, .int (nI (0))), (0, .ref (w.1 (34))), (1, .ref (w.1 (32))), (2, .int (nI (L))), (3, .ref (w.1 (64 + 5 * j)))] rfl ?_
        rw [show nI (0) = nI (gwU (iA σ 33) (gq0 σ j) (i)).1 from by rw [hn0]]
        have hih := ih (i + 1) (by omega) (by omega)
        rw [show gwU (iA σ 33) (gq0 σ j) (i + 1) = ((gwU (iA σ 33) (gq0 σ j) (i)).1 + 1, nI (gwU (iA σ 33) (gq0 σ j) (i)).1, tdA (gwU (iA σ 33) (gq0 σ j) (i)).1 ((gwU (iA σ 33) (gq0 σ j) (i)).2.1.toNatClampNeg) (-1) (gwU (iA σ 33) (gq0 σ j) (i)).2.2) from gw_40 hx40] at hih
        exact hih
      · have hab := (gw_ab hgw hrk (Nat.pos_of_ne_zero (fun z => by have := hA.2.1.mpr z; omega))).1
        refine g_sk2 (v9 := _) (congrArg Value.int hab) ?_
        refine g_callVi (nn := 2) (rest := []) (pc9 := 39) C rfl (64 + 5 * j) [.int (nI ((gwU (iA σ 33) (gq0 σ j) (i)).2.1.toNatClampNeg)), .int ((-1))] rfl dX3_growTree_36 (m_X7_addChild l w σ j hj (gwU (iA σ 33) (gq0 σ j) (i)).1 _ _ _ _ _ hn0 (by omega) ((gwU (iA σ 33) (gq0 σ j) (i)).2.1.toNatClampNeg) (hA.1 hn0) _) gX3_growTree_X7_addNode (by omega) (ce_tree w (sN (sN (sI (sI (sI (sI σ (65 + 5 * j) (((gwU (iA σ 33) (gq0 σ j) (i)).2.2).2.1)) (66 + 5 * j) (((gwU (iA σ 33) (gq0 σ j) (i)).2.2).2.2.1)) (67 + 5 * j) (((gwU (iA σ 33) (gq0 σ j) (i)).2.2).2.2.2.1)) (68 + 5 * j) (((gwU (iA σ 33) (gq0 σ j) (i)).2.2).2.2.2.2)) (64 + 5 * j) 4 (nI ((gwU (iA σ 33) (gq0 σ j) (i)).1))) (64 + 5 * j) 5 (nI (((gwU (iA σ 33) (gq0 σ j) (i)).2.2).1))) (j)) rfl rfl rfl rfl rfl (by decide +kernel) ⟨by decide, by decide⟩ rfl (Nat.le_of_ble_eq_true rfl) ⟨by decide, by decide⟩ (fun r_12 σ_12 q_12 => ?_)
        obtain ⟨qs_12, qr_12⟩ := q_12
        replace qs_12 : σ_12 = sN (sN (sI (sI (sI (sI σ (65 + 5 * j) ((tdA (gwU (iA σ 33) (gq0 σ j) (i)).1 ((gwU (iA σ 33) (gq0 σ j) (i)).2.1.toNatClampNeg) (-1) (gwU (iA σ 33) (gq0 σ j) (i)).2.2).2.1)) (66 + 5 * j) ((tdA (gwU (iA σ 33) (gq0 σ j) (i)).1 ((gwU (iA σ 33) (gq0 σ j) (i)).2.1.toNatClampNeg) (-1) (gwU (iA σ 33) (gq0 σ j) (i)).2.2).2.2.1)) (67 + 5 * j) ((tdA (gwU (iA σ 33) (gq0 σ j) (i)).1 ((gwU (iA σ 33) (gq0 σ j) (i)).2.1.toNatClampNeg) (-1) (gwU (iA σ 33) (gq0 σ j) (i)).2.2).2.2.2.1)) (68 + 5 * j) ((tdA (gwU (iA σ 33) (gq0 σ j) (i)).1 ((gwU (iA σ 33) (gq0 σ j) (i)).2.1.toNatClampNeg) (-1) (gwU (iA σ 33) (gq0 σ j) (i)).2.2).2.2.2.2)) (64 + 5 * j) 4 (nI ((gwU (iA σ 33) (gq0 σ j) (i)).1 + 1))) (64 + 5 * j) 5 (nI ((tdA (gwU (iA σ 33) (gq0 σ j) (i)).1 ((gwU (iA σ 33) (gq0 σ j) (i)).2.1.toNatClampNeg) (-1) (gwU (iA σ 33) (gq0 σ j) (i)).2.2).1)) := qs_12.trans (tdS_A hn0)
        rw [qs_12, qr_12]
        refine g_istore (pc9 := 41) C rfl [(4, .int (nI ((gwU (iA σ 33) (gq0 σ j) (i)).1))), (6, .int ((iA σ (33)) (i))), (5, .int (nI (i))), (0, .ref (w.1 (34))), (1, .ref (w.1 (32))), (2, .int (nI (L))), (3, .ref (w.1 (64 + 5 * j)))] dX3_growTree_39 (by decide) rfl ?_
        refine g_goto C 82 dX3_growTree_41 rfl ?_
        refine g_iinc (pc9 := 85) C rfl [(5, .int (nI (i + 1))), (4, .int (nI ((gwU (iA σ 33) (gq0 σ j) (i)).1))), (6, .int ((iA σ (33)) (i))), (0, .ref (w.1 (34))), (1, .ref (w.1 (32))), (2, .int (nI (L))), (3, .ref (w.1 (64 + 5 * j)))] 2 (nI (i + 1)) dX3_growTree_82 rfl (nI_1 (i)) (by decide) rfl ?_
        refine g_goto C 10 dX3_growTree_85 rfl ?_
        refine g_sub [0, 1, 3, 4, 5, 6] [(5, .int (nI (i + 1))), (4, .int (nI ((gwU (iA σ 33) (gq0 σ j) (i)).1))), (0, .ref (w.1 (34))), (1, .ref (w.1 (32))), (2, .int (nI (L))), (3, .ref (w.1 (64 + 5 * j)))] rfl ?_
        have hih := ih (i + 1) (by omega) (by omega)
        rw [show gwU (iA σ 33) (gq0 σ j) (i + 1) = ((gwU (iA σ 33) (gq0 σ j) (i)).1 + 1, nI (gwU (iA σ 33) (gq0 σ j) (i)).1, tdA (gwU (iA σ 33) (gq0 σ j) (i)).1 ((gwU (iA σ 33) (gq0 σ j) (i)).2.1.toNatClampNeg) (-1) (gwU (iA σ 33) (gq0 σ j) (i)).2.2) from gw_40 hx40] at hih
        exact hih

/-! The law's wrappers -/
set_option maxRecDepth 100000 in
set_option maxHeartbeats 4000000 in
theorem m_L_cut (l : Launch) (w : Wd) (sA : Nat → Nat) (σ : St) (x0 x1 x2 : Int32) {post : Int32 → St → Prop} {thr : String → St → Prop} (hM : MXI l yX10_cut wsX10_cut 8 5 w sA [.ref (w.1 31), .int x0, .int x1, .int x2] σ post thr) (hE : ∀ E σ9, thr E σ9 → ∃ n, (E, n) ∈ ([(xIOB, 1), (xISE, 2), (xIAE, 3)] : List (String × Nat))) : MWI l yL_cut wsL_cut 9 5 w sA [.ref (w.1 31), .int x0, .int x1, .int x2, .ref (w.1 30)] σ (WPi [(xIOB, 1), (xISE, 2), (xIAE, 3)] post thr) := by
  refine MWI_of (cc := cL_cut) (maxL := 6) (ret := .int) (hh := [(0, 12, 15, 13), (0, 12, 19, 20), (0, 12, 23, 15)]) (by decide) rfl (Nat.le_of_ble_eq_true rfl) ?_
  intro p e s m args below meth c A X hr hlk
  have X : CW p s m args c w sA A cL_cut RL 6 wsL_cut [(0, 12, 15, 13), (0, 12, 19, 20), (0, 12, 23, 15)] := X
  have C := X.1
  have hx : ∀ q ∈ ([(xIOB, 1), (xISE, 2), (xIAE, 3)] : List (String × Nat)), ∃ z ∈ ([((0, 12, 15, 13), xIOB), ((0, 12, 19, 20), xISE), ((0, 12, 23, 15), xIAE)] : List ((Nat × Nat × Nat × Nat) × String)), z.2 = q.1 := by decide +kernel
  refine g_aload (pc9 := 2) C rfl 4 dL_cut_0 rfl ?_
  refine g_iconst (pc9 := 3) C rfl (nI (0)) dL_cut_2 rfl ?_
  refine g_aload_n (pc9 := 4) C rfl 0 dL_cut_3 rfl rfl ?_
  refine g_iload_n (pc9 := 5) C rfl 1 dL_cut_4 rfl rfl ?_
  refine g_iload_n (pc9 := 6) C rfl 2 dL_cut_5 rfl rfl ?_
  refine g_iload_n (pc9 := 7) C rfl 3 dL_cut_6 rfl rfl ?_
  refine c_callVi (rest := [.int (nI (0)), .ref (w.1 30)]) X (pc9 := 10) rfl 31 [.int x0, .int x1, .int x2] (nn := 3) rfl dL_cut_7 hM gL_cut_X10_cut (by decide) (ce_31 w σ) rfl rfl rfl (by decide +kernel) ⟨by decide, by decide⟩ rfl (Nat.le_of_ble_eq_true rfl) ⟨by decide, by decide⟩ [((0, 12, 15, 13), xIOB), ((0, 12, 19, 20), xISE), ((0, 12, 23, 15), xIAE)] rfl (by decide +kernel) (by decide +kernel) (fun E σ9 h => (hE E σ9 h).elim (fun _ h9 => hx _ h9)) ?_ (fun r_1 σ_1 q_1 => ?_)
  · intro z hz
    simp only [List.mem_cons, List.not_mem_nil, or_false] at hz
    rcases hz with rfl | rfl | rfl
    · intro σ9 q9 h9
      refine g_astore (pc9 := 17) C rfl [(5, .ref q9), (0, .ref (w.1 31)), (1, .int x0), (2, .int x1), (3, .int x2), (4, .ref (w.1 30))] dL_cut_15 (by decide) rfl ?_
      refine g_iconst (pc9 := 18) C rfl (nI (1)) dL_cut_17 rfl ?_
      exact g_xi (by decide) (by decide) (g_ireturn C hr hlk dL_cut_18 (Or.inr ⟨xIOB, 1, by decide +kernel, h9, rfl⟩))
    · intro σ9 q9 h9
      refine g_astore (pc9 := 21) C rfl [(5, .ref q9), (0, .ref (w.1 31)), (1, .int x0), (2, .int x1), (3, .int x2), (4, .ref (w.1 30))] dL_cut_19 (by decide) rfl ?_
      refine g_iconst (pc9 := 22) C rfl (nI (2)) dL_cut_21 rfl ?_
      exact g_xi (by decide) (by decide) (g_ireturn C hr hlk dL_cut_22 (Or.inr ⟨xISE, 2, by decide +kernel, h9, rfl⟩))
    · intro σ9 q9 h9
      refine g_astore (pc9 := 25) C rfl [(5, .ref q9), (0, .ref (w.1 31)), (1, .int x0), (2, .int x1), (3, .int x2), (4, .ref (w.1 30))] dL_cut_23 (by decide) rfl ?_
      refine g_iconst (pc9 := 26) C rfl (nI (3)) dL_cut_25 rfl ?_
      exact g_xi (by decide) (by decide) (g_ireturn C hr hlk dL_cut_26 (Or.inr ⟨xIAE, 3, by decide +kernel, h9, rfl⟩))
  · have q_1 := q_1
    refine g_i2l (pc9 := 11) C rfl dL_cut_10 ?_
    refine g_last (pc9 := 12) C rfl 30 0 (jA σ_1 30) dL_cut_11 (by decide) (fun _ => rfl) (ce_30 w σ_1) rfl (by decide) (by decide) rfl ?_
    refine g_goto C 27 dL_cut_12 rfl ?_
    refine g_iconst (pc9 := 28) C rfl (nI (0)) dL_cut_27 rfl ?_
    exact g_xi (by decide) (by decide) (g_ireturn C hr hlk dL_cut_28 (Or.inl ⟨r_1, σ_1, q_1, rfl, rfl⟩))
set_option maxRecDepth 100000 in
set_option maxHeartbeats 4000000 in
theorem m_L_strict (l : Launch) (w : Wd) (sA : Nat → Nat) (σ : St) (x0 x1 : Int32) {post : Int32 → St → Prop} {thr : String → St → Prop} (hM : MXI l yX10_strict wsX10_strict 9 19 w sA [.ref (w.1 31), .int x0, .int x1] σ post thr) (hE : ∀ E σ9, thr E σ9 → ∃ n, (E, n) ∈ ([(xIOB, 1), (xIAE, 2), (xISE, 3)] : List (String × Nat))) : MWI l yL_strict wsL_strict 10 19 w sA [.ref (w.1 31), .int x0, .int x1, .ref (w.1 30)] σ (WPi [(xIOB, 1), (xIAE, 2), (xISE, 3)] post thr) := by
  refine MWI_of (cc := cL_strict) (maxL := 5) (ret := .int) (hh := [(0, 10, 13, 13), (0, 10, 17, 15), (0, 10, 21, 20)]) (by decide) rfl (Nat.le_of_ble_eq_true rfl) ?_
  intro p e s m args below meth c A X hr hlk
  have X : CW p s m args c w sA A cL_strict RL 5 wsL_strict [(0, 10, 13, 13), (0, 10, 17, 15), (0, 10, 21, 20)] := X
  have C := X.1
  have hx : ∀ q ∈ ([(xIOB, 1), (xIAE, 2), (xISE, 3)] : List (String × Nat)), ∃ z ∈ ([((0, 10, 13, 13), xIOB), ((0, 10, 17, 15), xIAE), ((0, 10, 21, 20), xISE)] : List ((Nat × Nat × Nat × Nat) × String)), z.2 = q.1 := by decide +kernel
  refine g_aload_n (pc9 := 1) C rfl 3 dL_strict_0 rfl rfl ?_
  refine g_iconst (pc9 := 2) C rfl (nI (0)) dL_strict_1 rfl ?_
  refine g_aload_n (pc9 := 3) C rfl 0 dL_strict_2 rfl rfl ?_
  refine g_iload_n (pc9 := 4) C rfl 1 dL_strict_3 rfl rfl ?_
  refine g_iload_n (pc9 := 5) C rfl 2 dL_strict_4 rfl rfl ?_
  refine c_callVi (rest := [.int (nI (0)), .ref (w.1 30)]) X (pc9 := 8) rfl 31 [.int x0, .int x1] (nn := 2) rfl dL_strict_5 hM gL_strict_X10_strict (by decide) (ce_31 w σ) rfl rfl rfl (by decide +kernel) ⟨by decide, by decide⟩ rfl (Nat.le_of_ble_eq_true rfl) ⟨by decide, by decide⟩ [((0, 10, 13, 13), xIOB), ((0, 10, 17, 15), xIAE), ((0, 10, 21, 20), xISE)] rfl (by decide +kernel) (by decide +kernel) (fun E σ9 h => (hE E σ9 h).elim (fun _ h9 => hx _ h9)) ?_ (fun r_1 σ_1 q_1 => ?_)
  · intro z hz
    simp only [List.mem_cons, List.not_mem_nil, or_false] at hz
    rcases hz with rfl | rfl | rfl
    · intro σ9 q9 h9
      refine g_astore (pc9 := 15) C rfl [(4, .ref q9), (0, .ref (w.1 31)), (1, .int x0), (2, .int x1), (3, .ref (w.1 30))] dL_strict_13 (by decide) rfl ?_
      refine g_iconst (pc9 := 16) C rfl (nI (1)) dL_strict_15 rfl ?_
      exact g_xi (by decide) (by decide) (g_ireturn C hr hlk dL_strict_16 (Or.inr ⟨xIOB, 1, by decide +kernel, h9, rfl⟩))
    · intro σ9 q9 h9
      refine g_astore (pc9 := 19) C rfl [(4, .ref q9), (0, .ref (w.1 31)), (1, .int x0), (2, .int x1), (3, .ref (w.1 30))] dL_strict_17 (by decide) rfl ?_
      refine g_iconst (pc9 := 20) C rfl (nI (2)) dL_strict_19 rfl ?_
      exact g_xi (by decide) (by decide) (g_ireturn C hr hlk dL_strict_20 (Or.inr ⟨xIAE, 2, by decide +kernel, h9, rfl⟩))
    · intro σ9 q9 h9
      refine g_astore (pc9 := 23) C rfl [(4, .ref q9), (0, .ref (w.1 31)), (1, .int x0), (2, .int x1), (3, .ref (w.1 30))] dL_strict_21 (by decide) rfl ?_
      refine g_iconst (pc9 := 24) C rfl (nI (3)) dL_strict_23 rfl ?_
      exact g_xi (by decide) (by decide) (g_ireturn C hr hlk dL_strict_24 (Or.inr ⟨xISE, 3, by decide +kernel, h9, rfl⟩))
  · have q_1 := q_1
    refine g_i2l (pc9 := 9) C rfl dL_strict_8 ?_
    refine g_last (pc9 := 10) C rfl 30 0 (jA σ_1 30) dL_strict_9 (by decide) (fun _ => rfl) (ce_30 w σ_1) rfl (by decide) (by decide) rfl ?_
    refine g_goto C 25 dL_strict_10 rfl ?_
    refine g_iconst (pc9 := 26) C rfl (nI (0)) dL_strict_25 rfl ?_
    exact g_xi (by decide) (by decide) (g_ireturn C hr hlk dL_strict_26 (Or.inl ⟨r_1, σ_1, q_1, rfl, rfl⟩))
set_option maxRecDepth 100000 in
set_option maxHeartbeats 4000000 in
theorem m_L_most (l : Launch) (w : Wd) (sA : Nat → Nat) (σ : St) (x0 x1 : Int32) {post : Int32 → St → Prop} {thr : String → St → Prop} (hM : MXI l yX10_most wsX10_most 9 19 w sA [.ref (w.1 31), .int x0, .int x1] σ post thr) (hE : ∀ E σ9, thr E σ9 → ∃ n, (E, n) ∈ ([(xIOB, 1), (xIAE, 2), (xISE, 3)] : List (String × Nat))) : MWI l yL_most wsL_most 10 19 w sA [.ref (w.1 31), .int x0, .int x1, .ref (w.1 30)] σ (WPi [(xIOB, 1), (xIAE, 2), (xISE, 3)] post thr) := by
  refine MWI_of (cc := cL_most) (maxL := 5) (ret := .int) (hh := [(0, 10, 13, 13), (0, 10, 17, 15), (0, 10, 21, 20)]) (by decide) rfl (Nat.le_of_ble_eq_true rfl) ?_
  intro p e s m args below meth c A X hr hlk
  have X : CW p s m args c w sA A cL_most RL 5 wsL_most [(0, 10, 13, 13), (0, 10, 17, 15), (0, 10, 21, 20)] := X
  have C := X.1
  have hx : ∀ q ∈ ([(xIOB, 1), (xIAE, 2), (xISE, 3)] : List (String × Nat)), ∃ z ∈ ([((0, 10, 13, 13), xIOB), ((0, 10, 17, 15), xIAE), ((0, 10, 21, 20), xISE)] : List ((Nat × Nat × Nat × Nat) × String)), z.2 = q.1 := by decide +kernel
  refine g_aload_n (pc9 := 1) C rfl 3 dL_most_0 rfl rfl ?_
  refine g_iconst (pc9 := 2) C rfl (nI (0)) dL_most_1 rfl ?_
  refine g_aload_n (pc9 := 3) C rfl 0 dL_most_2 rfl rfl ?_
  refine g_iload_n (pc9 := 4) C rfl 1 dL_most_3 rfl rfl ?_
  refine g_iload_n (pc9 := 5) C rfl 2 dL_most_4 rfl rfl ?_
  refine c_callVi (rest := [.int (nI (0)), .ref (w.1 30)]) X (pc9 := 8) rfl 31 [.int x0, .int x1] (nn := 2) rfl dL_most_5 hM gL_most_X10_most (by decide) (ce_31 w σ) rfl rfl rfl (by decide +kernel) ⟨by decide, by decide⟩ rfl (Nat.le_of_ble_eq_true rfl) ⟨by decide, by decide⟩ [((0, 10, 13, 13), xIOB), ((0, 10, 17, 15), xIAE), ((0, 10, 21, 20), xISE)] rfl (by decide +kernel) (by decide +kernel) (fun E σ9 h => (hE E σ9 h).elim (fun _ h9 => hx _ h9)) ?_ (fun r_1 σ_1 q_1 => ?_)
  · intro z hz
    simp only [List.mem_cons, List.not_mem_nil, or_false] at hz
    rcases hz with rfl | rfl | rfl
    · intro σ9 q9 h9
      refine g_astore (pc9 := 15) C rfl [(4, .ref q9), (0, .ref (w.1 31)), (1, .int x0), (2, .int x1), (3, .ref (w.1 30))] dL_most_13 (by decide) rfl ?_
      refine g_iconst (pc9 := 16) C rfl (nI (1)) dL_most_15 rfl ?_
      exact g_xi (by decide) (by decide) (g_ireturn C hr hlk dL_most_16 (Or.inr ⟨xIOB, 1, by decide +kernel, h9, rfl⟩))
    · intro σ9 q9 h9
      refine g_astore (pc9 := 19) C rfl [(4, .ref q9), (0, .ref (w.1 31)), (1, .int x0), (2, .int x1), (3, .ref (w.1 30))] dL_most_17 (by decide) rfl ?_
      refine g_iconst (pc9 := 20) C rfl (nI (2)) dL_most_19 rfl ?_
      exact g_xi (by decide) (by decide) (g_ireturn C hr hlk dL_most_20 (Or.inr ⟨xIAE, 2, by decide +kernel, h9, rfl⟩))
    · intro σ9 q9 h9
      refine g_astore (pc9 := 23) C rfl [(4, .ref q9), (0, .ref (w.1 31)), (1, .int x0), (2, .int x1), (3, .ref (w.1 30))] dL_most_21 (by decide) rfl ?_
      refine g_iconst (pc9 := 24) C rfl (nI (3)) dL_most_23 rfl ?_
      exact g_xi (by decide) (by decide) (g_ireturn C hr hlk dL_most_24 (Or.inr ⟨xISE, 3, by decide +kernel, h9, rfl⟩))
  · have q_1 := q_1
    refine g_i2l (pc9 := 9) C rfl dL_most_8 ?_
    refine g_last (pc9 := 10) C rfl 30 0 (jA σ_1 30) dL_most_9 (by decide) (fun _ => rfl) (ce_30 w σ_1) rfl (by decide) (by decide) rfl ?_
    refine g_goto C 25 dL_most_10 rfl ?_
    refine g_iconst (pc9 := 26) C rfl (nI (0)) dL_most_25 rfl ?_
    exact g_xi (by decide) (by decide) (g_ireturn C hr hlk dL_most_26 (Or.inl ⟨r_1, σ_1, q_1, rfl, rfl⟩))
set_option maxRecDepth 100000 in
set_option maxHeartbeats 4000000 in
theorem m_L_triple (l : Launch) (w : Wd) (sA : Nat → Nat) (σ : St) (x0 x1 x2 : Int32) {post : Int32 → St → Prop} {thr : String → St → Prop} (hM : MXI l yX10_triple wsX10_triple 7 5 w sA [.ref (w.1 31), .int x0, .int x1, .int x2] σ post thr) (hE : ∀ E σ9, thr E σ9 → ∃ n, (E, n) ∈ ([(xIOB, 1), (xIAE, 2), (xUOE, 3)] : List (String × Nat))) : MWI l yL_triple wsL_triple 8 5 w sA [.ref (w.1 31), .int x0, .int x1, .int x2, .ref (w.1 30)] σ (WPi [(xIOB, 1), (xIAE, 2), (xUOE, 3)] post thr) := by
  refine MWI_of (cc := cL_triple) (maxL := 6) (ret := .int) (hh := [(0, 12, 15, 13), (0, 12, 19, 15), (0, 12, 23, 62)]) (by decide) rfl (Nat.le_of_ble_eq_true rfl) ?_
  intro p e s m args below meth c A X hr hlk
  have X : CW p s m args c w sA A cL_triple RL 6 wsL_triple [(0, 12, 15, 13), (0, 12, 19, 15), (0, 12, 23, 62)] := X
  have C := X.1
  have hx : ∀ q ∈ ([(xIOB, 1), (xIAE, 2), (xUOE, 3)] : List (String × Nat)), ∃ z ∈ ([((0, 12, 15, 13), xIOB), ((0, 12, 19, 15), xIAE), ((0, 12, 23, 62), xUOE)] : List ((Nat × Nat × Nat × Nat) × String)), z.2 = q.1 := by decide +kernel
  refine g_aload (pc9 := 2) C rfl 4 dL_triple_0 rfl ?_
  refine g_iconst (pc9 := 3) C rfl (nI (0)) dL_triple_2 rfl ?_
  refine g_aload_n (pc9 := 4) C rfl 0 dL_triple_3 rfl rfl ?_
  refine g_iload_n (pc9 := 5) C rfl 1 dL_triple_4 rfl rfl ?_
  refine g_iload_n (pc9 := 6) C rfl 2 dL_triple_5 rfl rfl ?_
  refine g_iload_n (pc9 := 7) C rfl 3 dL_triple_6 rfl rfl ?_
  refine c_callVi (rest := [.int (nI (0)), .ref (w.1 30)]) X (pc9 := 10) rfl 31 [.int x0, .int x1, .int x2] (nn := 3) rfl dL_triple_7 hM gL_triple_X10_triple (by decide) (ce_31 w σ) rfl rfl rfl (by decide +kernel) ⟨by decide, by decide⟩ rfl (Nat.le_of_ble_eq_true rfl) ⟨by decide, by decide⟩ [((0, 12, 15, 13), xIOB), ((0, 12, 19, 15), xIAE), ((0, 12, 23, 62), xUOE)] rfl (by decide +kernel) (by decide +kernel) (fun E σ9 h => (hE E σ9 h).elim (fun _ h9 => hx _ h9)) ?_ (fun r_1 σ_1 q_1 => ?_)
  · intro z hz
    simp only [List.mem_cons, List.not_mem_nil, or_false] at hz
    rcases hz with rfl | rfl | rfl
    · intro σ9 q9 h9
      refine g_astore (pc9 := 17) C rfl [(5, .ref q9), (0, .ref (w.1 31)), (1, .int x0), (2, .int x1), (3, .int x2), (4, .ref (w.1 30))] dL_triple_15 (by decide) rfl ?_
      refine g_iconst (pc9 := 18) C rfl (nI (1)) dL_triple_17 rfl ?_
      exact g_xi (by decide) (by decide) (g_ireturn C hr hlk dL_triple_18 (Or.inr ⟨xIOB, 1, by decide +kernel, h9, rfl⟩))
    · intro σ9 q9 h9
      refine g_astore (pc9 := 21) C rfl [(5, .ref q9), (0, .ref (w.1 31)), (1, .int x0), (2, .int x1), (3, .int x2), (4, .ref (w.1 30))] dL_triple_19 (by decide) rfl ?_
      refine g_iconst (pc9 := 22) C rfl (nI (2)) dL_triple_21 rfl ?_
      exact g_xi (by decide) (by decide) (g_ireturn C hr hlk dL_triple_22 (Or.inr ⟨xIAE, 2, by decide +kernel, h9, rfl⟩))
    · intro σ9 q9 h9
      refine g_astore (pc9 := 25) C rfl [(5, .ref q9), (0, .ref (w.1 31)), (1, .int x0), (2, .int x1), (3, .int x2), (4, .ref (w.1 30))] dL_triple_23 (by decide) rfl ?_
      refine g_iconst (pc9 := 26) C rfl (nI (3)) dL_triple_25 rfl ?_
      exact g_xi (by decide) (by decide) (g_ireturn C hr hlk dL_triple_26 (Or.inr ⟨xUOE, 3, by decide +kernel, h9, rfl⟩))
  · have q_1 := q_1
    refine g_i2l (pc9 := 11) C rfl dL_triple_10 ?_
    refine g_last (pc9 := 12) C rfl 30 0 (jA σ_1 30) dL_triple_11 (by decide) (fun _ => rfl) (ce_30 w σ_1) rfl (by decide) (by decide) rfl ?_
    refine g_goto C 27 dL_triple_12 rfl ?_
    refine g_iconst (pc9 := 28) C rfl (nI (0)) dL_triple_27 rfl ?_
    exact g_xi (by decide) (by decide) (g_ireturn C hr hlk dL_triple_28 (Or.inl ⟨r_1, σ_1, q_1, rfl, rfl⟩))
set_option maxRecDepth 100000 in
set_option maxHeartbeats 4000000 in
theorem m_L_build (l : Launch) (w : Wd) (sA : Nat → Nat) (σ : St) (x0 x1 : Int32) {post : Int32 → St → Prop} {thr : String → St → Prop} (hM : MXI l yX10_build wsX10_build 18 2 w sA [.ref (w.1 31), .int x0, .int x1] σ post thr) (hE : ∀ E σ9, thr E σ9 → ∃ n, (E, n) ∈ ([(xIOB, 1), (xIAE, 2)] : List (String × Nat))) : MWI l yL_build wsL_build 19 2 w sA [.ref (w.1 31), .int x0, .int x1, .ref (w.1 30)] σ (WPi [(xIOB, 1), (xIAE, 2)] post thr) := by
  refine MWI_of (cc := cL_build) (maxL := 5) (ret := .int) (hh := [(0, 10, 13, 13), (0, 10, 17, 15)]) (by decide) rfl (Nat.le_of_ble_eq_true rfl) ?_
  intro p e s m args below meth c A X hr hlk
  have X : CW p s m args c w sA A cL_build RL 5 wsL_build [(0, 10, 13, 13), (0, 10, 17, 15)] := X
  have C := X.1
  have hx : ∀ q ∈ ([(xIOB, 1), (xIAE, 2)] : List (String × Nat)), ∃ z ∈ ([((0, 10, 13, 13), xIOB), ((0, 10, 17, 15), xIAE)] : List ((Nat × Nat × Nat × Nat) × String)), z.2 = q.1 := by decide +kernel
  refine g_aload_n (pc9 := 1) C rfl 3 dL_build_0 rfl rfl ?_
  refine g_iconst (pc9 := 2) C rfl (nI (0)) dL_build_1 rfl ?_
  refine g_aload_n (pc9 := 3) C rfl 0 dL_build_2 rfl rfl ?_
  refine g_iload_n (pc9 := 4) C rfl 1 dL_build_3 rfl rfl ?_
  refine g_iload_n (pc9 := 5) C rfl 2 dL_build_4 rfl rfl ?_
  refine c_callVi (rest := [.int (nI (0)), .ref (w.1 30)]) X (pc9 := 8) rfl 31 [.int x0, .int x1] (nn := 2) rfl dL_build_5 hM gL_build_X10_build (by decide) (ce_31 w σ) rfl rfl rfl (by decide +kernel) ⟨by decide, by decide⟩ rfl (Nat.le_of_ble_eq_true rfl) ⟨by decide, by decide⟩ [((0, 10, 13, 13), xIOB), ((0, 10, 17, 15), xIAE)] rfl (by decide +kernel) (by decide +kernel) (fun E σ9 h => (hE E σ9 h).elim (fun _ h9 => hx _ h9)) ?_ (fun r_1 σ_1 q_1 => ?_)
  · intro z hz
    simp only [List.mem_cons, List.not_mem_nil, or_false] at hz
    rcases hz with rfl | rfl
    · intro σ9 q9 h9
      refine g_astore (pc9 := 15) C rfl [(4, .ref q9), (0, .ref (w.1 31)), (1, .int x0), (2, .int x1), (3, .ref (w.1 30))] dL_build_13 (by decide) rfl ?_
      refine g_iconst (pc9 := 16) C rfl (nI (1)) dL_build_15 rfl ?_
      exact g_xi (by decide) (by decide) (g_ireturn C hr hlk dL_build_16 (Or.inr ⟨xIOB, 1, by decide +kernel, h9, rfl⟩))
    · intro σ9 q9 h9
      refine g_astore (pc9 := 19) C rfl [(4, .ref q9), (0, .ref (w.1 31)), (1, .int x0), (2, .int x1), (3, .ref (w.1 30))] dL_build_17 (by decide) rfl ?_
      refine g_iconst (pc9 := 20) C rfl (nI (2)) dL_build_19 rfl ?_
      exact g_xi (by decide) (by decide) (g_ireturn C hr hlk dL_build_20 (Or.inr ⟨xIAE, 2, by decide +kernel, h9, rfl⟩))
  · have q_1 := q_1
    refine g_i2l (pc9 := 9) C rfl dL_build_8 ?_
    refine g_last (pc9 := 10) C rfl 30 0 (jA σ_1 30) dL_build_9 (by decide) (fun _ => rfl) (ce_30 w σ_1) rfl (by decide) (by decide) rfl ?_
    refine g_goto C 21 dL_build_10 rfl ?_
    refine g_iconst (pc9 := 22) C rfl (nI (0)) dL_build_21 rfl ?_
    exact g_xi (by decide) (by decide) (g_ireturn C hr hlk dL_build_22 (Or.inl ⟨r_1, σ_1, q_1, rfl, rfl⟩))
set_option maxRecDepth 100000 in
set_option maxHeartbeats 4000000 in
theorem m_L_shown (l : Launch) (w : Wd) (sA : Nat → Nat) (σ : St) (x0 : Int32) {post : Int32 → St → Prop} {thr : String → St → Prop} (hM : MXI l yX10_shown wsX10_shown 8 3 w sA [.ref (w.1 31), .int x0] σ post thr) (hE : ∀ E σ9, thr E σ9 → ∃ n, (E, n) ∈ ([(xIOB, 1), (xISE, 2)] : List (String × Nat))) : MWI l yL_shown wsL_shown 9 3 w sA [.ref (w.1 31), .int x0, .ref (w.1 30)] σ (WPi [(xIOB, 1), (xISE, 2)] post thr) := by
  refine MWI_of (cc := cL_shown) (maxL := 4) (ret := .int) (hh := [(0, 9, 12, 13), (0, 9, 15, 20)]) (by decide) rfl (Nat.le_of_ble_eq_true rfl) ?_
  intro p e s m args below meth c A X hr hlk
  have X : CW p s m args c w sA A cL_shown RL 4 wsL_shown [(0, 9, 12, 13), (0, 9, 15, 20)] := X
  have C := X.1
  have hx : ∀ q ∈ ([(xIOB, 1), (xISE, 2)] : List (String × Nat)), ∃ z ∈ ([((0, 9, 12, 13), xIOB), ((0, 9, 15, 20), xISE)] : List ((Nat × Nat × Nat × Nat) × String)), z.2 = q.1 := by decide +kernel
  refine g_aload_n (pc9 := 1) C rfl 2 dL_shown_0 rfl rfl ?_
  refine g_iconst (pc9 := 2) C rfl (nI (0)) dL_shown_1 rfl ?_
  refine g_aload_n (pc9 := 3) C rfl 0 dL_shown_2 rfl rfl ?_
  refine g_iload_n (pc9 := 4) C rfl 1 dL_shown_3 rfl rfl ?_
  refine c_callVi (rest := [.int (nI (0)), .ref (w.1 30)]) X (pc9 := 7) rfl 31 [.int x0] (nn := 1) rfl dL_shown_4 hM gL_shown_X10_shown (by decide) (ce_31 w σ) rfl rfl rfl (by decide +kernel) ⟨by decide, by decide⟩ rfl (Nat.le_of_ble_eq_true rfl) ⟨by decide, by decide⟩ [((0, 9, 12, 13), xIOB), ((0, 9, 15, 20), xISE)] rfl (by decide +kernel) (by decide +kernel) (fun E σ9 h => (hE E σ9 h).elim (fun _ h9 => hx _ h9)) ?_ (fun r_1 σ_1 q_1 => ?_)
  · intro z hz
    simp only [List.mem_cons, List.not_mem_nil, or_false] at hz
    rcases hz with rfl | rfl
    · intro σ9 q9 h9
      refine g_astore_n (pc9 := 13) C rfl [(3, .ref q9), (0, .ref (w.1 31)), (1, .int x0), (2, .ref (w.1 30))] dL_shown_12 rfl (by decide) rfl ?_
      refine g_iconst (pc9 := 14) C rfl (nI (1)) dL_shown_13 rfl ?_
      exact g_xi (by decide) (by decide) (g_ireturn C hr hlk dL_shown_14 (Or.inr ⟨xIOB, 1, by decide +kernel, h9, rfl⟩))
    · intro σ9 q9 h9
      refine g_astore_n (pc9 := 16) C rfl [(3, .ref q9), (0, .ref (w.1 31)), (1, .int x0), (2, .ref (w.1 30))] dL_shown_15 rfl (by decide) rfl ?_
      refine g_iconst (pc9 := 17) C rfl (nI (2)) dL_shown_16 rfl ?_
      exact g_xi (by decide) (by decide) (g_ireturn C hr hlk dL_shown_17 (Or.inr ⟨xISE, 2, by decide +kernel, h9, rfl⟩))
  · have q_1 := q_1
    refine g_i2l (pc9 := 8) C rfl dL_shown_7 ?_
    refine g_last (pc9 := 9) C rfl 30 0 (jA σ_1 30) dL_shown_8 (by decide) (fun _ => rfl) (ce_30 w σ_1) rfl (by decide) (by decide) rfl ?_
    refine g_goto C 18 dL_shown_9 rfl ?_
    refine g_iconst (pc9 := 19) C rfl (nI (0)) dL_shown_18 rfl ?_
    exact g_xi (by decide) (by decide) (g_ireturn C hr hlk dL_shown_19 (Or.inl ⟨r_1, σ_1, q_1, rfl, rfl⟩))
set_option maxRecDepth 100000 in
set_option maxHeartbeats 4000000 in
theorem m_L_sign (l : Launch) (w : Wd) (sA : Nat → Nat) (σ : St) (x0 : Int32) {post : Int32 → St → Prop} {thr : String → St → Prop} (hM : MXI l yX10_sign wsX10_sign 6 2 w sA [.ref (w.1 31), .int x0] σ post thr) (hE : ∀ E σ9, thr E σ9 → ∃ n, (E, n) ∈ ([(xIAE, 1), (xUOE, 2)] : List (String × Nat))) : MWI l yL_sign wsL_sign 7 2 w sA [.ref (w.1 31), .int x0, .ref (w.1 30)] σ (WPi [(xIAE, 1), (xUOE, 2)] post thr) := by
  refine MWI_of (cc := cL_sign) (maxL := 4) (ret := .int) (hh := [(0, 9, 12, 15), (0, 9, 15, 62)]) (by decide) rfl (Nat.le_of_ble_eq_true rfl) ?_
  intro p e s m args below meth c A X hr hlk
  have X : CW p s m args c w sA A cL_sign RL 4 wsL_sign [(0, 9, 12, 15), (0, 9, 15, 62)] := X
  have C := X.1
  have hx : ∀ q ∈ ([(xIAE, 1), (xUOE, 2)] : List (String × Nat)), ∃ z ∈ ([((0, 9, 12, 15), xIAE), ((0, 9, 15, 62), xUOE)] : List ((Nat × Nat × Nat × Nat) × String)), z.2 = q.1 := by decide +kernel
  refine g_aload_n (pc9 := 1) C rfl 2 dL_sign_0 rfl rfl ?_
  refine g_iconst (pc9 := 2) C rfl (nI (0)) dL_sign_1 rfl ?_
  refine g_aload_n (pc9 := 3) C rfl 0 dL_sign_2 rfl rfl ?_
  refine g_iload_n (pc9 := 4) C rfl 1 dL_sign_3 rfl rfl ?_
  refine c_callVi (rest := [.int (nI (0)), .ref (w.1 30)]) X (pc9 := 7) rfl 31 [.int x0] (nn := 1) rfl dL_sign_4 hM gL_sign_X10_sign (by decide) (ce_31 w σ) rfl rfl rfl (by decide +kernel) ⟨by decide, by decide⟩ rfl (Nat.le_of_ble_eq_true rfl) ⟨by decide, by decide⟩ [((0, 9, 12, 15), xIAE), ((0, 9, 15, 62), xUOE)] rfl (by decide +kernel) (by decide +kernel) (fun E σ9 h => (hE E σ9 h).elim (fun _ h9 => hx _ h9)) ?_ (fun r_1 σ_1 q_1 => ?_)
  · intro z hz
    simp only [List.mem_cons, List.not_mem_nil, or_false] at hz
    rcases hz with rfl | rfl
    · intro σ9 q9 h9
      refine g_astore_n (pc9 := 13) C rfl [(3, .ref q9), (0, .ref (w.1 31)), (1, .int x0), (2, .ref (w.1 30))] dL_sign_12 rfl (by decide) rfl ?_
      refine g_iconst (pc9 := 14) C rfl (nI (1)) dL_sign_13 rfl ?_
      exact g_xi (by decide) (by decide) (g_ireturn C hr hlk dL_sign_14 (Or.inr ⟨xIAE, 1, by decide +kernel, h9, rfl⟩))
    · intro σ9 q9 h9
      refine g_astore_n (pc9 := 16) C rfl [(3, .ref q9), (0, .ref (w.1 31)), (1, .int x0), (2, .ref (w.1 30))] dL_sign_15 rfl (by decide) rfl ?_
      refine g_iconst (pc9 := 17) C rfl (nI (2)) dL_sign_16 rfl ?_
      exact g_xi (by decide) (by decide) (g_ireturn C hr hlk dL_sign_17 (Or.inr ⟨xUOE, 2, by decide +kernel, h9, rfl⟩))
  · have q_1 := q_1
    refine g_i2l (pc9 := 8) C rfl dL_sign_7 ?_
    refine g_last (pc9 := 9) C rfl 30 0 (jA σ_1 30) dL_sign_8 (by decide) (fun _ => rfl) (ce_30 w σ_1) rfl (by decide) (by decide) rfl ?_
    refine g_goto C 18 dL_sign_9 rfl ?_
    refine g_iconst (pc9 := 19) C rfl (nI (0)) dL_sign_18 rfl ?_
    exact g_xi (by decide) (by decide) (g_ireturn C hr hlk dL_sign_19 (Or.inl ⟨r_1, σ_1, q_1, rfl, rfl⟩))
set_option maxRecDepth 100000 in
set_option maxHeartbeats 4000000 in
theorem m_L_perfect (l : Launch) (w : Wd) (sA : Nat → Nat) (σ : St) (x0 x1 : Int32) {post : Int32 → St → Prop} {thr : String → St → Prop} (hM : MXI l yX10_perfect wsX10_perfect 7 2 w sA [.ref (w.1 31), .int x0, .int x1] σ post thr) (hE : ∀ E σ9, thr E σ9 → ∃ n, (E, n) ∈ ([(xIOB, 1), (xIAE, 2)] : List (String × Nat))) : MWI l yL_perfect wsL_perfect 8 2 w sA [.ref (w.1 31), .int x0, .int x1, .ref (w.1 30)] σ (WPi [(xIOB, 1), (xIAE, 2)] post thr) := by
  refine MWI_of (cc := cL_perfect) (maxL := 5) (ret := .int) (hh := [(0, 10, 13, 13), (0, 10, 17, 15)]) (by decide) rfl (Nat.le_of_ble_eq_true rfl) ?_
  intro p e s m args below meth c A X hr hlk
  have X : CW p s m args c w sA A cL_perfect RL 5 wsL_perfect [(0, 10, 13, 13), (0, 10, 17, 15)] := X
  have C := X.1
  have hx : ∀ q ∈ ([(xIOB, 1), (xIAE, 2)] : List (String × Nat)), ∃ z ∈ ([((0, 10, 13, 13), xIOB), ((0, 10, 17, 15), xIAE)] : List ((Nat × Nat × Nat × Nat) × String)), z.2 = q.1 := by decide +kernel
  refine g_aload_n (pc9 := 1) C rfl 3 dL_perfect_0 rfl rfl ?_
  refine g_iconst (pc9 := 2) C rfl (nI (0)) dL_perfect_1 rfl ?_
  refine g_aload_n (pc9 := 3) C rfl 0 dL_perfect_2 rfl rfl ?_
  refine g_iload_n (pc9 := 4) C rfl 1 dL_perfect_3 rfl rfl ?_
  refine g_iload_n (pc9 := 5) C rfl 2 dL_perfect_4 rfl rfl ?_
  refine c_callVi (rest := [.int (nI (0)), .ref (w.1 30)]) X (pc9 := 8) rfl 31 [.int x0, .int x1] (nn := 2) rfl dL_perfect_5 hM gL_perfect_X10_perfect (by decide) (ce_31 w σ) rfl rfl rfl (by decide +kernel) ⟨by decide, by decide⟩ rfl (Nat.le_of_ble_eq_true rfl) ⟨by decide, by decide⟩ [((0, 10, 13, 13), xIOB), ((0, 10, 17, 15), xIAE)] rfl (by decide +kernel) (by decide +kernel) (fun E σ9 h => (hE E σ9 h).elim (fun _ h9 => hx _ h9)) ?_ (fun r_1 σ_1 q_1 => ?_)
  · intro z hz
    simp only [List.mem_cons, List.not_mem_nil, or_false] at hz
    rcases hz with rfl | rfl
    · intro σ9 q9 h9
      refine g_astore (pc9 := 15) C rfl [(4, .ref q9), (0, .ref (w.1 31)), (1, .int x0), (2, .int x1), (3, .ref (w.1 30))] dL_perfect_13 (by decide) rfl ?_
      refine g_iconst (pc9 := 16) C rfl (nI (1)) dL_perfect_15 rfl ?_
      exact g_xi (by decide) (by decide) (g_ireturn C hr hlk dL_perfect_16 (Or.inr ⟨xIOB, 1, by decide +kernel, h9, rfl⟩))
    · intro σ9 q9 h9
      refine g_astore (pc9 := 19) C rfl [(4, .ref q9), (0, .ref (w.1 31)), (1, .int x0), (2, .int x1), (3, .ref (w.1 30))] dL_perfect_17 (by decide) rfl ?_
      refine g_iconst (pc9 := 20) C rfl (nI (2)) dL_perfect_19 rfl ?_
      exact g_xi (by decide) (by decide) (g_ireturn C hr hlk dL_perfect_20 (Or.inr ⟨xIAE, 2, by decide +kernel, h9, rfl⟩))
  · have q_1 := q_1
    refine g_i2l (pc9 := 9) C rfl dL_perfect_8 ?_
    refine g_last (pc9 := 10) C rfl 30 0 (jA σ_1 30) dL_perfect_9 (by decide) (fun _ => rfl) (ce_30 w σ_1) rfl (by decide) (by decide) rfl ?_
    refine g_goto C 21 dL_perfect_10 rfl ?_
    refine g_iconst (pc9 := 22) C rfl (nI (0)) dL_perfect_21 rfl ?_
    exact g_xi (by decide) (by decide) (g_ireturn C hr hlk dL_perfect_22 (Or.inl ⟨r_1, σ_1, q_1, rfl, rfl⟩))
set_option maxRecDepth 100000 in
set_option maxHeartbeats 4000000 in
theorem m_L_state (l : Launch) (w : Wd) (sA : Nat → Nat) (σ : St) (x0 x1 x2 : Int32) {post : St → Prop} {thr : String → St → Prop} (hM : MXV l yX10_state wsX10_state 7 3 w sA [.ref (w.1 31), .int x0, .int x1, .int x2] σ post thr) (hE : ∀ E σ9, thr E σ9 → ∃ n, (E, n) ∈ ([(xIOB, 1), (xIAE, 2)] : List (String × Nat))) : MWI l yL_state wsL_state 8 3 w sA [.ref (w.1 31), .int x0, .int x1, .int x2] σ (WPv [(xIOB, 1), (xIAE, 2)] post thr) := by
  refine MWI_of (cc := cL_state) (maxL := 5) (ret := .int) (hh := [(0, 7, 10, 13), (0, 7, 14, 15)]) (by decide) rfl (Nat.le_of_ble_eq_true rfl) ?_
  intro p e s m args below meth c A X hr hlk
  have X : CW p s m args c w sA A cL_state RL 5 wsL_state [(0, 7, 10, 13), (0, 7, 14, 15)] := X
  have C := X.1
  have hx : ∀ q ∈ ([(xIOB, 1), (xIAE, 2)] : List (String × Nat)), ∃ z ∈ ([((0, 7, 10, 13), xIOB), ((0, 7, 14, 15), xIAE)] : List ((Nat × Nat × Nat × Nat) × String)), z.2 = q.1 := by decide +kernel
  refine g_aload_n (pc9 := 1) C rfl 0 dL_state_0 rfl rfl ?_
  refine g_iload_n (pc9 := 2) C rfl 1 dL_state_1 rfl rfl ?_
  refine g_iload_n (pc9 := 3) C rfl 2 dL_state_2 rfl rfl ?_
  refine g_iload_n (pc9 := 4) C rfl 3 dL_state_3 rfl rfl ?_
  refine c_callVv (rest := []) X (pc9 := 7) rfl 31 [.int x0, .int x1, .int x2] (nn := 3) rfl dL_state_4 hM gL_state_X10_state (by decide) (ce_31 w σ) rfl rfl rfl (by decide +kernel) ⟨by decide, by decide⟩ rfl (Nat.le_of_ble_eq_true rfl) ⟨by decide, by decide⟩ [((0, 7, 10, 13), xIOB), ((0, 7, 14, 15), xIAE)] rfl (by decide +kernel) (by decide +kernel) (fun E σ9 h => (hE E σ9 h).elim (fun _ h9 => hx _ h9)) ?_ (fun σ_1 q_1 => ?_)
  · intro z hz
    simp only [List.mem_cons, List.not_mem_nil, or_false] at hz
    rcases hz with rfl | rfl
    · intro σ9 q9 h9
      refine g_astore (pc9 := 12) C rfl [(4, .ref q9), (0, .ref (w.1 31)), (1, .int x0), (2, .int x1), (3, .int x2)] dL_state_10 (by decide) rfl ?_
      refine g_iconst (pc9 := 13) C rfl (nI (1)) dL_state_12 rfl ?_
      exact g_xi (by decide) (by decide) (g_ireturn C hr hlk dL_state_13 (Or.inr ⟨xIOB, 1, by decide +kernel, h9, rfl⟩))
    · intro σ9 q9 h9
      refine g_astore (pc9 := 16) C rfl [(4, .ref q9), (0, .ref (w.1 31)), (1, .int x0), (2, .int x1), (3, .int x2)] dL_state_14 (by decide) rfl ?_
      refine g_iconst (pc9 := 17) C rfl (nI (2)) dL_state_16 rfl ?_
      exact g_xi (by decide) (by decide) (g_ireturn C hr hlk dL_state_17 (Or.inr ⟨xIAE, 2, by decide +kernel, h9, rfl⟩))
  · have q_1 := q_1
    refine g_goto C 18 dL_state_7 rfl ?_
    refine g_iconst (pc9 := 19) C rfl (nI (0)) dL_state_18 rfl ?_
    exact g_xi (by decide) (by decide) (g_ireturn C hr hlk dL_state_19 (Or.inl ⟨q_1, rfl⟩))

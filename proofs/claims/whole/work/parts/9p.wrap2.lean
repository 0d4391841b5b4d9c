/-! The law's wrappers -/
set_option maxRecDepth 100000 in
set_option maxHeartbeats 4000000 in
theorem m_L_changes (l : Launch) (w : Wd) (sA : Nat → Nat) (σ : St) (x0 x1 : Int32) {post : Int32 → St → Prop} {thr : String → St → Prop} (hM : MXI l yX10_changes wsX10_changes 8 3 w sA [.ref (w.1 31), .int x0, .int x1] σ post thr) (hE : ∀ E σ9, thr E σ9 → ∃ n, (E, n) ∈ ([(xIOB, 1), (xISE, 2), (xIAE, 3)] : List (String × Nat))) : MWI l yL_changes wsL_changes 9 3 w sA [.ref (w.1 31), .int x0, .int x1, .ref (w.1 30)] σ (WPi [(xIOB, 1), (xISE, 2), (xIAE, 3)] post thr) := by
  refine MWI_of (cc := cL_changes) (maxL := 5) (ret := .int) (hh := [(0, 10, 13, 13), (0, 10, 17, 20), (0, 10, 21, 15)]) (by decide) rfl (Nat.le_of_ble_eq_true rfl) ?_
  intro p e s m args below meth c A X hr hlk
  have X : CW p s m args c w sA A cL_changes RL 5 wsL_changes [(0, 10, 13, 13), (0, 10, 17, 20), (0, 10, 21, 15)] := X
  have C := X.1
  have hx : ∀ q ∈ ([(xIOB, 1), (xISE, 2), (xIAE, 3)] : List (String × Nat)), ∃ z ∈ ([((0, 10, 13, 13), xIOB), ((0, 10, 17, 20), xISE), ((0, 10, 21, 15), xIAE)] : List ((Nat × Nat × Nat × Nat) × String)), z.2 = q.1 := by decide +kernel
  refine g_aload_n (pc9 := 1) C rfl 3 dL_changes_0 rfl rfl ?_
  refine g_iconst (pc9 := 2) C rfl (nI (0)) dL_changes_1 rfl ?_
  refine g_aload_n (pc9 := 3) C rfl 0 dL_changes_2 rfl rfl ?_
  refine g_iload_n (pc9 := 4) C rfl 1 dL_changes_3 rfl rfl ?_
  refine g_iload_n (pc9 := 5) C rfl 2 dL_changes_4 rfl rfl ?_
  refine c_callVi (rest := [.int (nI (0)), .ref (w.1 30)]) X (pc9 := 8) rfl 31 [.int x0, .int x1] (nn := 2) rfl dL_changes_5 hM gL_changes_X10_changes (by decide) (ce_31 w σ) rfl rfl rfl (by decide +kernel) ⟨by decide, by decide⟩ rfl (Nat.le_of_ble_eq_true rfl) ⟨by decide, by decide⟩ [((0, 10, 13, 13), xIOB), ((0, 10, 17, 20), xISE), ((0, 10, 21, 15), xIAE)] rfl (by decide +kernel) (by decide +kernel) (fun E σ9 h => (hE E σ9 h).elim (fun _ h9 => hx _ h9)) ?_ (fun r_1 σ_1 q_1 => ?_)
  · intro z hz
    simp only [List.mem_cons, List.not_mem_nil, or_false] at hz
    rcases hz with rfl | rfl | rfl
    · intro σ9 q9 h9
      refine g_astore (pc9 := 15) C rfl [(4, .ref q9), (0, .ref (w.1 31)), (1, .int x0), (2, .int x1), (3, .ref (w.1 30))] dL_changes_13 (by decide) rfl ?_
      refine g_iconst (pc9 := 16) C rfl (nI (1)) dL_changes_15 rfl ?_
      exact g_xi (by decide) (by decide) (g_ireturn C hr hlk dL_changes_16 (Or.inr ⟨xIOB, 1, by decide +kernel, h9, rfl⟩))
    · intro σ9 q9 h9
      refine g_astore (pc9 := 19) C rfl [(4, .ref q9), (0, .ref (w.1 31)), (1, .int x0), (2, .int x1), (3, .ref (w.1 30))] dL_changes_17 (by decide) rfl ?_
      refine g_iconst (pc9 := 20) C rfl (nI (2)) dL_changes_19 rfl ?_
      exact g_xi (by decide) (by decide) (g_ireturn C hr hlk dL_changes_20 (Or.inr ⟨xISE, 2, by decide +kernel, h9, rfl⟩))
    · intro σ9 q9 h9
      refine g_astore (pc9 := 23) C rfl [(4, .ref q9), (0, .ref (w.1 31)), (1, .int x0), (2, .int x1), (3, .ref (w.1 30))] dL_changes_21 (by decide) rfl ?_
      refine g_iconst (pc9 := 24) C rfl (nI (3)) dL_changes_23 rfl ?_
      exact g_xi (by decide) (by decide) (g_ireturn C hr hlk dL_changes_24 (Or.inr ⟨xIAE, 3, by decide +kernel, h9, rfl⟩))
  · have q_1 := q_1
    refine g_i2l (pc9 := 9) C rfl dL_changes_8 ?_
    refine g_last (pc9 := 10) C rfl 30 0 (jA σ_1 30) dL_changes_9 (by decide) (fun _ => rfl) (ce_30 w σ_1) rfl (by decide) (by decide) rfl ?_
    refine g_goto C 25 dL_changes_10 rfl ?_
    refine g_iconst (pc9 := 26) C rfl (nI (0)) dL_changes_25 rfl ?_
    exact g_xi (by decide) (by decide) (g_ireturn C hr hlk dL_changes_26 (Or.inl ⟨r_1, σ_1, q_1, rfl, rfl⟩))
set_option maxRecDepth 100000 in
set_option maxHeartbeats 4000000 in
theorem m_L_kinds (l : Launch) (w : Wd) (sA : Nat → Nat) (σ : St) (x0 : Int32) {post : St → Prop} {thr : String → St → Prop} (hM : MXV l yX10_kinds wsX10_kinds 6 1 w sA [.ref (w.1 31), .int x0] σ post thr) (hE : ∀ E σ9, thr E σ9 → ∃ n, (E, n) ∈ ([(xIAE, 1)] : List (String × Nat))) : MWI l yL_kinds wsL_kinds 7 1 w sA [.ref (w.1 31), .int x0] σ (WPv [(xIAE, 1)] post thr) := by
  refine MWI_of (cc := cL_kinds) (maxL := 3) (ret := .int) (hh := [(0, 5, 8, 15)]) (by decide) rfl (Nat.le_of_ble_eq_true rfl) ?_
  intro p e s m args below meth c A X hr hlk
  have X : CW p s m args c w sA A cL_kinds RL 3 wsL_kinds [(0, 5, 8, 15)] := X
  have C := X.1
  have hx : ∀ q ∈ ([(xIAE, 1)] : List (String × Nat)), ∃ z ∈ ([((0, 5, 8, 15), xIAE)] : List ((Nat × Nat × Nat × Nat) × String)), z.2 = q.1 := by decide +kernel
  refine g_aload_n (pc9 := 1) C rfl 0 dL_kinds_0 rfl rfl ?_
  refine g_iload_n (pc9 := 2) C rfl 1 dL_kinds_1 rfl rfl ?_
  refine c_callVv (rest := []) X (pc9 := 5) rfl 31 [.int x0] (nn := 1) rfl dL_kinds_2 hM gL_kinds_X10_kinds (by decide) (ce_31 w σ) rfl rfl rfl (by decide +kernel) ⟨by decide, by decide⟩ rfl (Nat.le_of_ble_eq_true rfl) ⟨by decide, by decide⟩ [((0, 5, 8, 15), xIAE)] rfl (by decide +kernel) (by decide +kernel) (fun E σ9 h => (hE E σ9 h).elim (fun _ h9 => hx _ h9)) ?_ (fun σ_1 q_1 => ?_)
  · intro z hz
    simp only [List.mem_cons, List.not_mem_nil, or_false] at hz
    rcases hz with rfl
    · intro σ9 q9 h9
      refine g_astore_n (pc9 := 9) C rfl [(2, .ref q9), (0, .ref (w.1 31)), (1, .int x0)] dL_kinds_8 rfl (by decide) rfl ?_
      refine g_iconst (pc9 := 10) C rfl (nI (1)) dL_kinds_9 rfl ?_
      exact g_xi (by decide) (by decide) (g_ireturn C hr hlk dL_kinds_10 (Or.inr ⟨xIAE, 1, by decide +kernel, h9, rfl⟩))
  · have q_1 := q_1
    refine g_goto C 11 dL_kinds_5 rfl ?_
    refine g_iconst (pc9 := 12) C rfl (nI (0)) dL_kinds_11 rfl ?_
    exact g_xi (by decide) (by decide) (g_ireturn C hr hlk dL_kinds_12 (Or.inl ⟨q_1, rfl⟩))
set_option maxRecDepth 100000 in
set_option maxHeartbeats 4000000 in
theorem m_L_distance (l : Launch) (w : Wd) (sA : Nat → Nat) (σ : St) (x0 x1 x2 : Int32) {post : St → Prop} {thr : String → St → Prop} (hM : MXV l yX10_distance wsX10_distance 7 4 w sA [.ref (w.1 31), .int x0, .int x1, .int x2] σ post thr) (hE : ∀ E σ9, thr E σ9 → ∃ n, (E, n) ∈ ([(xIOB, 1), (xIAE, 2)] : List (String × Nat))) : MWI l yL_distance wsL_distance 8 4 w sA [.ref (w.1 31), .int x0, .int x1, .int x2] σ (WPv [(xIOB, 1), (xIAE, 2)] post thr) := by
  refine MWI_of (cc := cL_distance) (maxL := 5) (ret := .int) (hh := [(0, 7, 10, 13), (0, 7, 14, 15)]) (by decide) rfl (Nat.le_of_ble_eq_true rfl) ?_
  intro p e s m args below meth c A X hr hlk
  have X : CW p s m args c w sA A cL_distance RL 5 wsL_distance [(0, 7, 10, 13), (0, 7, 14, 15)] := X
  have C := X.1
  have hx : ∀ q ∈ ([(xIOB, 1), (xIAE, 2)] : List (String × Nat)), ∃ z ∈ ([((0, 7, 10, 13), xIOB), ((0, 7, 14, 15), xIAE)] : List ((Nat × Nat × Nat × Nat) × String)), z.2 = q.1 := by decide +kernel
  refine g_aload_n (pc9 := 1) C rfl 0 dL_distance_0 rfl rfl ?_
  refine g_iload_n (pc9 := 2) C rfl 1 dL_distance_1 rfl rfl ?_
  refine g_iload_n (pc9 := 3) C rfl 2 dL_distance_2 rfl rfl ?_
  refine g_iload_n (pc9 := 4) C rfl 3 dL_distance_3 rfl rfl ?_
  refine c_callVv (rest := []) X (pc9 := 7) rfl 31 [.int x0, .int x1, .int x2] (nn := 3) rfl dL_distance_4 hM gL_distance_X10_distance (by decide) (ce_31 w σ) rfl rfl rfl (by decide +kernel) ⟨by decide, by decide⟩ rfl (Nat.le_of_ble_eq_true rfl) ⟨by decide, by decide⟩ [((0, 7, 10, 13), xIOB), ((0, 7, 14, 15), xIAE)] rfl (by decide +kernel) (by decide +kernel) (fun E σ9 h => (hE E σ9 h).elim (fun _ h9 => hx _ h9)) ?_ (fun σ_1 q_1 => ?_)
  · intro z hz
    simp only [List.mem_cons, List.not_mem_nil, or_false] at hz
    rcases hz with rfl | rfl
    · intro σ9 q9 h9
      refine g_astore (pc9 := 12) C rfl [(4, .ref q9), (0, .ref (w.1 31)), (1, .int x0), (2, .int x1), (3, .int x2)] dL_distance_10 (by decide) rfl ?_
      refine g_iconst (pc9 := 13) C rfl (nI (1)) dL_distance_12 rfl ?_
      exact g_xi (by decide) (by decide) (g_ireturn C hr hlk dL_distance_13 (Or.inr ⟨xIOB, 1, by decide +kernel, h9, rfl⟩))
    · intro σ9 q9 h9
      refine g_astore (pc9 := 16) C rfl [(4, .ref q9), (0, .ref (w.1 31)), (1, .int x0), (2, .int x1), (3, .int x2)] dL_distance_14 (by decide) rfl ?_
      refine g_iconst (pc9 := 17) C rfl (nI (2)) dL_distance_16 rfl ?_
      exact g_xi (by decide) (by decide) (g_ireturn C hr hlk dL_distance_17 (Or.inr ⟨xIAE, 2, by decide +kernel, h9, rfl⟩))
  · have q_1 := q_1
    refine g_goto C 18 dL_distance_7 rfl ?_
    refine g_iconst (pc9 := 19) C rfl (nI (0)) dL_distance_18 rfl ?_
    exact g_xi (by decide) (by decide) (g_ireturn C hr hlk dL_distance_19 (Or.inl ⟨q_1, rfl⟩))
set_option maxRecDepth 100000 in
set_option maxHeartbeats 4000000 in
theorem m_L_clock (l : Launch) (w : Wd) (sA : Nat → Nat) (σ : St) (x0 : Int32) {post : Int32 → St → Prop} {thr : String → St → Prop} (hM : MXI l yX10_clock wsX10_clock 7 1 w sA [.ref (w.1 31), .int x0] σ post thr) (hE : ∀ E σ9, thr E σ9 → ∃ n, (E, n) ∈ ([(xIOB, 1)] : List (String × Nat))) : MWI l yL_clock wsL_clock 8 1 w sA [.ref (w.1 31), .int x0, .ref (w.1 30)] σ (WPz [(xIOB, 1)] post thr) := by
  refine MWI_of (cc := cL_clock) (maxL := 4) (ret := .int) (hh := [(0, 16, 19, 13)]) (by decide) rfl (Nat.le_of_ble_eq_true rfl) ?_
  intro p e s m args below meth c A X hr hlk
  have X : CW p s m args c w sA A cL_clock RL 4 wsL_clock [(0, 16, 19, 13)] := X
  have C := X.1
  have hx : ∀ q ∈ ([(xIOB, 1)] : List (String × Nat)), ∃ z ∈ ([((0, 16, 19, 13), xIOB)] : List ((Nat × Nat × Nat × Nat) × String)), z.2 = q.1 := by decide +kernel
  refine g_aload_n (pc9 := 1) C rfl 2 dL_clock_0 rfl rfl ?_
  refine g_iconst (pc9 := 2) C rfl (nI (0)) dL_clock_1 rfl ?_
  refine g_aload_n (pc9 := 3) C rfl 0 dL_clock_2 rfl rfl ?_
  refine g_iload_n (pc9 := 4) C rfl 1 dL_clock_3 rfl rfl ?_
  refine c_callVi (rest := [.int (nI (0)), .ref (w.1 30)]) X (pc9 := 7) rfl 31 [.int x0] (nn := 1) rfl dL_clock_4 hM gL_clock_X10_clock (by decide) (ce_31 w σ) rfl rfl rfl (by decide +kernel) ⟨by decide, by decide⟩ rfl (Nat.le_of_ble_eq_true rfl) ⟨by decide, by decide⟩ [((0, 16, 19, 13), xIOB)] rfl (by decide +kernel) (by decide +kernel) (fun E σ9 h => (hE E σ9 h).elim (fun _ h9 => hx _ h9)) ?_ (fun r_1 σ_1 q_1 => ?_)
  · intro z hz
    simp only [List.mem_cons, List.not_mem_nil, or_false] at hz
    rcases hz with rfl
    · intro σ9 q9 h9
      refine g_astore_n (pc9 := 20) C rfl [(3, .ref q9), (0, .ref (w.1 31)), (1, .int x0), (2, .ref (w.1 30))] dL_clock_19 rfl (by decide) rfl ?_
      refine g_iconst (pc9 := 21) C rfl (nI (1)) dL_clock_20 rfl ?_
      exact g_xi (by decide) (by decide) (g_ireturn C hr hlk dL_clock_21 (Or.inr ⟨xIOB, 1, by decide +kernel, h9, rfl⟩))
  · have q_1 := q_1
    refine g_if_eq (pc9 := 10) C rfl 14 dL_clock_7 rfl (fun c_1 => ?_) (fun c_1 => ?_)
    · refine g_lconst (pc9 := 15) C rfl (0) dL_clock_14 rfl ?_
      refine g_last (pc9 := 16) C rfl 30 0 (jA σ_1 30) dL_clock_15 (by decide) (fun _ => rfl) (ce_30 w σ_1) rfl (by decide) (by decide) rfl ?_
      refine g_goto C 22 dL_clock_16 rfl ?_
      refine g_iconst (pc9 := 23) C rfl (nI (0)) dL_clock_22 rfl ?_
      exact g_xi (by decide) (by decide) (g_ireturn C hr hlk dL_clock_23 (Or.inl ⟨r_1, σ_1, q_1, rfl, by rw [if_pos c_1]⟩))
    · refine g_lconst (pc9 := 11) C rfl (1) dL_clock_10 rfl ?_
      refine g_goto C 15 dL_clock_11 rfl ?_
      refine g_last (pc9 := 16) C rfl 30 0 (jA σ_1 30) dL_clock_15 (by decide) (fun _ => rfl) (ce_30 w σ_1) rfl (by decide) (by decide) rfl ?_
      refine g_goto C 22 dL_clock_16 rfl ?_
      refine g_iconst (pc9 := 23) C rfl (nI (0)) dL_clock_22 rfl ?_
      exact g_xi (by decide) (by decide) (g_ireturn C hr hlk dL_clock_23 (Or.inl ⟨r_1, σ_1, q_1, rfl, by rw [if_neg c_1]⟩))
set_option maxRecDepth 100000 in
set_option maxHeartbeats 4000000 in
theorem m_L_nearest (l : Launch) (w : Wd) (sA : Nat → Nat) (σ : St) (x0 : Int32) {post : St → Prop} {thr : String → St → Prop} (hM : MXV l yX10_nearest wsX10_nearest 7 1 w sA [.ref (w.1 31), .int x0] σ post thr) (hE : ∀ E σ9, thr E σ9 → ∃ n, (E, n) ∈ ([(xIOB, 1)] : List (String × Nat))) : MWI l yL_nearest wsL_nearest 8 1 w sA [.ref (w.1 31), .int x0] σ (WPv [(xIOB, 1)] post thr) := by
  refine MWI_of (cc := cL_nearest) (maxL := 3) (ret := .int) (hh := [(0, 5, 8, 13)]) (by decide) rfl (Nat.le_of_ble_eq_true rfl) ?_
  intro p e s m args below meth c A X hr hlk
  have X : CW p s m args c w sA A cL_nearest RL 3 wsL_nearest [(0, 5, 8, 13)] := X
  have C := X.1
  have hx : ∀ q ∈ ([(xIOB, 1)] : List (String × Nat)), ∃ z ∈ ([((0, 5, 8, 13), xIOB)] : List ((Nat × Nat × Nat × Nat) × String)), z.2 = q.1 := by decide +kernel
  refine g_aload_n (pc9 := 1) C rfl 0 dL_nearest_0 rfl rfl ?_
  refine g_iload_n (pc9 := 2) C rfl 1 dL_nearest_1 rfl rfl ?_
  refine c_callVv (rest := []) X (pc9 := 5) rfl 31 [.int x0] (nn := 1) rfl dL_nearest_2 hM gL_nearest_X10_nearest (by decide) (ce_31 w σ) rfl rfl rfl (by decide +kernel) ⟨by decide, by decide⟩ rfl (Nat.le_of_ble_eq_true rfl) ⟨by decide, by decide⟩ [((0, 5, 8, 13), xIOB)] rfl (by decide +kernel) (by decide +kernel) (fun E σ9 h => (hE E σ9 h).elim (fun _ h9 => hx _ h9)) ?_ (fun σ_1 q_1 => ?_)
  · intro z hz
    simp only [List.mem_cons, List.not_mem_nil, or_false] at hz
    rcases hz with rfl
    · intro σ9 q9 h9
      refine g_astore_n (pc9 := 9) C rfl [(2, .ref q9), (0, .ref (w.1 31)), (1, .int x0)] dL_nearest_8 rfl (by decide) rfl ?_
      refine g_iconst (pc9 := 10) C rfl (nI (1)) dL_nearest_9 rfl ?_
      exact g_xi (by decide) (by decide) (g_ireturn C hr hlk dL_nearest_10 (Or.inr ⟨xIOB, 1, by decide +kernel, h9, rfl⟩))
  · have q_1 := q_1
    refine g_goto C 11 dL_nearest_5 rfl ?_
    refine g_iconst (pc9 := 12) C rfl (nI (0)) dL_nearest_11 rfl ?_
    exact g_xi (by decide) (by decide) (g_ireturn C hr hlk dL_nearest_12 (Or.inl ⟨q_1, rfl⟩))
set_option maxRecDepth 100000 in
set_option maxHeartbeats 4000000 in
theorem m_L_doublings (l : Launch) (w : Wd) (sA : Nat → Nat) (σ : St) (x0 x1 : Int32) {post : Int32 → St → Prop} {thr : String → St → Prop} (hM : MXI l yX10_doublings wsX10_doublings 9 6 w sA [.ref (w.1 31), .int x0, .int x1] σ post thr) (hE : ∀ E σ9, thr E σ9 → ∃ n, (E, n) ∈ ([(xIOB, 1), (xISE, 2)] : List (String × Nat))) : MWI l yL_doublings wsL_doublings 10 6 w sA [.ref (w.1 31), .int x0, .int x1, .ref (w.1 30)] σ (WPi [(xIOB, 1), (xISE, 2)] post thr) := by
  refine MWI_of (cc := cL_doublings) (maxL := 5) (ret := .int) (hh := [(0, 10, 13, 13), (0, 10, 17, 20)]) (by decide) rfl (Nat.le_of_ble_eq_true rfl) ?_
  intro p e s m args below meth c A X hr hlk
  have X : CW p s m args c w sA A cL_doublings RL 5 wsL_doublings [(0, 10, 13, 13), (0, 10, 17, 20)] := X
  have C := X.1
  have hx : ∀ q ∈ ([(xIOB, 1), (xISE, 2)] : List (String × Nat)), ∃ z ∈ ([((0, 10, 13, 13), xIOB), ((0, 10, 17, 20), xISE)] : List ((Nat × Nat × Nat × Nat) × String)), z.2 = q.1 := by decide +kernel
  refine g_aload_n (pc9 := 1) C rfl 3 dL_doublings_0 rfl rfl ?_
  refine g_iconst (pc9 := 2) C rfl (nI (0)) dL_doublings_1 rfl ?_
  refine g_aload_n (pc9 := 3) C rfl 0 dL_doublings_2 rfl rfl ?_
  refine g_iload_n (pc9 := 4) C rfl 1 dL_doublings_3 rfl rfl ?_
  refine g_iload_n (pc9 := 5) C rfl 2 dL_doublings_4 rfl rfl ?_
  refine c_callVi (rest := [.int (nI (0)), .ref (w.1 30)]) X (pc9 := 8) rfl 31 [.int x0, .int x1] (nn := 2) rfl dL_doublings_5 hM gL_doublings_X10_doublings (by decide) (ce_31 w σ) rfl rfl rfl (by decide +kernel) ⟨by decide, by decide⟩ rfl (Nat.le_of_ble_eq_true rfl) ⟨by decide, by decide⟩ [((0, 10, 13, 13), xIOB), ((0, 10, 17, 20), xISE)] rfl (by decide +kernel) (by decide +kernel) (fun E σ9 h => (hE E σ9 h).elim (fun _ h9 => hx _ h9)) ?_ (fun r_1 σ_1 q_1 => ?_)
  · intro z hz
    simp only [List.mem_cons, List.not_mem_nil, or_false] at hz
    rcases hz with rfl | rfl
    · intro σ9 q9 h9
      refine g_astore (pc9 := 15) C rfl [(4, .ref q9), (0, .ref (w.1 31)), (1, .int x0), (2, .int x1), (3, .ref (w.1 30))] dL_doublings_13 (by decide) rfl ?_
      refine g_iconst (pc9 := 16) C rfl (nI (1)) dL_doublings_15 rfl ?_
      exact g_xi (by decide) (by decide) (g_ireturn C hr hlk dL_doublings_16 (Or.inr ⟨xIOB, 1, by decide +kernel, h9, rfl⟩))
    · intro σ9 q9 h9
      refine g_astore (pc9 := 19) C rfl [(4, .ref q9), (0, .ref (w.1 31)), (1, .int x0), (2, .int x1), (3, .ref (w.1 30))] dL_doublings_17 (by decide) rfl ?_
      refine g_iconst (pc9 := 20) C rfl (nI (2)) dL_doublings_19 rfl ?_
      exact g_xi (by decide) (by decide) (g_ireturn C hr hlk dL_doublings_20 (Or.inr ⟨xISE, 2, by decide +kernel, h9, rfl⟩))
  · have q_1 := q_1
    refine g_i2l (pc9 := 9) C rfl dL_doublings_8 ?_
    refine g_last (pc9 := 10) C rfl 30 0 (jA σ_1 30) dL_doublings_9 (by decide) (fun _ => rfl) (ce_30 w σ_1) rfl (by decide) (by decide) rfl ?_
    refine g_goto C 21 dL_doublings_10 rfl ?_
    refine g_iconst (pc9 := 22) C rfl (nI (0)) dL_doublings_21 rfl ?_
    exact g_xi (by decide) (by decide) (g_ireturn C hr hlk dL_doublings_22 (Or.inl ⟨r_1, σ_1, q_1, rfl, rfl⟩))
set_option maxRecDepth 100000 in
set_option maxHeartbeats 4000000 in
theorem m_L_losses (l : Launch) (w : Wd) (sA : Nat → Nat) (σ : St) (x0 x1 : Int32) {post : Int32 → St → Prop} {thr : String → St → Prop} (hM : MXI l yX10_losses wsX10_losses 9 6 w sA [.ref (w.1 31), .int x0, .int x1] σ post thr) (hE : ∀ E σ9, thr E σ9 → ∃ n, (E, n) ∈ ([(xIOB, 1), (xISE, 2)] : List (String × Nat))) : MWI l yL_losses wsL_losses 10 6 w sA [.ref (w.1 31), .int x0, .int x1, .ref (w.1 30)] σ (WPi [(xIOB, 1), (xISE, 2)] post thr) := by
  refine MWI_of (cc := cL_losses) (maxL := 5) (ret := .int) (hh := [(0, 10, 13, 13), (0, 10, 17, 20)]) (by decide) rfl (Nat.le_of_ble_eq_true rfl) ?_
  intro p e s m args below meth c A X hr hlk
  have X : CW p s m args c w sA A cL_losses RL 5 wsL_losses [(0, 10, 13, 13), (0, 10, 17, 20)] := X
  have C := X.1
  have hx : ∀ q ∈ ([(xIOB, 1), (xISE, 2)] : List (String × Nat)), ∃ z ∈ ([((0, 10, 13, 13), xIOB), ((0, 10, 17, 20), xISE)] : List ((Nat × Nat × Nat × Nat) × String)), z.2 = q.1 := by decide +kernel
  refine g_aload_n (pc9 := 1) C rfl 3 dL_losses_0 rfl rfl ?_
  refine g_iconst (pc9 := 2) C rfl (nI (0)) dL_losses_1 rfl ?_
  refine g_aload_n (pc9 := 3) C rfl 0 dL_losses_2 rfl rfl ?_
  refine g_iload_n (pc9 := 4) C rfl 1 dL_losses_3 rfl rfl ?_
  refine g_iload_n (pc9 := 5) C rfl 2 dL_losses_4 rfl rfl ?_
  refine c_callVi (rest := [.int (nI (0)), .ref (w.1 30)]) X (pc9 := 8) rfl 31 [.int x0, .int x1] (nn := 2) rfl dL_losses_5 hM gL_losses_X10_losses (by decide) (ce_31 w σ) rfl rfl rfl (by decide +kernel) ⟨by decide, by decide⟩ rfl (Nat.le_of_ble_eq_true rfl) ⟨by decide, by decide⟩ [((0, 10, 13, 13), xIOB), ((0, 10, 17, 20), xISE)] rfl (by decide +kernel) (by decide +kernel) (fun E σ9 h => (hE E σ9 h).elim (fun _ h9 => hx _ h9)) ?_ (fun r_1 σ_1 q_1 => ?_)
  · intro z hz
    simp only [List.mem_cons, List.not_mem_nil, or_false] at hz
    rcases hz with rfl | rfl
    · intro σ9 q9 h9
      refine g_astore (pc9 := 15) C rfl [(4, .ref q9), (0, .ref (w.1 31)), (1, .int x0), (2, .int x1), (3, .ref (w.1 30))] dL_losses_13 (by decide) rfl ?_
      refine g_iconst (pc9 := 16) C rfl (nI (1)) dL_losses_15 rfl ?_
      exact g_xi (by decide) (by decide) (g_ireturn C hr hlk dL_losses_16 (Or.inr ⟨xIOB, 1, by decide +kernel, h9, rfl⟩))
    · intro σ9 q9 h9
      refine g_astore (pc9 := 19) C rfl [(4, .ref q9), (0, .ref (w.1 31)), (1, .int x0), (2, .int x1), (3, .ref (w.1 30))] dL_losses_17 (by decide) rfl ?_
      refine g_iconst (pc9 := 20) C rfl (nI (2)) dL_losses_19 rfl ?_
      exact g_xi (by decide) (by decide) (g_ireturn C hr hlk dL_losses_20 (Or.inr ⟨xISE, 2, by decide +kernel, h9, rfl⟩))
  · have q_1 := q_1
    refine g_i2l (pc9 := 9) C rfl dL_losses_8 ?_
    refine g_last (pc9 := 10) C rfl 30 0 (jA σ_1 30) dL_losses_9 (by decide) (fun _ => rfl) (ce_30 w σ_1) rfl (by decide) (by decide) rfl ?_
    refine g_goto C 21 dL_losses_10 rfl ?_
    refine g_iconst (pc9 := 22) C rfl (nI (0)) dL_losses_21 rfl ?_
    exact g_xi (by decide) (by decide) (g_ireturn C hr hlk dL_losses_22 (Or.inl ⟨r_1, σ_1, q_1, rfl, rfl⟩))
set_option maxRecDepth 100000 in
set_option maxHeartbeats 4000000 in
theorem m_L_orders (l : Launch) (w : Wd) (sA : Nat → Nat) (σ : St) (x0 : Int32) {post : Int64 → St → Prop} {thr : String → St → Prop} (hM : MXL l yX10_orders wsX10_orders 8 2 w sA [.ref (w.1 31), .int x0] σ post thr) (hE : ∀ E σ9, thr E σ9 → ∃ n, (E, n) ∈ ([(xIOB, 1), (xISE, 2)] : List (String × Nat))) : MWI l yL_orders wsL_orders 9 2 w sA [.ref (w.1 31), .int x0, .ref (w.1 30)] σ (WPl [(xIOB, 1), (xISE, 2)] post thr) := by
  refine MWI_of (cc := cL_orders) (maxL := 4) (ret := .int) (hh := [(0, 8, 11, 13), (0, 8, 14, 20)]) (by decide) rfl (Nat.le_of_ble_eq_true rfl) ?_
  intro p e s m args below meth c A X hr hlk
  have X : CW p s m args c w sA A cL_orders RL 4 wsL_orders [(0, 8, 11, 13), (0, 8, 14, 20)] := X
  have C := X.1
  have hx : ∀ q ∈ ([(xIOB, 1), (xISE, 2)] : List (String × Nat)), ∃ z ∈ ([((0, 8, 11, 13), xIOB), ((0, 8, 14, 20), xISE)] : List ((Nat × Nat × Nat × Nat) × String)), z.2 = q.1 := by decide +kernel
  refine g_aload_n (pc9 := 1) C rfl 2 dL_orders_0 rfl rfl ?_
  refine g_iconst (pc9 := 2) C rfl (nI (0)) dL_orders_1 rfl ?_
  refine g_aload_n (pc9 := 3) C rfl 0 dL_orders_2 rfl rfl ?_
  refine g_iload_n (pc9 := 4) C rfl 1 dL_orders_3 rfl rfl ?_
  refine c_callVl (rest := [.int (nI (0)), .ref (w.1 30)]) X (pc9 := 7) rfl 31 [.int x0] (nn := 1) rfl dL_orders_4 hM gL_orders_X10_orders (by decide) (ce_31 w σ) rfl rfl rfl (by decide +kernel) ⟨by decide, by decide⟩ rfl (Nat.le_of_ble_eq_true rfl) ⟨by decide, by decide⟩ [((0, 8, 11, 13), xIOB), ((0, 8, 14, 20), xISE)] rfl (by decide +kernel) (by decide +kernel) (fun E σ9 h => (hE E σ9 h).elim (fun _ h9 => hx _ h9)) ?_ (fun r_1 σ_1 q_1 => ?_)
  · intro z hz
    simp only [List.mem_cons, List.not_mem_nil, or_false] at hz
    rcases hz with rfl | rfl
    · intro σ9 q9 h9
      refine g_astore_n (pc9 := 12) C rfl [(3, .ref q9), (0, .ref (w.1 31)), (1, .int x0), (2, .ref (w.1 30))] dL_orders_11 rfl (by decide) rfl ?_
      refine g_iconst (pc9 := 13) C rfl (nI (1)) dL_orders_12 rfl ?_
      exact g_xi (by decide) (by decide) (g_ireturn C hr hlk dL_orders_13 (Or.inr ⟨xIOB, 1, by decide +kernel, h9, rfl⟩))
    · intro σ9 q9 h9
      refine g_astore_n (pc9 := 15) C rfl [(3, .ref q9), (0, .ref (w.1 31)), (1, .int x0), (2, .ref (w.1 30))] dL_orders_14 rfl (by decide) rfl ?_
      refine g_iconst (pc9 := 16) C rfl (nI (2)) dL_orders_15 rfl ?_
      exact g_xi (by decide) (by decide) (g_ireturn C hr hlk dL_orders_16 (Or.inr ⟨xISE, 2, by decide +kernel, h9, rfl⟩))
  · have q_1 := q_1
    refine g_last (pc9 := 8) C rfl 30 0 (jA σ_1 30) dL_orders_7 (by decide) (fun _ => rfl) (ce_30 w σ_1) rfl (by decide) (by decide) rfl ?_
    refine g_goto C 17 dL_orders_8 rfl ?_
    refine g_iconst (pc9 := 18) C rfl (nI (0)) dL_orders_17 rfl ?_
    exact g_xi (by decide) (by decide) (g_ireturn C hr hlk dL_orders_18 (Or.inl ⟨r_1, σ_1, q_1, rfl, rfl⟩))

/-! The law's wrappers -/
set_option maxRecDepth 100000 in
set_option maxHeartbeats 4000000 in
theorem m_L_read (l : Launch) (w : Wd) (sA : Nat → Nat) (σ : St) (x0 : Int32) {post : Int32 → St → Prop} {thr : String → St → Prop} (hM : MXI l yX10_read wsX10_read 7 2 w sA [.ref (w.1 31), .int x0] σ post thr) (hE : ∀ E σ9, thr E σ9 → ∃ n, (E, n) ∈ ([(xIOB, 1), (xIAE, 2)] : List (String × Nat))) : MWI l yL_read wsL_read 8 2 w sA [.ref (w.1 31), .int x0, .ref (w.1 30)] σ (WPi [(xIOB, 1), (xIAE, 2)] post thr) := by
  refine MWI_of (cc := cL_read) (maxL := 4) (ret := .int) (hh := [(0, 9, 12, 13), (0, 9, 15, 15)]) (by decide) rfl (Nat.le_of_ble_eq_true rfl) ?_
  intro p e s m args below meth c A X hr hlk
  have X : CW p s m args c w sA A cL_read RL 4 wsL_read [(0, 9, 12, 13), (0, 9, 15, 15)] := X
  have C := X.1
  have hx : ∀ q ∈ ([(xIOB, 1), (xIAE, 2)] : List (String × Nat)), ∃ z ∈ ([((0, 9, 12, 13), xIOB), ((0, 9, 15, 15), xIAE)] : List ((Nat × Nat × Nat × Nat) × String)), z.2 = q.1 := by decide +kernel
  refine g_aload_n (pc9 := 1) C rfl 2 dL_read_0 rfl rfl ?_
  refine g_iconst (pc9 := 2) C rfl (nI (0)) dL_read_1 rfl ?_
  refine g_aload_n (pc9 := 3) C rfl 0 dL_read_2 rfl rfl ?_
  refine g_iload_n (pc9 := 4) C rfl 1 dL_read_3 rfl rfl ?_
  refine c_callVi (rest := [.int (nI (0)), .ref (w.1 30)]) X (pc9 := 7) rfl 31 [.int x0] (nn := 1) rfl dL_read_4 hM gL_read_X10_read (by decide) (ce_31 w σ) rfl rfl rfl (by decide +kernel) ⟨by decide, by decide⟩ rfl (Nat.le_of_ble_eq_true rfl) ⟨by decide, by decide⟩ [((0, 9, 12, 13), xIOB), ((0, 9, 15, 15), xIAE)] rfl (by decide +kernel) (by decide +kernel) (fun E σ9 h => (hE E σ9 h).elim (fun _ h9 => hx _ h9)) ?_ (fun r_1 σ_1 q_1 => ?_)
  · intro z hz
    simp only [List.mem_cons, List.not_mem_nil, or_false] at hz
    rcases hz with rfl | rfl
    · intro σ9 q9 h9
      refine g_astore_n (pc9 := 13) C rfl [(3, .ref q9), (0, .ref (w.1 31)), (1, .int x0), (2, .ref (w.1 30))] dL_read_12 rfl (by decide) rfl ?_
      refine g_iconst (pc9 := 14) C rfl (nI (1)) dL_read_13 rfl ?_
      exact g_xi (by decide) (by decide) (g_ireturn C hr hlk dL_read_14 (Or.inr ⟨xIOB, 1, by decide +kernel, h9, rfl⟩))
    · intro σ9 q9 h9
      refine g_astore_n (pc9 := 16) C rfl [(3, .ref q9), (0, .ref (w.1 31)), (1, .int x0), (2, .ref (w.1 30))] dL_read_15 rfl (by decide) rfl ?_
      refine g_iconst (pc9 := 17) C rfl (nI (2)) dL_read_16 rfl ?_
      exact g_xi (by decide) (by decide) (g_ireturn C hr hlk dL_read_17 (Or.inr ⟨xIAE, 2, by decide +kernel, h9, rfl⟩))
  · have q_1 := q_1
    refine g_i2l (pc9 := 8) C rfl dL_read_7 ?_
    refine g_last (pc9 := 9) C rfl 30 0 (jA σ_1 30) dL_read_8 (by decide) (fun _ => rfl) (ce_30 w σ_1) rfl (by decide) (by decide) rfl ?_
    refine g_goto C 18 dL_read_9 rfl ?_
    refine g_iconst (pc9 := 19) C rfl (nI (0)) dL_read_18 rfl ?_
    exact g_xi (by decide) (by decide) (g_ireturn C hr hlk dL_read_19 (Or.inl ⟨r_1, σ_1, q_1, rfl, rfl⟩))
set_option maxRecDepth 100000 in
set_option maxHeartbeats 4000000 in
theorem m_L_write (l : Launch) (w : Wd) (sA : Nat → Nat) (σ : St) (x0 : Int32) {post : Int32 → St → Prop} {thr : String → St → Prop} (hM : MXI l yX10_write wsX10_write 29 2 w sA [.ref (w.1 31), .int x0] σ post thr) (hE : ∀ E σ9, thr E σ9 → ∃ n, (E, n) ∈ ([(xIOB, 1), (xISE, 2)] : List (String × Nat))) : MWI l yL_write wsL_write 30 2 w sA [.ref (w.1 31), .int x0, .ref (w.1 30)] σ (WPi [(xIOB, 1), (xISE, 2)] post thr) := by
  refine MWI_of (cc := cL_write) (maxL := 4) (ret := .int) (hh := [(0, 9, 12, 13), (0, 9, 15, 20)]) (by decide) rfl (Nat.le_of_ble_eq_true rfl) ?_
  intro p e s m args below meth c A X hr hlk
  have X : CW p s m args c w sA A cL_write RL 4 wsL_write [(0, 9, 12, 13), (0, 9, 15, 20)] := X
  have C := X.1
  have hx : ∀ q ∈ ([(xIOB, 1), (xISE, 2)] : List (String × Nat)), ∃ z ∈ ([((0, 9, 12, 13), xIOB), ((0, 9, 15, 20), xISE)] : List ((Nat × Nat × Nat × Nat) × String)), z.2 = q.1 := by decide +kernel
  refine g_aload_n (pc9 := 1) C rfl 2 dL_write_0 rfl rfl ?_
  refine g_iconst (pc9 := 2) C rfl (nI (0)) dL_write_1 rfl ?_
  refine g_aload_n (pc9 := 3) C rfl 0 dL_write_2 rfl rfl ?_
  refine g_iload_n (pc9 := 4) C rfl 1 dL_write_3 rfl rfl ?_
  refine c_callVi (rest := [.int (nI (0)), .ref (w.1 30)]) X (pc9 := 7) rfl 31 [.int x0] (nn := 1) rfl dL_write_4 hM gL_write_X10_write (by decide) (ce_31 w σ) rfl rfl rfl (by decide +kernel) ⟨by decide, by decide⟩ rfl (Nat.le_of_ble_eq_true rfl) ⟨by decide, by decide⟩ [((0, 9, 12, 13), xIOB), ((0, 9, 15, 20), xISE)] rfl (by decide +kernel) (by decide +kernel) (fun E σ9 h => (hE E σ9 h).elim (fun _ h9 => hx _ h9)) ?_ (fun r_1 σ_1 q_1 => ?_)
  · intro z hz
    simp only [List.mem_cons, List.not_mem_nil, or_false] at hz
    rcases hz with rfl | rfl
    · intro σ9 q9 h9
      refine g_astore_n (pc9 := 13) C rfl [(3, .ref q9), (0, .ref (w.1 31)), (1, .int x0), (2, .ref (w.1 30))] dL_write_12 rfl (by decide) rfl ?_
      refine g_iconst (pc9 := 14) C rfl (nI (1)) dL_write_13 rfl ?_
      exact g_xi (by decide) (by decide) (g_ireturn C hr hlk dL_write_14 (Or.inr ⟨xIOB, 1, by decide +kernel, h9, rfl⟩))
    · intro σ9 q9 h9
      refine g_astore_n (pc9 := 16) C rfl [(3, .ref q9), (0, .ref (w.1 31)), (1, .int x0), (2, .ref (w.1 30))] dL_write_15 rfl (by decide) rfl ?_
      refine g_iconst (pc9 := 17) C rfl (nI (2)) dL_write_16 rfl ?_
      exact g_xi (by decide) (by decide) (g_ireturn C hr hlk dL_write_17 (Or.inr ⟨xISE, 2, by decide +kernel, h9, rfl⟩))
  · have q_1 := q_1
    refine g_i2l (pc9 := 8) C rfl dL_write_7 ?_
    refine g_last (pc9 := 9) C rfl 30 0 (jA σ_1 30) dL_write_8 (by decide) (fun _ => rfl) (ce_30 w σ_1) rfl (by decide) (by decide) rfl ?_
    refine g_goto C 18 dL_write_9 rfl ?_
    refine g_iconst (pc9 := 19) C rfl (nI (0)) dL_write_18 rfl ?_
    exact g_xi (by decide) (by decide) (g_ireturn C hr hlk dL_write_19 (Or.inl ⟨r_1, σ_1, q_1, rfl, rfl⟩))
set_option maxRecDepth 100000 in
set_option maxHeartbeats 4000000 in
theorem m_L_clear (l : Launch) (w : Wd) (sA : Nat → Nat) (σ : St) (x0 : Int32) {post : Int32 → St → Prop} {thr : String → St → Prop} (hM : MXI l yX10_clear wsX10_clear 7 1 w sA [.ref (w.1 31), .int x0] σ post thr) (hE : ∀ E σ9, thr E σ9 → ∃ n, (E, n) ∈ ([(xIOB, 1)] : List (String × Nat))) : MWI l yL_clear wsL_clear 8 1 w sA [.ref (w.1 31), .int x0, .ref (w.1 30)] σ (WPz [(xIOB, 1)] post thr) := by
  refine MWI_of (cc := cL_clear) (maxL := 4) (ret := .int) (hh := [(0, 16, 19, 13)]) (by decide) rfl (Nat.le_of_ble_eq_true rfl) ?_
  intro p e s m args below meth c A X hr hlk
  have X : CW p s m args c w sA A cL_clear RL 4 wsL_clear [(0, 16, 19, 13)] := X
  have C := X.1
  have hx : ∀ q ∈ ([(xIOB, 1)] : List (String × Nat)), ∃ z ∈ ([((0, 16, 19, 13), xIOB)] : List ((Nat × Nat × Nat × Nat) × String)), z.2 = q.1 := by decide +kernel
  refine g_aload_n (pc9 := 1) C rfl 2 dL_clear_0 rfl rfl ?_
  refine g_iconst (pc9 := 2) C rfl (nI (0)) dL_clear_1 rfl ?_
  refine g_aload_n (pc9 := 3) C rfl 0 dL_clear_2 rfl rfl ?_
  refine g_iload_n (pc9 := 4) C rfl 1 dL_clear_3 rfl rfl ?_
  refine c_callVi (rest := [.int (nI (0)), .ref (w.1 30)]) X (pc9 := 7) rfl 31 [.int x0] (nn := 1) rfl dL_clear_4 hM gL_clear_X10_clear (by decide) (ce_31 w σ) rfl rfl rfl (by decide +kernel) ⟨by decide, by decide⟩ rfl (Nat.le_of_ble_eq_true rfl) ⟨by decide, by decide⟩ [((0, 16, 19, 13), xIOB)] rfl (by decide +kernel) (by decide +kernel) (fun E σ9 h => (hE E σ9 h).elim (fun _ h9 => hx _ h9)) ?_ (fun r_1 σ_1 q_1 => ?_)
  · intro z hz
    simp only [List.mem_cons, List.not_mem_nil, or_false] at hz
    rcases hz with rfl
    · intro σ9 q9 h9
      refine g_astore_n (pc9 := 20) C rfl [(3, .ref q9), (0, .ref (w.1 31)), (1, .int x0), (2, .ref (w.1 30))] dL_clear_19 rfl (by decide) rfl ?_
      refine g_iconst (pc9 := 21) C rfl (nI (1)) dL_clear_20 rfl ?_
      exact g_xi (by decide) (by decide) (g_ireturn C hr hlk dL_clear_21 (Or.inr ⟨xIOB, 1, by decide +kernel, h9, rfl⟩))
  · have q_1 := q_1
    refine g_if_eq (pc9 := 10) C rfl 14 dL_clear_7 rfl (fun c_1 => ?_) (fun c_1 => ?_)
    · refine g_lconst (pc9 := 15) C rfl (0) dL_clear_14 rfl ?_
      refine g_last (pc9 := 16) C rfl 30 0 (jA σ_1 30) dL_clear_15 (by decide) (fun _ => rfl) (ce_30 w σ_1) rfl (by decide) (by decide) rfl ?_
      refine g_goto C 22 dL_clear_16 rfl ?_
      refine g_iconst (pc9 := 23) C rfl (nI (0)) dL_clear_22 rfl ?_
      exact g_xi (by decide) (by decide) (g_ireturn C hr hlk dL_clear_23 (Or.inl ⟨r_1, σ_1, q_1, rfl, by rw [if_pos c_1]⟩))
    · refine g_lconst (pc9 := 11) C rfl (1) dL_clear_10 rfl ?_
      refine g_goto C 15 dL_clear_11 rfl ?_
      refine g_last (pc9 := 16) C rfl 30 0 (jA σ_1 30) dL_clear_15 (by decide) (fun _ => rfl) (ce_30 w σ_1) rfl (by decide) (by decide) rfl ?_
      refine g_goto C 22 dL_clear_16 rfl ?_
      refine g_iconst (pc9 := 23) C rfl (nI (0)) dL_clear_22 rfl ?_
      exact g_xi (by decide) (by decide) (g_ireturn C hr hlk dL_clear_23 (Or.inl ⟨r_1, σ_1, q_1, rfl, by rw [if_neg c_1]⟩))
set_option maxRecDepth 100000 in
set_option maxHeartbeats 4000000 in
theorem m_L_look (l : Launch) (w : Wd) (sA : Nat → Nat) (σ : St) (x0 x1 : Int32) {post : Int32 → St → Prop} {thr : String → St → Prop} (hM : MXI l yX10_look wsX10_look 8 3 w sA [.ref (w.1 31), .int x0, .int x1] σ post thr) (hE : ∀ E σ9, thr E σ9 → ∃ n, (E, n) ∈ ([(xIOB, 1), (xISE, 2), (xNSE, 3)] : List (String × Nat))) : MWI l yL_look wsL_look 9 3 w sA [.ref (w.1 31), .int x0, .int x1, .ref (w.1 30)] σ (WPi [(xIOB, 1), (xISE, 2), (xNSE, 3)] post thr) := by
  refine MWI_of (cc := cL_look) (maxL := 5) (ret := .int) (hh := [(0, 10, 13, 13), (0, 10, 17, 20), (0, 10, 21, 30)]) (by decide) rfl (Nat.le_of_ble_eq_true rfl) ?_
  intro p e s m args below meth c A X hr hlk
  have X : CW p s m args c w sA A cL_look RL 5 wsL_look [(0, 10, 13, 13), (0, 10, 17, 20), (0, 10, 21, 30)] := X
  have C := X.1
  have hx : ∀ q ∈ ([(xIOB, 1), (xISE, 2), (xNSE, 3)] : List (String × Nat)), ∃ z ∈ ([((0, 10, 13, 13), xIOB), ((0, 10, 17, 20), xISE), ((0, 10, 21, 30), xNSE)] : List ((Nat × Nat × Nat × Nat) × String)), z.2 = q.1 := by decide +kernel
  refine g_aload_n (pc9 := 1) C rfl 3 dL_look_0 rfl rfl ?_
  refine g_iconst (pc9 := 2) C rfl (nI (0)) dL_look_1 rfl ?_
  refine g_aload_n (pc9 := 3) C rfl 0 dL_look_2 rfl rfl ?_
  refine g_iload_n (pc9 := 4) C rfl 1 dL_look_3 rfl rfl ?_
  refine g_iload_n (pc9 := 5) C rfl 2 dL_look_4 rfl rfl ?_
  refine c_callVi (rest := [.int (nI (0)), .ref (w.1 30)]) X (pc9 := 8) rfl 31 [.int x0, .int x1] (nn := 2) rfl dL_look_5 hM gL_look_X10_look (by decide) (ce_31 w σ) rfl rfl rfl (by decide +kernel) ⟨by decide, by decide⟩ rfl (Nat.le_of_ble_eq_true rfl) ⟨by decide, by decide⟩ [((0, 10, 13, 13), xIOB), ((0, 10, 17, 20), xISE), ((0, 10, 21, 30), xNSE)] rfl (by decide +kernel) (by decide +kernel) (fun E σ9 h => (hE E σ9 h).elim (fun _ h9 => hx _ h9)) ?_ (fun r_1 σ_1 q_1 => ?_)
  · intro z hz
    simp only [List.mem_cons, List.not_mem_nil, or_false] at hz
    rcases hz with rfl | rfl | rfl
    · intro σ9 q9 h9
      refine g_astore (pc9 := 15) C rfl [(4, .ref q9), (0, .ref (w.1 31)), (1, .int x0), (2, .int x1), (3, .ref (w.1 30))] dL_look_13 (by decide) rfl ?_
      refine g_iconst (pc9 := 16) C rfl (nI (1)) dL_look_15 rfl ?_
      exact g_xi (by decide) (by decide) (g_ireturn C hr hlk dL_look_16 (Or.inr ⟨xIOB, 1, by decide +kernel, h9, rfl⟩))
    · intro σ9 q9 h9
      refine g_astore (pc9 := 19) C rfl [(4, .ref q9), (0, .ref (w.1 31)), (1, .int x0), (2, .int x1), (3, .ref (w.1 30))] dL_look_17 (by decide) rfl ?_
      refine g_iconst (pc9 := 20) C rfl (nI (2)) dL_look_19 rfl ?_
      exact g_xi (by decide) (by decide) (g_ireturn C hr hlk dL_look_20 (Or.inr ⟨xISE, 2, by decide +kernel, h9, rfl⟩))
    · intro σ9 q9 h9
      refine g_astore (pc9 := 23) C rfl [(4, .ref q9), (0, .ref (w.1 31)), (1, .int x0), (2, .int x1), (3, .ref (w.1 30))] dL_look_21 (by decide) rfl ?_
      refine g_iconst (pc9 := 24) C rfl (nI (3)) dL_look_23 rfl ?_
      exact g_xi (by decide) (by decide) (g_ireturn C hr hlk dL_look_24 (Or.inr ⟨xNSE, 3, by decide +kernel, h9, rfl⟩))
  · have q_1 := q_1
    refine g_i2l (pc9 := 9) C rfl dL_look_8 ?_
    refine g_last (pc9 := 10) C rfl 30 0 (jA σ_1 30) dL_look_9 (by decide) (fun _ => rfl) (ce_30 w σ_1) rfl (by decide) (by decide) rfl ?_
    refine g_goto C 25 dL_look_10 rfl ?_
    refine g_iconst (pc9 := 26) C rfl (nI (0)) dL_look_25 rfl ?_
    exact g_xi (by decide) (by decide) (g_ireturn C hr hlk dL_look_26 (Or.inl ⟨r_1, σ_1, q_1, rfl, rfl⟩))
set_option maxRecDepth 100000 in
set_option maxHeartbeats 4000000 in
theorem m_L_has (l : Launch) (w : Wd) (sA : Nat → Nat) (σ : St) (x0 x1 : Int32) {post : Int32 → St → Prop} {thr : String → St → Prop} (hM : MXI l yX10_has wsX10_has 8 3 w sA [.ref (w.1 31), .int x0, .int x1] σ post thr) (hE : ∀ E σ9, thr E σ9 → ∃ n, (E, n) ∈ ([(xIOB, 1), (xISE, 2)] : List (String × Nat))) : MWI l yL_has wsL_has 9 3 w sA [.ref (w.1 31), .int x0, .int x1, .ref (w.1 30)] σ (WPz [(xIOB, 1), (xISE, 2)] post thr) := by
  refine MWI_of (cc := cL_has) (maxL := 5) (ret := .int) (hh := [(0, 17, 20, 13), (0, 17, 24, 20)]) (by decide) rfl (Nat.le_of_ble_eq_true rfl) ?_
  intro p e s m args below meth c A X hr hlk
  have X : CW p s m args c w sA A cL_has RL 5 wsL_has [(0, 17, 20, 13), (0, 17, 24, 20)] := X
  have C := X.1
  have hx : ∀ q ∈ ([(xIOB, 1), (xISE, 2)] : List (String × Nat)), ∃ z ∈ ([((0, 17, 20, 13), xIOB), ((0, 17, 24, 20), xISE)] : List ((Nat × Nat × Nat × Nat) × String)), z.2 = q.1 := by decide +kernel
  refine g_aload_n (pc9 := 1) C rfl 3 dL_has_0 rfl rfl ?_
  refine g_iconst (pc9 := 2) C rfl (nI (0)) dL_has_1 rfl ?_
  refine g_aload_n (pc9 := 3) C rfl 0 dL_has_2 rfl rfl ?_
  refine g_iload_n (pc9 := 4) C rfl 1 dL_has_3 rfl rfl ?_
  refine g_iload_n (pc9 := 5) C rfl 2 dL_has_4 rfl rfl ?_
  refine c_callVi (rest := [.int (nI (0)), .ref (w.1 30)]) X (pc9 := 8) rfl 31 [.int x0, .int x1] (nn := 2) rfl dL_has_5 hM gL_has_X10_has (by decide) (ce_31 w σ) rfl rfl rfl (by decide +kernel) ⟨by decide, by decide⟩ rfl (Nat.le_of_ble_eq_true rfl) ⟨by decide, by decide⟩ [((0, 17, 20, 13), xIOB), ((0, 17, 24, 20), xISE)] rfl (by decide +kernel) (by decide +kernel) (fun E σ9 h => (hE E σ9 h).elim (fun _ h9 => hx _ h9)) ?_ (fun r_1 σ_1 q_1 => ?_)
  · intro z hz
    simp only [List.mem_cons, List.not_mem_nil, or_false] at hz
    rcases hz with rfl | rfl
    · intro σ9 q9 h9
      refine g_astore (pc9 := 22) C rfl [(4, .ref q9), (0, .ref (w.1 31)), (1, .int x0), (2, .int x1), (3, .ref (w.1 30))] dL_has_20 (by decide) rfl ?_
      refine g_iconst (pc9 := 23) C rfl (nI (1)) dL_has_22 rfl ?_
      exact g_xi (by decide) (by decide) (g_ireturn C hr hlk dL_has_23 (Or.inr ⟨xIOB, 1, by decide +kernel, h9, rfl⟩))
    · intro σ9 q9 h9
      refine g_astore (pc9 := 26) C rfl [(4, .ref q9), (0, .ref (w.1 31)), (1, .int x0), (2, .int x1), (3, .ref (w.1 30))] dL_has_24 (by decide) rfl ?_
      refine g_iconst (pc9 := 27) C rfl (nI (2)) dL_has_26 rfl ?_
      exact g_xi (by decide) (by decide) (g_ireturn C hr hlk dL_has_27 (Or.inr ⟨xISE, 2, by decide +kernel, h9, rfl⟩))
  · have q_1 := q_1
    refine g_if_eq (pc9 := 11) C rfl 15 dL_has_8 rfl (fun c_1 => ?_) (fun c_1 => ?_)
    · refine g_lconst (pc9 := 16) C rfl (0) dL_has_15 rfl ?_
      refine g_last (pc9 := 17) C rfl 30 0 (jA σ_1 30) dL_has_16 (by decide) (fun _ => rfl) (ce_30 w σ_1) rfl (by decide) (by decide) rfl ?_
      refine g_goto C 28 dL_has_17 rfl ?_
      refine g_iconst (pc9 := 29) C rfl (nI (0)) dL_has_28 rfl ?_
      exact g_xi (by decide) (by decide) (g_ireturn C hr hlk dL_has_29 (Or.inl ⟨r_1, σ_1, q_1, rfl, by rw [if_pos c_1]⟩))
    · refine g_lconst (pc9 := 12) C rfl (1) dL_has_11 rfl ?_
      refine g_goto C 16 dL_has_12 rfl ?_
      refine g_last (pc9 := 17) C rfl 30 0 (jA σ_1 30) dL_has_16 (by decide) (fun _ => rfl) (ce_30 w σ_1) rfl (by decide) (by decide) rfl ?_
      refine g_goto C 28 dL_has_17 rfl ?_
      refine g_iconst (pc9 := 29) C rfl (nI (0)) dL_has_28 rfl ?_
      exact g_xi (by decide) (by decide) (g_ireturn C hr hlk dL_has_29 (Or.inl ⟨r_1, σ_1, q_1, rfl, by rw [if_neg c_1]⟩))
set_option maxRecDepth 100000 in
set_option maxHeartbeats 4000000 in
theorem m_L_least (l : Launch) (w : Wd) (sA : Nat → Nat) (σ : St) (x0 x1 : Int32) {post : Int32 → St → Prop} {thr : String → St → Prop} (hM : MXI l yX10_least wsX10_least 8 3 w sA [.ref (w.1 31), .int x0, .int x1] σ post thr) (hE : ∀ E σ9, thr E σ9 → ∃ n, (E, n) ∈ ([(xIOB, 1), (xISE, 2)] : List (String × Nat))) : MWI l yL_least wsL_least 9 3 w sA [.ref (w.1 31), .int x0, .int x1, .ref (w.1 30)] σ (WPi [(xIOB, 1), (xISE, 2)] post thr) := by
  refine MWI_of (cc := cL_least) (maxL := 5) (ret := .int) (hh := [(0, 10, 13, 13), (0, 10, 17, 20)]) (by decide) rfl (Nat.le_of_ble_eq_true rfl) ?_
  intro p e s m args below meth c A X hr hlk
  have X : CW p s m args c w sA A cL_least RL 5 wsL_least [(0, 10, 13, 13), (0, 10, 17, 20)] := X
  have C := X.1
  have hx : ∀ q ∈ ([(xIOB, 1), (xISE, 2)] : List (String × Nat)), ∃ z ∈ ([((0, 10, 13, 13), xIOB), ((0, 10, 17, 20), xISE)] : List ((Nat × Nat × Nat × Nat) × String)), z.2 = q.1 := by decide +kernel
  refine g_aload_n (pc9 := 1) C rfl 3 dL_least_0 rfl rfl ?_
  refine g_iconst (pc9 := 2) C rfl (nI (0)) dL_least_1 rfl ?_
  refine g_aload_n (pc9 := 3) C rfl 0 dL_least_2 rfl rfl ?_
  refine g_iload_n (pc9 := 4) C rfl 1 dL_least_3 rfl rfl ?_
  refine g_iload_n (pc9 := 5) C rfl 2 dL_least_4 rfl rfl ?_
  refine c_callVi (rest := [.int (nI (0)), .ref (w.1 30)]) X (pc9 := 8) rfl 31 [.int x0, .int x1] (nn := 2) rfl dL_least_5 hM gL_least_X10_least (by decide) (ce_31 w σ) rfl rfl rfl (by decide +kernel) ⟨by decide, by decide⟩ rfl (Nat.le_of_ble_eq_true rfl) ⟨by decide, by decide⟩ [((0, 10, 13, 13), xIOB), ((0, 10, 17, 20), xISE)] rfl (by decide +kernel) (by decide +kernel) (fun E σ9 h => (hE E σ9 h).elim (fun _ h9 => hx _ h9)) ?_ (fun r_1 σ_1 q_1 => ?_)
  · intro z hz
    simp only [List.mem_cons, List.not_mem_nil, or_false] at hz
    rcases hz with rfl | rfl
    · intro σ9 q9 h9
      refine g_astore (pc9 := 15) C rfl [(4, .ref q9), (0, .ref (w.1 31)), (1, .int x0), (2, .int x1), (3, .ref (w.1 30))] dL_least_13 (by decide) rfl ?_
      refine g_iconst (pc9 := 16) C rfl (nI (1)) dL_least_15 rfl ?_
      exact g_xi (by decide) (by decide) (g_ireturn C hr hlk dL_least_16 (Or.inr ⟨xIOB, 1, by decide +kernel, h9, rfl⟩))
    · intro σ9 q9 h9
      refine g_astore (pc9 := 19) C rfl [(4, .ref q9), (0, .ref (w.1 31)), (1, .int x0), (2, .int x1), (3, .ref (w.1 30))] dL_least_17 (by decide) rfl ?_
      refine g_iconst (pc9 := 20) C rfl (nI (2)) dL_least_19 rfl ?_
      exact g_xi (by decide) (by decide) (g_ireturn C hr hlk dL_least_20 (Or.inr ⟨xISE, 2, by decide +kernel, h9, rfl⟩))
  · have q_1 := q_1
    refine g_i2l (pc9 := 9) C rfl dL_least_8 ?_
    refine g_last (pc9 := 10) C rfl 30 0 (jA σ_1 30) dL_least_9 (by decide) (fun _ => rfl) (ce_30 w σ_1) rfl (by decide) (by decide) rfl ?_
    refine g_goto C 21 dL_least_10 rfl ?_
    refine g_iconst (pc9 := 22) C rfl (nI (0)) dL_least_21 rfl ?_
    exact g_xi (by decide) (by decide) (g_ireturn C hr hlk dL_least_22 (Or.inl ⟨r_1, σ_1, q_1, rfl, rfl⟩))
set_option maxRecDepth 100000 in
set_option maxHeartbeats 4000000 in
theorem m_L_nearer (l : Launch) (w : Wd) (sA : Nat → Nat) (σ : St) (x0 x1 x2 x3 : Int32) {post : Int32 → St → Prop} {thr : String → St → Prop} (hM : MXI l yX10_nearer wsX10_nearer 8 8 w sA [.ref (w.1 31), .int x0, .int x1, .int x2, .int x3] σ post thr) (hE : ∀ E σ9, thr E σ9 → ∃ n, (E, n) ∈ ([(xIOB, 1), (xISE, 2), (xNSE, 3)] : List (String × Nat))) : MWI l yL_nearer wsL_nearer 9 8 w sA [.ref (w.1 31), .int x0, .int x1, .int x2, .int x3, .ref (w.1 30)] σ (WPi [(xIOB, 1), (xISE, 2), (xNSE, 3)] post thr) := by
  refine MWI_of (cc := cL_nearer) (maxL := 7) (ret := .int) (hh := [(0, 14, 17, 13), (0, 14, 21, 20), (0, 14, 25, 30)]) (by decide) rfl (Nat.le_of_ble_eq_true rfl) ?_
  intro p e s m args below meth c A X hr hlk
  have X : CW p s m args c w sA A cL_nearer RL 7 wsL_nearer [(0, 14, 17, 13), (0, 14, 21, 20), (0, 14, 25, 30)] := X
  have C := X.1
  have hx : ∀ q ∈ ([(xIOB, 1), (xISE, 2), (xNSE, 3)] : List (String × Nat)), ∃ z ∈ ([((0, 14, 17, 13), xIOB), ((0, 14, 21, 20), xISE), ((0, 14, 25, 30), xNSE)] : List ((Nat × Nat × Nat × Nat) × String)), z.2 = q.1 := by decide +kernel
  refine g_aload (pc9 := 2) C rfl 5 dL_nearer_0 rfl ?_
  refine g_iconst (pc9 := 3) C rfl (nI (0)) dL_nearer_2 rfl ?_
  refine g_aload_n (pc9 := 4) C rfl 0 dL_nearer_3 rfl rfl ?_
  refine g_iload_n (pc9 := 5) C rfl 1 dL_nearer_4 rfl rfl ?_
  refine g_iload_n (pc9 := 6) C rfl 2 dL_nearer_5 rfl rfl ?_
  refine g_iload_n (pc9 := 7) C rfl 3 dL_nearer_6 rfl rfl ?_
  refine g_iload (pc9 := 9) C rfl 4 dL_nearer_7 rfl ?_
  refine c_callVi (rest := [.int (nI (0)), .ref (w.1 30)]) X (pc9 := 12) rfl 31 [.int x0, .int x1, .int x2, .int x3] (nn := 4) rfl dL_nearer_9 hM gL_nearer_X10_nearer (by decide) (ce_31 w σ) rfl rfl rfl (by decide +kernel) ⟨by decide, by decide⟩ rfl (Nat.le_of_ble_eq_true rfl) ⟨by decide, by decide⟩ [((0, 14, 17, 13), xIOB), ((0, 14, 21, 20), xISE), ((0, 14, 25, 30), xNSE)] rfl (by decide +kernel) (by decide +kernel) (fun E σ9 h => (hE E σ9 h).elim (fun _ h9 => hx _ h9)) ?_ (fun r_1 σ_1 q_1 => ?_)
  · intro z hz
    simp only [List.mem_cons, List.not_mem_nil, or_false] at hz
    rcases hz with rfl | rfl | rfl
    · intro σ9 q9 h9
      refine g_astore (pc9 := 19) C rfl [(6, .ref q9), (0, .ref (w.1 31)), (1, .int x0), (2, .int x1), (3, .int x2), (4, .int x3), (5, .ref (w.1 30))] dL_nearer_17 (by decide) rfl ?_
      refine g_iconst (pc9 := 20) C rfl (nI (1)) dL_nearer_19 rfl ?_
      exact g_xi (by decide) (by decide) (g_ireturn C hr hlk dL_nearer_20 (Or.inr ⟨xIOB, 1, by decide +kernel, h9, rfl⟩))
    · intro σ9 q9 h9
      refine g_astore (pc9 := 23) C rfl [(6, .ref q9), (0, .ref (w.1 31)), (1, .int x0), (2, .int x1), (3, .int x2), (4, .int x3), (5, .ref (w.1 30))] dL_nearer_21 (by decide) rfl ?_
      refine g_iconst (pc9 := 24) C rfl (nI (2)) dL_nearer_23 rfl ?_
      exact g_xi (by decide) (by decide) (g_ireturn C hr hlk dL_nearer_24 (Or.inr ⟨xISE, 2, by decide +kernel, h9, rfl⟩))
    · intro σ9 q9 h9
      refine g_astore (pc9 := 27) C rfl [(6, .ref q9), (0, .ref (w.1 31)), (1, .int x0), (2, .int x1), (3, .int x2), (4, .int x3), (5, .ref (w.1 30))] dL_nearer_25 (by decide) rfl ?_
      refine g_iconst (pc9 := 28) C rfl (nI (3)) dL_nearer_27 rfl ?_
      exact g_xi (by decide) (by decide) (g_ireturn C hr hlk dL_nearer_28 (Or.inr ⟨xNSE, 3, by decide +kernel, h9, rfl⟩))
  · have q_1 := q_1
    refine g_i2l (pc9 := 13) C rfl dL_nearer_12 ?_
    refine g_last (pc9 := 14) C rfl 30 0 (jA σ_1 30) dL_nearer_13 (by decide) (fun _ => rfl) (ce_30 w σ_1) rfl (by decide) (by decide) rfl ?_
    refine g_goto C 29 dL_nearer_14 rfl ?_
    refine g_iconst (pc9 := 30) C rfl (nI (0)) dL_nearer_29 rfl ?_
    exact g_xi (by decide) (by decide) (g_ireturn C hr hlk dL_nearer_30 (Or.inl ⟨r_1, σ_1, q_1, rfl, rfl⟩))
set_option maxRecDepth 100000 in
set_option maxHeartbeats 4000000 in
theorem m_L_unlike (l : Launch) (w : Wd) (sA : Nat → Nat) (σ : St) (x0 x1 : Int32) {post : Int32 → St → Prop} {thr : String → St → Prop} (hM : MXI l yX10_unlike wsX10_unlike 8 6 w sA [.ref (w.1 31), .int x0, .int x1] σ post thr) (hE : ∀ E σ9, thr E σ9 → ∃ n, (E, n) ∈ ([(xIOB, 1), (xISE, 2)] : List (String × Nat))) : MWI l yL_unlike wsL_unlike 9 6 w sA [.ref (w.1 31), .int x0, .int x1, .ref (w.1 30)] σ (WPi [(xIOB, 1), (xISE, 2)] post thr) := by
  refine MWI_of (cc := cL_unlike) (maxL := 5) (ret := .int) (hh := [(0, 10, 13, 13), (0, 10, 17, 20)]) (by decide) rfl (Nat.le_of_ble_eq_true rfl) ?_
  intro p e s m args below meth c A X hr hlk
  have X : CW p s m args c w sA A cL_unlike RL 5 wsL_unlike [(0, 10, 13, 13), (0, 10, 17, 20)] := X
  have C := X.1
  have hx : ∀ q ∈ ([(xIOB, 1), (xISE, 2)] : List (String × Nat)), ∃ z ∈ ([((0, 10, 13, 13), xIOB), ((0, 10, 17, 20), xISE)] : List ((Nat × Nat × Nat × Nat) × String)), z.2 = q.1 := by decide +kernel
  refine g_aload_n (pc9 := 1) C rfl 3 dL_unlike_0 rfl rfl ?_
  refine g_iconst (pc9 := 2) C rfl (nI (0)) dL_unlike_1 rfl ?_
  refine g_aload_n (pc9 := 3) C rfl 0 dL_unlike_2 rfl rfl ?_
  refine g_iload_n (pc9 := 4) C rfl 1 dL_unlike_3 rfl rfl ?_
  refine g_iload_n (pc9 := 5) C rfl 2 dL_unlike_4 rfl rfl ?_
  refine c_callVi (rest := [.int (nI (0)), .ref (w.1 30)]) X (pc9 := 8) rfl 31 [.int x0, .int x1] (nn := 2) rfl dL_unlike_5 hM gL_unlike_X10_unlike (by decide) (ce_31 w σ) rfl rfl rfl (by decide +kernel) ⟨by decide, by decide⟩ rfl (Nat.le_of_ble_eq_true rfl) ⟨by decide, by decide⟩ [((0, 10, 13, 13), xIOB), ((0, 10, 17, 20), xISE)] rfl (by decide +kernel) (by decide +kernel) (fun E σ9 h => (hE E σ9 h).elim (fun _ h9 => hx _ h9)) ?_ (fun r_1 σ_1 q_1 => ?_)
  · intro z hz
    simp only [List.mem_cons, List.not_mem_nil, or_false] at hz
    rcases hz with rfl | rfl
    · intro σ9 q9 h9
      refine g_astore (pc9 := 15) C rfl [(4, .ref q9), (0, .ref (w.1 31)), (1, .int x0), (2, .int x1), (3, .ref (w.1 30))] dL_unlike_13 (by decide) rfl ?_
      refine g_iconst (pc9 := 16) C rfl (nI (1)) dL_unlike_15 rfl ?_
      exact g_xi (by decide) (by decide) (g_ireturn C hr hlk dL_unlike_16 (Or.inr ⟨xIOB, 1, by decide +kernel, h9, rfl⟩))
    · intro σ9 q9 h9
      refine g_astore (pc9 := 19) C rfl [(4, .ref q9), (0, .ref (w.1 31)), (1, .int x0), (2, .int x1), (3, .ref (w.1 30))] dL_unlike_17 (by decide) rfl ?_
      refine g_iconst (pc9 := 20) C rfl (nI (2)) dL_unlike_19 rfl ?_
      exact g_xi (by decide) (by decide) (g_ireturn C hr hlk dL_unlike_20 (Or.inr ⟨xISE, 2, by decide +kernel, h9, rfl⟩))
  · have q_1 := q_1
    refine g_i2l (pc9 := 9) C rfl dL_unlike_8 ?_
    refine g_last (pc9 := 10) C rfl 30 0 (jA σ_1 30) dL_unlike_9 (by decide) (fun _ => rfl) (ce_30 w σ_1) rfl (by decide) (by decide) rfl ?_
    refine g_goto C 21 dL_unlike_10 rfl ?_
    refine g_iconst (pc9 := 22) C rfl (nI (0)) dL_unlike_21 rfl ?_
    exact g_xi (by decide) (by decide) (g_ireturn C hr hlk dL_unlike_22 (Or.inl ⟨r_1, σ_1, q_1, rfl, rfl⟩))
set_option maxRecDepth 100000 in
set_option maxHeartbeats 4000000 in
theorem m_L_alike (l : Launch) (w : Wd) (sA : Nat → Nat) (σ : St) (x0 x1 : Int32) {post : Int32 → St → Prop} {thr : String → St → Prop} (hM : MXI l yX10_alike wsX10_alike 8 6 w sA [.ref (w.1 31), .int x0, .int x1] σ post thr) (hE : ∀ E σ9, thr E σ9 → ∃ n, (E, n) ∈ ([(xIOB, 1), (xISE, 2)] : List (String × Nat))) : MWI l yL_alike wsL_alike 9 6 w sA [.ref (w.1 31), .int x0, .int x1, .ref (w.1 30)] σ (WPi [(xIOB, 1), (xISE, 2)] post thr) := by
  refine MWI_of (cc := cL_alike) (maxL := 5) (ret := .int) (hh := [(0, 10, 13, 13), (0, 10, 17, 20)]) (by decide) rfl (Nat.le_of_ble_eq_true rfl) ?_
  intro p e s m args below meth c A X hr hlk
  have X : CW p s m args c w sA A cL_alike RL 5 wsL_alike [(0, 10, 13, 13), (0, 10, 17, 20)] := X
  have C := X.1
  have hx : ∀ q ∈ ([(xIOB, 1), (xISE, 2)] : List (String × Nat)), ∃ z ∈ ([((0, 10, 13, 13), xIOB), ((0, 10, 17, 20), xISE)] : List ((Nat × Nat × Nat × Nat) × String)), z.2 = q.1 := by decide +kernel
  refine g_aload_n (pc9 := 1) C rfl 3 dL_alike_0 rfl rfl ?_
  refine g_iconst (pc9 := 2) C rfl (nI (0)) dL_alike_1 rfl ?_
  refine g_aload_n (pc9 := 3) C rfl 0 dL_alike_2 rfl rfl ?_
  refine g_iload_n (pc9 := 4) C rfl 1 dL_alike_3 rfl rfl ?_
  refine g_iload_n (pc9 := 5) C rfl 2 dL_alike_4 rfl rfl ?_
  refine c_callVi (rest := [.int (nI (0)), .ref (w.1 30)]) X (pc9 := 8) rfl 31 [.int x0, .int x1] (nn := 2) rfl dL_alike_5 hM gL_alike_X10_alike (by decide) (ce_31 w σ) rfl rfl rfl (by decide +kernel) ⟨by decide, by decide⟩ rfl (Nat.le_of_ble_eq_true rfl) ⟨by decide, by decide⟩ [((0, 10, 13, 13), xIOB), ((0, 10, 17, 20), xISE)] rfl (by decide +kernel) (by decide +kernel) (fun E σ9 h => (hE E σ9 h).elim (fun _ h9 => hx _ h9)) ?_ (fun r_1 σ_1 q_1 => ?_)
  · intro z hz
    simp only [List.mem_cons, List.not_mem_nil, or_false] at hz
    rcases hz with rfl | rfl
    · intro σ9 q9 h9
      refine g_astore (pc9 := 15) C rfl [(4, .ref q9), (0, .ref (w.1 31)), (1, .int x0), (2, .int x1), (3, .ref (w.1 30))] dL_alike_13 (by decide) rfl ?_
      refine g_iconst (pc9 := 16) C rfl (nI (1)) dL_alike_15 rfl ?_
      exact g_xi (by decide) (by decide) (g_ireturn C hr hlk dL_alike_16 (Or.inr ⟨xIOB, 1, by decide +kernel, h9, rfl⟩))
    · intro σ9 q9 h9
      refine g_astore (pc9 := 19) C rfl [(4, .ref q9), (0, .ref (w.1 31)), (1, .int x0), (2, .int x1), (3, .ref (w.1 30))] dL_alike_17 (by decide) rfl ?_
      refine g_iconst (pc9 := 20) C rfl (nI (2)) dL_alike_19 rfl ?_
      exact g_xi (by decide) (by decide) (g_ireturn C hr hlk dL_alike_20 (Or.inr ⟨xISE, 2, by decide +kernel, h9, rfl⟩))
  · have q_1 := q_1
    refine g_i2l (pc9 := 9) C rfl dL_alike_8 ?_
    refine g_last (pc9 := 10) C rfl 30 0 (jA σ_1 30) dL_alike_9 (by decide) (fun _ => rfl) (ce_30 w σ_1) rfl (by decide) (by decide) rfl ?_
    refine g_goto C 21 dL_alike_10 rfl ?_
    refine g_iconst (pc9 := 22) C rfl (nI (0)) dL_alike_21 rfl ?_
    exact g_xi (by decide) (by decide) (g_ireturn C hr hlk dL_alike_22 (Or.inl ⟨r_1, σ_1, q_1, rfl, rfl⟩))

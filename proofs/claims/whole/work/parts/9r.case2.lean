/-! A step lemma a call -/
theorem k_sign (l : Launch) (hst : l.stackTraces = false) (w : Wd) (sA : Nat → Nat) (σ : St) (h : RX σ σ) (x0 : Int32) : ∃ P : Int32 → St → Prop, MWI l yL_sign wsL_sign 7 2 w sA [.ref (w.1 31), .int x0, .ref (w.1 30)] σ P ∧ ∀ r σ9, P r σ9 → ∃ PM : Int32 → St → Prop, MI l yX11_sign wsX11_sign (rmL 2) w [.ref (w.1 0), .int x0] σ9 PM ∧ ∀ b τ9, PM b τ9 → nF τ9 0 0 = r ∧ (r = nI 0 → jA τ9 30 0 = b.toInt64) ∧ RX τ9 τ9 := by
  obtain ⟨z, h16, hz, hz9, _⟩ := h.sig
  have hS := (s_sign (τ := σ) h z hz h16 x0)
  refine ⟨_, m_L_sign l w sA σ x0 (m_X10_sign l hst w sA σ z hz h16 x0) (fun E σ9 ht => (hS.2 E σ9 ht).elim (fun c q => ⟨c, q.1⟩)), fun r σ9 hw => ?_⟩
  have hag : mAg σ σ9 := lw_mi hS hw
  have h9 : RX σ σ9 := RX_m hag h
  have hz8 : nF σ9 0 13 = nI z := (congrFun (hag 0 (by omega)).2.2 13).trans hz9
  exact ⟨_, m_X11_sign l w σ9 z hz8 h16 x0, fun b τ9 hm => lw_i (by decide +kernel) (by decide +kernel) (s_sign h9 z hz h16 x0) hw hm⟩
theorem k_perfect (l : Launch) (hst : l.stackTraces = false) (w : Wd) (sA : Nat → Nat) (σ : St) (h : RX σ σ) (x0 x1 : Int32) : ∃ P : Int32 → St → Prop, MWI l yL_perfect wsL_perfect 8 2 w sA [.ref (w.1 31), .int x0, .int x1, .ref (w.1 30)] σ P ∧ ∀ r σ9, P r σ9 → ∃ PM : Int32 → St → Prop, MI l yX11_perfect wsX11_perfect (rmL 3) w [.ref (w.1 0), .int x0, .int x1] σ9 PM ∧ ∀ b τ9, PM b τ9 → nF τ9 0 0 = r ∧ (r = nI 0 → jA τ9 30 0 = b.toInt64) ∧ RX τ9 τ9 := by
  obtain ⟨z, h16, hz, hz9, _⟩ := h.sig
  have hS := (s_perfect (τ := σ) h z hz h16 x0 x1)
  refine ⟨_, m_L_perfect l w sA σ x0 x1 (m_X10_perfect l hst w sA σ (h.tre.1.1 8 (by omega)) z hz h16 x0 x1 (pf_pre h hz h16 x0).1) (fun E σ9 ht => (hS.2 E σ9 ht).elim (fun c q => ⟨c, q.1⟩)), fun r σ9 hw => ?_⟩
  have hag : mAg σ σ9 := lw_mi hS hw
  have h9 : RX σ σ9 := RX_m hag h
  have hz8 : nF σ9 0 13 = nI z := (congrFun (hag 0 (by omega)).2.2 13).trans hz9
  exact ⟨_, m_X11_perfect l w σ9 z hz8 h16 x0 x1 (pf_pre h9 hz h16 x0).2, fun b τ9 hm => lw_i (by decide +kernel) (by decide +kernel) (s_perfect h9 z hz h16 x0 x1) hw hm⟩
theorem k_state (l : Launch) (hst : l.stackTraces = false) (w : Wd) (sA : Nat → Nat) (σ : St) (h : RX σ σ) (x0 x1 x2 : Int32) : ∃ P : Int32 → St → Prop, MWI l yL_state wsL_state 8 3 w sA [.ref (w.1 31), .int x0, .int x1, .int x2] σ P ∧ ∀ r σ9, P r σ9 → ∃ PM : St → Prop, MV l yX11_state wsX11_state (rmL 2) w [.ref (w.1 0), .int x0, .int x1, .int x2] σ9 PM ∧ ∀ τ9, PM τ9 → nF τ9 0 0 = r ∧ RX τ9 τ9 := by
  have hS := (s_state (τ := σ) h x0 x1 x2)
  refine ⟨_, m_L_state l w sA σ x0 x1 x2 (m_X10_state l hst w sA σ x0 x1 x2) (fun E σ9 ht => (hS.2 E σ9 ht).elim (fun c q => ⟨c, q.1⟩)), fun r σ9 hw => ?_⟩
  have hag : mAg σ σ9 := lw_mv hS hw
  have h9 : RX σ σ9 := RX_m hag h
  exact ⟨_, m_X11_state l w σ9 x0 x1 x2, fun τ9 hm => lw_v (by decide +kernel) (s_state h9 x0 x1 x2) hw hm⟩
theorem k_changes (l : Launch) (hst : l.stackTraces = false) (w : Wd) (sA : Nat → Nat) (σ : St) (h : RX σ σ) (x0 x1 : Int32) : ∃ P : Int32 → St → Prop, MWI l yL_changes wsL_changes 9 3 w sA [.ref (w.1 31), .int x0, .int x1, .ref (w.1 30)] σ P ∧ ∀ r σ9, P r σ9 → ∃ PM : Int32 → St → Prop, MI l yX11_changes wsX11_changes (rmL 2) w [.ref (w.1 0), .int x0, .int x1] σ9 PM ∧ ∀ b τ9, PM b τ9 → nF τ9 0 0 = r ∧ (r = nI 0 → jA τ9 30 0 = b.toInt64) ∧ RX τ9 τ9 := by
  have hS := (s_changes (τ := σ) h x0 x1)
  refine ⟨_, m_L_changes l w sA σ x0 x1 (m_X10_changes l hst w sA σ h.tre.1 x0 x1) (fun E σ9 ht => (hS.2 E σ9 ht).elim (fun c q => ⟨c, q.1⟩)), fun r σ9 hw => ?_⟩
  have hag : mAg σ σ9 := lw_mi hS hw
  have h9 : RX σ σ9 := RX_m hag h
  exact ⟨_, m_X11_changes l w σ9 (fun i hi => (h9.sh hi).2.1) x0 x1, fun b τ9 hm => lw_i (by decide +kernel) (by decide +kernel) (s_changes h9 x0 x1) hw hm⟩
theorem k_kinds (l : Launch) (hst : l.stackTraces = false) (w : Wd) (sA : Nat → Nat) (σ : St) (h : RX σ σ) (x0 : Int32) : ∃ P : Int32 → St → Prop, MWI l yL_kinds wsL_kinds 7 1 w sA [.ref (w.1 31), .int x0] σ P ∧ ∀ r σ9, P r σ9 → ∃ PM : St → Prop, MV l yX11_kinds wsX11_kinds (rmL 2) w [.ref (w.1 0), .int x0] σ9 PM ∧ ∀ τ9, PM τ9 → nF τ9 0 0 = r ∧ RX τ9 τ9 := by
  have hS := (s_kinds (τ := σ) h x0)
  refine ⟨_, m_L_kinds l w sA σ x0 (m_X10_kinds l hst w sA σ x0) (fun E σ9 ht => (hS.2 E σ9 ht).elim (fun c q => ⟨c, q.1⟩)), fun r σ9 hw => ?_⟩
  have hag : mAg σ σ9 := lw_mv hS hw
  have h9 : RX σ σ9 := RX_m hag h
  exact ⟨_, m_X11_kinds l w σ9 x0, fun τ9 hm => lw_v (by decide +kernel) (s_kinds h9 x0) hw hm⟩
theorem k_distance (l : Launch) (hst : l.stackTraces = false) (w : Wd) (sA : Nat → Nat) (σ : St) (h : RX σ σ) (x0 x1 x2 : Int32) : ∃ P : Int32 → St → Prop, MWI l yL_distance wsL_distance 8 4 w sA [.ref (w.1 31), .int x0, .int x1, .int x2] σ P ∧ ∀ r σ9, P r σ9 → ∃ PM : St → Prop, MV l yX11_distance wsX11_distance (rmL 2) w [.ref (w.1 0), .int x0, .int x1, .int x2] σ9 PM ∧ ∀ τ9, PM τ9 → nF τ9 0 0 = r ∧ RX τ9 τ9 := by
  have hS := (s_distance (τ := σ) h x0 x1 x2)
  refine ⟨_, m_L_distance l w sA σ x0 x1 x2 (m_X10_distance l hst w sA σ x0 x1 x2) (fun E σ9 ht => (hS.2 E σ9 ht).elim (fun c q => ⟨c, q.1⟩)), fun r σ9 hw => ?_⟩
  have hag : mAg σ σ9 := lw_mv hS hw
  have h9 : RX σ σ9 := RX_m hag h
  exact ⟨_, m_X11_distance l w σ9 x0 x1 x2, fun τ9 hm => lw_v (by decide +kernel) (s_distance h9 x0 x1 x2) hw hm⟩
theorem k_clock (l : Launch) (hst : l.stackTraces = false) (w : Wd) (sA : Nat → Nat) (σ : St) (h : RX σ σ) (x0 : Int32) : ∃ P : Int32 → St → Prop, MWI l yL_clock wsL_clock 8 1 w sA [.ref (w.1 31), .int x0, .ref (w.1 30)] σ P ∧ ∀ r σ9, P r σ9 → ∃ PM : Int32 → St → Prop, MI l yX11_clock wsX11_clock (rmL 3) w [.ref (w.1 0), .int x0] σ9 PM ∧ ∀ b τ9, PM b τ9 → nF τ9 0 0 = r ∧ (r = nI 0 → jA τ9 30 0 = if b = 0 then 0 else 1) ∧ RX τ9 τ9 := by
  obtain ⟨N, h2, h12, hN, hN9, ⟨a0, ha, ha0⟩, ⟨b0, hb, hb0⟩, _⟩ := h.dis
  have hS := (s_clock (τ := σ) h N h12 h2 x0)
  refine ⟨_, m_L_clock l w sA σ x0 (m_X10_clock l hst w sA σ (h.tre.1.1 8 (by omega)) N hN h12 x0 (ck_pre h h12 h2).1) (fun E σ9 ht => (hS.2 E σ9 ht).elim (fun c q => ⟨c, q.1⟩)), fun r σ9 hw => ?_⟩
  have hag : mAg σ σ9 := lw_mz hS hw
  have h9 : RX σ σ9 := RX_m hag h
  have hN8 : nF σ9 0 16 = nI N := (congrFun (hag 0 (by omega)).2.2 16).trans hN9
  exact ⟨_, m_X11_clock l w σ9 N hN8 h12 x0 (ck_pre h9 h12 h2).2, fun b τ9 hm => lw_z (by decide +kernel) (by decide +kernel) (s_clock h9 N h12 h2 x0) hw hm⟩
theorem k_nearest (l : Launch) (hst : l.stackTraces = false) (w : Wd) (sA : Nat → Nat) (σ : St) (h : RX σ σ) (x0 : Int32) : ∃ P : Int32 → St → Prop, MWI l yL_nearest wsL_nearest 8 1 w sA [.ref (w.1 31), .int x0] σ P ∧ ∀ r σ9, P r σ9 → ∃ PM : St → Prop, MV l yX11_nearest wsX11_nearest (rmL 3) w [.ref (w.1 0), .int x0] σ9 PM ∧ ∀ τ9, PM τ9 → nF τ9 0 0 = r ∧ RX τ9 τ9 := by
  obtain ⟨N, h2, h12, hN, hN9, ⟨a0, ha, ha0⟩, ⟨b0, hb, hb0⟩, _⟩ := h.dis
  have hS := (s_nearest (τ := σ) h N a0 b0 h12 h2 ha hb x0)
  refine ⟨_, m_L_nearest l w sA σ x0 (m_X10_nearest l hst w sA σ (h.tre.1.1 8 (by omega)) N hN h12 h2 a0 b0 ha0 hb0 ha hb x0 (ne_pre h h12 h2 ha hb).1) (fun E σ9 ht => (hS.2 E σ9 ht).elim (fun c q => ⟨c, q.1⟩)), fun r σ9 hw => ?_⟩
  have hag : mAg σ σ9 := lw_mv hS hw
  have h9 : RX σ σ9 := RX_m hag h
  have hN8 : nF σ9 0 16 = nI N := (congrFun (hag 0 (by omega)).2.2 16).trans hN9
  exact ⟨_, m_X11_nearest l w σ9 N hN8 h12 h2 x0 (ne_pre h9 h12 h2 ha hb).2.1 (ne_pre h9 h12 h2 ha hb).2.2, fun τ9 hm => lw_v (by decide +kernel) (s_nearest h9 N a0 b0 h12 h2 ha hb x0) hw hm⟩
theorem k_doublings (l : Launch) (hst : l.stackTraces = false) (w : Wd) (sA : Nat → Nat) (σ : St) (h : RX σ σ) (x0 x1 : Int32) : ∃ P : Int32 → St → Prop, MWI l yL_doublings wsL_doublings 10 6 w sA [.ref (w.1 31), .int x0, .int x1, .ref (w.1 30)] σ P ∧ ∀ r σ9, P r σ9 → ∃ PM : Int32 → St → Prop, MI l yX11_doublings wsX11_doublings (rmL 4) w [.ref (w.1 0), .int x0, .int x1] σ9 PM ∧ ∀ b τ9, PM b τ9 → nF τ9 0 0 = r ∧ (r = nI 0 → jA τ9 30 0 = b.toInt64) ∧ RX τ9 τ9 := by
  have hS := (s_doublings (τ := σ) h x0 x1)
  refine ⟨_, m_L_doublings l w sA σ x0 x1 (m_X10_doublings l hst w sA σ h.tre.1 (lyH_of h) x0 x1) (fun E σ9 ht => (hS.2 E σ9 ht).elim (fun c q => ⟨c, q.1⟩)), fun r σ9 hw => ?_⟩
  have hag : mAg σ σ9 := lw_mi hS hw
  have h9 : RX σ σ9 := RX_m hag h
  exact ⟨_, m_X11_doublings l w σ9 (fun i hi => (h9.sh hi).2.1) (fun i hi => mtT_of (h9.sh hi)) x0 x1, fun b τ9 hm => lw_i (by decide +kernel) (by decide +kernel) (s_doublings h9 x0 x1) hw hm⟩
theorem k_losses (l : Launch) (hst : l.stackTraces = false) (w : Wd) (sA : Nat → Nat) (σ : St) (h : RX σ σ) (x0 x1 : Int32) : ∃ P : Int32 → St → Prop, MWI l yL_losses wsL_losses 10 6 w sA [.ref (w.1 31), .int x0, .int x1, .ref (w.1 30)] σ P ∧ ∀ r σ9, P r σ9 → ∃ PM : Int32 → St → Prop, MI l yX11_losses wsX11_losses (rmL 4) w [.ref (w.1 0), .int x0, .int x1] σ9 PM ∧ ∀ b τ9, PM b τ9 → nF τ9 0 0 = r ∧ (r = nI 0 → jA τ9 30 0 = b.toInt64) ∧ RX τ9 τ9 := by
  have hS := (s_losses (τ := σ) h x0 x1)
  refine ⟨_, m_L_losses l w sA σ x0 x1 (m_X10_losses l hst w sA σ h.tre.1 (lyH_of h) x0 x1) (fun E σ9 ht => (hS.2 E σ9 ht).elim (fun c q => ⟨c, q.1⟩)), fun r σ9 hw => ?_⟩
  have hag : mAg σ σ9 := lw_mi hS hw
  have h9 : RX σ σ9 := RX_m hag h
  exact ⟨_, m_X11_losses l w σ9 (fun i hi => (h9.sh hi).2.1) (fun i hi => mtT_of (h9.sh hi)) x0 x1, fun b τ9 hm => lw_i (by decide +kernel) (by decide +kernel) (s_losses h9 x0 x1) hw hm⟩
theorem k_orders (l : Launch) (hst : l.stackTraces = false) (w : Wd) (sA : Nat → Nat) (σ : St) (h : RX σ σ) (x0 : Int32) : ∃ P : Int32 → St → Prop, MWI l yL_orders wsL_orders 9 2 w sA [.ref (w.1 31), .int x0, .ref (w.1 30)] σ P ∧ ∀ r σ9, P r σ9 → ∃ PM : Int64 → St → Prop, ML l yX11_orders wsX11_orders (rmL 2) w [.ref (w.1 0), .int x0] σ9 PM ∧ ∀ b τ9, PM b τ9 → nF τ9 0 0 = r ∧ (r = nI 0 → jA τ9 30 0 = b) ∧ RX τ9 τ9 := by
  have hS := (s_orders (τ := σ) h x0)
  refine ⟨_, m_L_orders l w sA σ x0 (m_X10_orders l hst w sA σ h.tre.1 x0) (fun E σ9 ht => (hS.2 E σ9 ht).elim (fun c q => ⟨c, q.1⟩)), fun r σ9 hw => ?_⟩
  have hag : mAg σ σ9 := lw_ml hS hw
  have h9 : RX σ σ9 := RX_m hag h
  exact ⟨_, m_X11_orders l w σ9 (fun i hi => (h9.sh hi).2.1) x0 (or_pre h9), fun b τ9 hm => lw_l (by decide +kernel) (by decide +kernel) (s_orders h9 x0) hw hm⟩

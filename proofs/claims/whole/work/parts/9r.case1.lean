/-! A step lemma a call -/
theorem k_look (l : Launch) (hst : l.stackTraces = false) (w : Wd) (sA : Nat → Nat) (σ : St) (h : RX σ σ) (x0 x1 : Int32) : ∃ P : Int32 → St → Prop, MWI l yL_look wsL_look 9 3 w sA [.ref (w.1 31), .int x0, .int x1, .ref (w.1 30)] σ P ∧ ∀ r σ9, P r σ9 → ∃ PM : Int32 → St → Prop, MI l yX11_look wsX11_look (rmL 3) w [.ref (w.1 0), .int x0, .int x1] σ9 PM ∧ ∀ b τ9, PM b τ9 → nF τ9 0 0 = r ∧ (r = nI 0 → jA τ9 30 0 = b.toInt64) ∧ RX τ9 τ9 := by
  have hS := (s_look (τ := σ) h x0 x1)
  refine ⟨_, m_L_look l w sA σ x0 x1 (m_X10_look l hst w sA σ h.tre.1 x0 x1) (fun E σ9 ht => (hS.2 E σ9 ht).elim (fun c q => ⟨c, q.1⟩)), fun r σ9 hw => ?_⟩
  have hag : mAg σ σ9 := lw_mi hS hw
  have h9 : RX σ σ9 := RX_m hag h
  exact ⟨_, m_X11_look l w σ9 (fun i hi => (h9.sh hi).2.1) x0 x1, fun b τ9 hm => lw_i (by decide +kernel) (by decide +kernel) (s_look h9 x0 x1) hw hm⟩
theorem k_has (l : Launch) (hst : l.stackTraces = false) (w : Wd) (sA : Nat → Nat) (σ : St) (h : RX σ σ) (x0 x1 : Int32) : ∃ P : Int32 → St → Prop, MWI l yL_has wsL_has 9 3 w sA [.ref (w.1 31), .int x0, .int x1, .ref (w.1 30)] σ P ∧ ∀ r σ9, P r σ9 → ∃ PM : Int32 → St → Prop, MI l yX11_has wsX11_has (rmL 3) w [.ref (w.1 0), .int x0, .int x1] σ9 PM ∧ ∀ b τ9, PM b τ9 → nF τ9 0 0 = r ∧ (r = nI 0 → jA τ9 30 0 = if b = 0 then 0 else 1) ∧ RX τ9 τ9 := by
  have hS := (s_has (τ := σ) h x0 x1)
  refine ⟨_, m_L_has l w sA σ x0 x1 (m_X10_has l hst w sA σ h.tre.1 x0 x1) (fun E σ9 ht => (hS.2 E σ9 ht).elim (fun c q => ⟨c, q.1⟩)), fun r σ9 hw => ?_⟩
  have hag : mAg σ σ9 := lw_mz hS hw
  have h9 : RX σ σ9 := RX_m hag h
  exact ⟨_, m_X11_has l w σ9 (fun i hi => (h9.sh hi).2.1) x0 x1, fun b τ9 hm => lw_z (by decide +kernel) (by decide +kernel) (s_has h9 x0 x1) hw hm⟩
theorem k_least (l : Launch) (hst : l.stackTraces = false) (w : Wd) (sA : Nat → Nat) (σ : St) (h : RX σ σ) (x0 x1 : Int32) : ∃ P : Int32 → St → Prop, MWI l yL_least wsL_least 9 3 w sA [.ref (w.1 31), .int x0, .int x1, .ref (w.1 30)] σ P ∧ ∀ r σ9, P r σ9 → ∃ PM : Int32 → St → Prop, MI l yX11_least wsX11_least (rmL 3) w [.ref (w.1 0), .int x0, .int x1] σ9 PM ∧ ∀ b τ9, PM b τ9 → nF τ9 0 0 = r ∧ (r = nI 0 → jA τ9 30 0 = b.toInt64) ∧ RX τ9 τ9 := by
  have hS := (s_least (τ := σ) h x0 x1)
  refine ⟨_, m_L_least l w sA σ x0 x1 (m_X10_least l hst w sA σ h.tre.1 x0 x1) (fun E σ9 ht => (hS.2 E σ9 ht).elim (fun c q => ⟨c, q.1⟩)), fun r σ9 hw => ?_⟩
  have hag : mAg σ σ9 := lw_mi hS hw
  have h9 : RX σ σ9 := RX_m hag h
  exact ⟨_, m_X11_least l w σ9 (fun i hi => (h9.sh hi).2.1) x0 x1, fun b τ9 hm => lw_i (by decide +kernel) (by decide +kernel) (s_least h9 x0 x1) hw hm⟩
theorem k_nearer (l : Launch) (hst : l.stackTraces = false) (w : Wd) (sA : Nat → Nat) (σ : St) (h : RX σ σ) (x0 x1 x2 x3 : Int32) : ∃ P : Int32 → St → Prop, MWI l yL_nearer wsL_nearer 9 8 w sA [.ref (w.1 31), .int x0, .int x1, .int x2, .int x3, .ref (w.1 30)] σ P ∧ ∀ r σ9, P r σ9 → ∃ PM : Int32 → St → Prop, MI l yX11_nearer wsX11_nearer (rmL 5) w [.ref (w.1 0), .int x0, .int x1, .int x2, .int x3] σ9 PM ∧ ∀ b τ9, PM b τ9 → nF τ9 0 0 = r ∧ (r = nI 0 → jA τ9 30 0 = b.toInt64) ∧ RX τ9 τ9 := by
  have hS := (s_nearer (τ := σ) h x0 x1 x2 x3)
  refine ⟨_, m_L_nearer l w sA σ x0 x1 x2 x3 (m_X10_nearer l hst w sA σ h.tre.1 x0 x1 x2 x3) (fun E σ9 ht => (hS.2 E σ9 ht).elim (fun c q => ⟨c, q.1⟩)), fun r σ9 hw => ?_⟩
  have hag : mAg σ σ9 := lw_mi hS hw
  have h9 : RX σ σ9 := RX_m hag h
  exact ⟨_, m_X11_nearer l w σ9 (fun i hi => (h9.sh hi).2.1) x0 x1 x2 x3, fun b τ9 hm => lw_i (by decide +kernel) (by decide +kernel) (s_nearer h9 x0 x1 x2 x3) hw hm⟩
theorem k_unlike (l : Launch) (hst : l.stackTraces = false) (w : Wd) (sA : Nat → Nat) (σ : St) (h : RX σ σ) (x0 x1 : Int32) : ∃ P : Int32 → St → Prop, MWI l yL_unlike wsL_unlike 9 6 w sA [.ref (w.1 31), .int x0, .int x1, .ref (w.1 30)] σ P ∧ ∀ r σ9, P r σ9 → ∃ PM : Int32 → St → Prop, MI l yX11_unlike wsX11_unlike (rmL 4) w [.ref (w.1 0), .int x0, .int x1] σ9 PM ∧ ∀ b τ9, PM b τ9 → nF τ9 0 0 = r ∧ (r = nI 0 → jA τ9 30 0 = b.toInt64) ∧ RX τ9 τ9 := by
  have hS := (s_unlike (τ := σ) h x0 x1)
  refine ⟨_, m_L_unlike l w sA σ x0 x1 (m_X10_unlike l hst w sA σ h.tre.1 x0 x1) (fun E σ9 ht => (hS.2 E σ9 ht).elim (fun c q => ⟨c, q.1⟩)), fun r σ9 hw => ?_⟩
  have hag : mAg σ σ9 := lw_mi hS hw
  have h9 : RX σ σ9 := RX_m hag h
  exact ⟨_, m_X11_unlike l w σ9 (fun i hi => (h9.sh hi).2.1) x0 x1, fun b τ9 hm => lw_i (by decide +kernel) (by decide +kernel) (s_unlike h9 x0 x1) hw hm⟩
theorem k_alike (l : Launch) (hst : l.stackTraces = false) (w : Wd) (sA : Nat → Nat) (σ : St) (h : RX σ σ) (x0 x1 : Int32) : ∃ P : Int32 → St → Prop, MWI l yL_alike wsL_alike 9 6 w sA [.ref (w.1 31), .int x0, .int x1, .ref (w.1 30)] σ P ∧ ∀ r σ9, P r σ9 → ∃ PM : Int32 → St → Prop, MI l yX11_alike wsX11_alike (rmL 5) w [.ref (w.1 0), .int x0, .int x1] σ9 PM ∧ ∀ b τ9, PM b τ9 → nF τ9 0 0 = r ∧ (r = nI 0 → jA τ9 30 0 = b.toInt64) ∧ RX τ9 τ9 := by
  have hS := (s_alike (τ := σ) h x0 x1)
  refine ⟨_, m_L_alike l w sA σ x0 x1 (m_X10_alike l hst w sA σ h.tre.1 x0 x1) (fun E σ9 ht => (hS.2 E σ9 ht).elim (fun c q => ⟨c, q.1⟩)), fun r σ9 hw => ?_⟩
  have hag : mAg σ σ9 := lw_mi hS hw
  have h9 : RX σ σ9 := RX_m hag h
  exact ⟨_, m_X11_alike l w σ9 (fun i hi => (h9.sh hi).2.1) x0 x1, fun b τ9 hm => lw_i (by decide +kernel) (by decide +kernel) (s_alike h9 x0 x1) hw hm⟩
theorem k_cut (l : Launch) (hst : l.stackTraces = false) (w : Wd) (sA : Nat → Nat) (σ : St) (h : RX σ σ) (x0 x1 x2 : Int32) : ∃ P : Int32 → St → Prop, MWI l yL_cut wsL_cut 9 5 w sA [.ref (w.1 31), .int x0, .int x1, .int x2, .ref (w.1 30)] σ P ∧ ∀ r σ9, P r σ9 → ∃ PM : Int32 → St → Prop, MI l yX11_cut wsX11_cut (rmL 3) w [.ref (w.1 0), .int x0, .int x1, .int x2] σ9 PM ∧ ∀ b τ9, PM b τ9 → nF τ9 0 0 = r ∧ (r = nI 0 → jA τ9 30 0 = b.toInt64) ∧ RX τ9 τ9 := by
  have hS := (s_cut (τ := σ) h x0 x1 x2)
  refine ⟨_, m_L_cut l w sA σ x0 x1 x2 (m_X10_cut l hst w sA σ h.tre.1 x0 x1 x2 (cut_pre h x1).1) (fun E σ9 ht => (hS.2 E σ9 ht).elim (fun c q => ⟨c, q.1⟩)), fun r σ9 hw => ?_⟩
  have hag : mAg σ σ9 := lw_mi hS hw
  have h9 : RX σ σ9 := RX_m hag h
  exact ⟨_, m_X11_cut l w σ9 (fun i hi => (h9.sh hi).2.1) x0 x1 x2 (cut_pre h9 x1).2, fun b τ9 hm => lw_i (by decide +kernel) (by decide +kernel) (s_cut h9 x0 x1 x2) hw hm⟩
theorem k_strict (l : Launch) (hst : l.stackTraces = false) (w : Wd) (sA : Nat → Nat) (σ : St) (h : RX σ σ) (x0 x1 : Int32) : ∃ P : Int32 → St → Prop, MWI l yL_strict wsL_strict 10 19 w sA [.ref (w.1 31), .int x0, .int x1, .ref (w.1 30)] σ P ∧ ∀ r σ9, P r σ9 → ∃ PM : Int32 → St → Prop, MI l yX11_strict wsX11_strict (rmL 5) w [.ref (w.1 0), .int x0, .int x1] σ9 PM ∧ ∀ b τ9, PM b τ9 → nF τ9 0 0 = r ∧ (r = nI 0 → jA τ9 30 0 = b.toInt64) ∧ RX τ9 τ9 := by
  have hS := (s_strict (τ := σ) h x0 x1).2
  refine ⟨_, m_L_strict l w sA σ x0 x1 (m_X10_strict l hst w sA σ h.tre.1 x0 x1 (s_strict h x0 x1).1.1) (fun E σ9 ht => (hS.2 E σ9 ht).elim (fun c q => ⟨c, q.1⟩)), fun r σ9 hw => ?_⟩
  have hag : mAg σ σ9 := lw_mi hS hw
  have h9 : RX σ σ9 := RX_m hag h
  exact ⟨_, m_X11_strict l w σ9 (fun i hi => (h9.sh hi).2.1) x0 x1 (s_strict h9 x0 x1).1.2.1 (s_strict h9 x0 x1).1.2.2, fun b τ9 hm => lw_i (by decide +kernel) (by decide +kernel) (s_strict h9 x0 x1).2 hw hm⟩
theorem k_most (l : Launch) (hst : l.stackTraces = false) (w : Wd) (sA : Nat → Nat) (σ : St) (h : RX σ σ) (x0 x1 : Int32) : ∃ P : Int32 → St → Prop, MWI l yL_most wsL_most 10 19 w sA [.ref (w.1 31), .int x0, .int x1, .ref (w.1 30)] σ P ∧ ∀ r σ9, P r σ9 → ∃ PM : Int32 → St → Prop, MI l yX11_most wsX11_most (rmL 5) w [.ref (w.1 0), .int x0, .int x1] σ9 PM ∧ ∀ b τ9, PM b τ9 → nF τ9 0 0 = r ∧ (r = nI 0 → jA τ9 30 0 = b.toInt64) ∧ RX τ9 τ9 := by
  have hS := (s_most (τ := σ) h x0 x1).2
  refine ⟨_, m_L_most l w sA σ x0 x1 (m_X10_most l hst w sA σ h.tre.1 x0 x1 (s_most h x0 x1).1.1) (fun E σ9 ht => (hS.2 E σ9 ht).elim (fun c q => ⟨c, q.1⟩)), fun r σ9 hw => ?_⟩
  have hag : mAg σ σ9 := lw_mi hS hw
  have h9 : RX σ σ9 := RX_m hag h
  exact ⟨_, m_X11_most l w σ9 (fun i hi => (h9.sh hi).2.1) x0 x1 (s_most h9 x0 x1).1.2.1 (s_most h9 x0 x1).1.2.2, fun b τ9 hm => lw_i (by decide +kernel) (by decide +kernel) (s_most h9 x0 x1).2 hw hm⟩
theorem k_triple (l : Launch) (hst : l.stackTraces = false) (w : Wd) (sA : Nat → Nat) (σ : St) (h : RX σ σ) (x0 x1 x2 : Int32) : ∃ P : Int32 → St → Prop, MWI l yL_triple wsL_triple 8 5 w sA [.ref (w.1 31), .int x0, .int x1, .int x2, .ref (w.1 30)] σ P ∧ ∀ r σ9, P r σ9 → ∃ PM : Int32 → St → Prop, MI l yX11_triple wsX11_triple (rmL 2) w [.ref (w.1 0), .int x0, .int x1, .int x2] σ9 PM ∧ ∀ b τ9, PM b τ9 → nF τ9 0 0 = r ∧ (r = nI 0 → jA τ9 30 0 = b.toInt64) ∧ RX τ9 τ9 := by
  obtain ⟨z, h80, hz, hz9, _⟩ := h.tri
  have hS := (s_triple (τ := σ) h z hz h80 x0 x1 x2)
  refine ⟨_, m_L_triple l w sA σ x0 x1 x2 (m_X10_triple l hst w sA σ z hz h80 x0 x1 x2) (fun E σ9 ht => (hS.2 E σ9 ht).elim (fun c q => ⟨c, q.1⟩)), fun r σ9 hw => ?_⟩
  have hag : mAg σ σ9 := lw_mi hS hw
  have h9 : RX σ σ9 := RX_m hag h
  have hz8 : nF σ9 0 11 = nI z := (congrFun (hag 0 (by omega)).2.2 11).trans hz9
  exact ⟨_, m_X11_triple l w σ9 z hz8 h80 x0 x1 x2, fun b τ9 hm => lw_i (by decide +kernel) (by decide +kernel) (s_triple h9 z hz h80 x0 x1 x2) hw hm⟩
theorem k_build (l : Launch) (hst : l.stackTraces = false) (w : Wd) (sA : Nat → Nat) (σ : St) (h : RX σ σ) (x0 x1 : Int32) : ∃ P : Int32 → St → Prop, MWI l yL_build wsL_build 19 2 w sA [.ref (w.1 31), .int x0, .int x1, .ref (w.1 30)] σ P ∧ ∀ r σ9, P r σ9 → ∃ PM : Int32 → St → Prop, MI l yX11_build wsX11_build (rmL 3) w [.ref (w.1 0), .int x0, .int x1] σ9 PM ∧ ∀ b τ9, PM b τ9 → nF τ9 0 0 = r ∧ (r = nI 0 → jA τ9 30 0 = b.toInt64) ∧ RX τ9 τ9 := by
  obtain ⟨z, h80, hz, hz9, _⟩ := h.tri
  have hS := (s_build (τ := σ) h z hz h80 x0 x1)
  refine ⟨_, m_L_build l w sA σ x0 x1 (m_X10_build l hst w sA σ (h.tre.1.1 8 (by omega)) z hz h80 x0 x1 (bu_pre h hz h80 x0).1) (fun E σ9 ht => (hS.2 E σ9 ht).elim (fun c q => ⟨c, q.1⟩)), fun r σ9 hw => ?_⟩
  have hag : mAg σ σ9 := lw_mi hS hw
  have h9 : RX σ σ9 := RX_m hag h
  have hz8 : nF σ9 0 11 = nI z := (congrFun (hag 0 (by omega)).2.2 11).trans hz9
  exact ⟨_, m_X11_build l w σ9 z hz8 h80 x0 x1 (bu_pre h9 hz h80 x0).2.1 (bu_pre h9 hz h80 x0).2.2.1 (bu_pre h9 hz h80 x0).2.2.2, fun b τ9 hm => lw_i (by decide +kernel) (by decide +kernel) (s_build h9 z hz h80 x0 x1) hw hm⟩
theorem k_shown (l : Launch) (hst : l.stackTraces = false) (w : Wd) (sA : Nat → Nat) (σ : St) (h : RX σ σ) (x0 : Int32) : ∃ P : Int32 → St → Prop, MWI l yL_shown wsL_shown 9 3 w sA [.ref (w.1 31), .int x0, .ref (w.1 30)] σ P ∧ ∀ r σ9, P r σ9 → ∃ PM : Int32 → St → Prop, MI l yX11_shown wsX11_shown (rmL 4) w [.ref (w.1 0), .int x0] σ9 PM ∧ ∀ b τ9, PM b τ9 → nF τ9 0 0 = r ∧ (r = nI 0 → jA τ9 30 0 = b.toInt64) ∧ RX τ9 τ9 := by
  obtain ⟨z, h80, hz, hz9, TA, TB, TD9, hTr⟩ := tri_fun h
  have hS := (s_shown (τ := σ) h z TA TB TD9 (fun t ht => ⟨(hTr t ht).1, (hTr t ht).2.1, (hTr t ht).2.2.1, (hTr t ht).2.2.2.1, (hTr t ht).2.2.2.2.2.2.2.1, (hTr t ht).2.2.2.2.2.2.2.2⟩) x0)
  refine ⟨_, m_L_shown l w sA σ x0 (m_X10_shown l hst w sA σ h.tre.1 z hz h80 x0) (fun E σ9 ht => (hS.2 E σ9 ht).elim (fun c q => ⟨c, q.1⟩)), fun r σ9 hw => ?_⟩
  have hag : mAg σ σ9 := lw_mi hS hw
  have h9 : RX σ σ9 := RX_m hag h
  have hz8 : nF σ9 0 11 = nI z := (congrFun (hag 0 (by omega)).2.2 11).trans hz9
  have e5 : iA σ9 5 = iA σ 5 := (hag 5 (by omega)).1
  have e6 : iA σ9 6 = iA σ 6 := (hag 6 (by omega)).1
  have e7 : iA σ9 7 = iA σ 7 := (hag 7 (by omega)).1
  exact ⟨_, m_X11_shown l w σ9 (fun i hi => (h9.sh hi).2.1) z hz8 h80 TA TB TD9 (fun t ht => ⟨by rw [e5]; exact (hTr t ht).2.2.2.2.1, by rw [e6]; exact (hTr t ht).2.2.2.2.2.1, by rw [e7]; exact (hTr t ht).2.2.2.2.2.2.1, (hTr t ht).1, (hTr t ht).2.1, (hTr t ht).2.2.1⟩) x0, fun b τ9 hm => lw_i (by decide +kernel) (by decide +kernel) (s_shown h9 z TA TB TD9 (fun t ht => ⟨(hTr t ht).1, (hTr t ht).2.1, (hTr t ht).2.2.1, (hTr t ht).2.2.2.1, (hTr t ht).2.2.2.2.2.2.2.1, (hTr t ht).2.2.2.2.2.2.2.2⟩) x0) hw hm⟩

/-! A step lemma a call -/
theorem k_feed (l : Launch) (w : Wd) (σ : St) (h : RX σ σ) (x0 x1 x2 x3 x4 : Int32) : ∃ P : Int32 → St → Prop, MI l yX10_feed wsX10_feed (rmL 3) w [.ref (w.1 31), .int x0, .int x1, .int x2, .int x3, .int x4] σ P ∧ ∀ r σ9, P r σ9 → ∃ PM : Int32 → St → Prop, MI l yX11_feed wsX11_feed (rmL 1) w [.ref (w.1 0), .int x0, .int x1, .int x2, .int x3, .int x4] σ9 PM ∧ ∀ b τ9, PM b τ9 → b = r ∧ RX τ9 τ9 := by
  obtain ⟨L, hL4, hL, hL9, _⟩ := h.tape
  have hS := s_feed (τ := σ) h L hL hL4 x0 x1 x2 x3 x4
  refine ⟨_, m_X10_feed l w σ L hL hL4 x0 x1 x2 x3 x4, fun r σ9 hp => ?_⟩
  have hag : mAg σ σ9 := (hS r σ9 hp).1
  have h9 : RX σ σ9 := RX_m hag h
  have hL8 : nF σ9 0 2 = nI L := (congrFun (hag 0 (by omega)).2.2 2).trans hL9
  refine ⟨_, m_X11_feed l w σ9 L hL8 hL4 x0 x1 x2 x3 x4, fun b τ9 hm => ?_⟩
  obtain ⟨c1, c2, c3⟩ := (s_feed h9 L hL hL4 x0 x1 x2 x3 x4 r σ9 hp).2 b τ9 hm
  exact ⟨c2, RX_c c1 c3⟩
theorem k_end (l : Launch) (w : Wd) (σ : St) (h : RX σ σ) (x0 : Int32) : ∃ P : Int32 → St → Prop, MI l yX10_end wsX10_end (rmL 1) w [.ref (w.1 31), .int x0] σ P ∧ ∀ r σ9, P r σ9 → ∃ PM : Int32 → St → Prop, MI l yX11_end wsX11_end (rmL 1) w [.ref (w.1 0), .int x0] σ9 PM ∧ ∀ b τ9, PM b τ9 → b = r ∧ RX τ9 τ9 := by
  obtain ⟨L, hL4, hL, hL9, _⟩ := h.tape
  have hS := s_end (τ := σ) h L hL hL4 x0
  refine ⟨_, m_X10_end l w σ L hL hL4 x0, fun r σ9 hp => ?_⟩
  have hag : mAg σ σ9 := (hS r σ9 hp).1
  have h9 : RX σ σ9 := RX_m hag h
  have hL8 : nF σ9 0 2 = nI L := (congrFun (hag 0 (by omega)).2.2 2).trans hL9
  refine ⟨_, m_X11_end l w σ9 L hL8 hL4 x0, fun b τ9 hm => ?_⟩
  obtain ⟨c1, c2, c3⟩ := (s_end h9 L hL hL4 x0 r σ9 hp).2 b τ9 hm
  exact ⟨c2, RX_c c1 c3⟩
theorem k_fault (l : Launch) (w : Wd) (σ : St) (h : RX σ σ) (x0 : Int32) : ∃ P : Int32 → St → Prop, MI l yX10_fault wsX10_fault (rmL 1) w [.ref (w.1 31), .int x0] σ P ∧ ∀ r σ9, P r σ9 → ∃ PM : Int32 → St → Prop, MI l yX11_fault wsX11_fault (rmL 1) w [.ref (w.1 0), .int x0] σ9 PM ∧ ∀ b τ9, PM b τ9 → b = r ∧ RX τ9 τ9 := by
  have hS := s_fault (τ := σ) h x0
  refine ⟨_, m_X10_fault l w σ x0, fun r σ9 hp => ?_⟩
  have hag : mAg σ σ9 := (hS r σ9 hp).1
  have h9 : RX σ σ9 := RX_m hag h
  refine ⟨_, m_X11_fault l w σ9 x0, fun b τ9 hm => ?_⟩
  obtain ⟨c1, c2, c3⟩ := (s_fault h9 x0 r σ9 hp).2 b τ9 hm
  exact ⟨c2, RX_c c1 c3⟩
theorem k_written (l : Launch) (w : Wd) (σ : St) (h : RX σ σ) (x0 : Int32) : ∃ P : Int32 → St → Prop, MI l yX10_written wsX10_written (rmL 1) w [.ref (w.1 31), .int x0] σ P ∧ ∀ r σ9, P r σ9 → ∃ PM : Int32 → St → Prop, MI l yX11_written wsX11_written (rmL 1) w [.ref (w.1 0), .int x0] σ9 PM ∧ ∀ b τ9, PM b τ9 → b = r ∧ RX τ9 τ9 := by
  obtain ⟨⟨M, hM4, hM, hM9, _⟩, hwo⟩ := h.wri
  have hS := s_written (τ := σ) h M hM hM4 x0
  refine ⟨_, m_X10_written l w σ M hM hM4 x0, fun r σ9 hp => ?_⟩
  have hag : mAg σ σ9 := (hS r σ9 hp).1
  have h9 : RX σ σ9 := RX_m hag h
  have hM8 : nF σ9 0 18 = nI M := (congrFun (hag 0 (by omega)).2.2 18).trans hM9
  refine ⟨_, m_X11_written l w σ9 M hM8 hM4 x0, fun b τ9 hm => ?_⟩
  obtain ⟨c1, c2, c3⟩ := (s_written h9 M hM hM4 x0 r σ9 hp).2 b τ9 hm
  exact ⟨c2, RX_c c1 c3⟩
theorem k_again (l : Launch) (w : Wd) (σ : St) (h : RX σ σ) : ∃ P : Int32 → St → Prop, MI l yX10_again wsX10_again (rmL 2) w [.ref (w.1 31)] σ P ∧ ∀ r σ9, P r σ9 → ∃ PM : Int32 → St → Prop, MI l yX11_again wsX11_again (rmL 1) w [.ref (w.1 0)] σ9 PM ∧ ∀ b τ9, PM b τ9 → b = r ∧ RX τ9 τ9 := by
  obtain ⟨L, hL4, hL, hL9, _⟩ := h.tape
  obtain ⟨⟨M, hM4, hM, hM9, _⟩, hwo⟩ := h.wri
  have hS := s_again (τ := σ) h L hL hL4 M hM hM4
  refine ⟨_, m_X10_again l w σ L hL hL4 M hM hM4, fun r σ9 hp => ?_⟩
  have hag : mAg σ σ9 := (hS r σ9 hp).1
  have h9 : RX σ σ9 := RX_m hag h
  have hL8 : nF σ9 0 2 = nI L := (congrFun (hag 0 (by omega)).2.2 2).trans hL9
  have hM8 : nF σ9 0 18 = nI M := (congrFun (hag 0 (by omega)).2.2 18).trans hM9
  refine ⟨_, m_X11_again l w σ9 L hL8 hL4 M hM8 hM4, fun b τ9 hm => ?_⟩
  obtain ⟨c1, c2, c3⟩ := (s_again h9 L hL hL4 M hM hM4 r σ9 hp).2 b τ9 hm
  exact ⟨c2, RX_c c1 c3⟩
theorem k_untriple (l : Launch) (w : Wd) (σ : St) (h : RX σ σ) : ∃ P : Int32 → St → Prop, MI l yX10_untriple wsX10_untriple (rmL 1) w [.ref (w.1 31)] σ P ∧ ∀ r σ9, P r σ9 → ∃ PM : Int32 → St → Prop, MI l yX11_untriple wsX11_untriple (rmL 1) w [.ref (w.1 0)] σ9 PM ∧ ∀ b τ9, PM b τ9 → b = r ∧ RX τ9 τ9 := by
  have hS := s_untriple (τ := σ) h 
  refine ⟨_, m_X10_untriple l w σ , fun r σ9 hp => ?_⟩
  have hag : mAg σ σ9 := (hS r σ9 hp).1
  have h9 : RX σ σ9 := RX_m hag h
  refine ⟨_, m_X11_untriple l w σ9 , fun b τ9 hm => ?_⟩
  obtain ⟨c1, c2, c3⟩ := (s_untriple h9  r σ9 hp).2 b τ9 hm
  exact ⟨c2, RX_c c1 c3⟩
theorem k_unsign (l : Launch) (w : Wd) (σ : St) (h : RX σ σ) : ∃ P : Int32 → St → Prop, MI l yX10_unsign wsX10_unsign (rmL 1) w [.ref (w.1 31)] σ P ∧ ∀ r σ9, P r σ9 → ∃ PM : Int32 → St → Prop, MI l yX11_unsign wsX11_unsign (rmL 1) w [.ref (w.1 0)] σ9 PM ∧ ∀ b τ9, PM b τ9 → b = r ∧ RX τ9 τ9 := by
  have hS := s_unsign (τ := σ) h 
  refine ⟨_, m_X10_unsign l w σ , fun r σ9 hp => ?_⟩
  have hag : mAg σ σ9 := (hS r σ9 hp).1
  have h9 : RX σ σ9 := RX_m hag h
  refine ⟨_, m_X11_unsign l w σ9 , fun b τ9 hm => ?_⟩
  obtain ⟨c1, c2, c3⟩ := (s_unsign h9  r σ9 hp).2 b τ9 hm
  exact ⟨c2, RX_c c1 c3⟩
theorem k_fourPoints (l : Launch) (w : Wd) (σ : St) (h : RX σ σ) : ∃ P : Int32 → St → Prop, MI l yX10_fourPoints wsX10_fourPoints (rmL 4) w [.ref (w.1 31)] σ P ∧ ∀ r σ9, P r σ9 → ∃ PM : Int32 → St → Prop, MI l yX11_fourPoints wsX11_fourPoints (rmL 2) w [.ref (w.1 0)] σ9 PM ∧ ∀ b τ9, PM b τ9 → b = r ∧ RX τ9 τ9 := by
  obtain ⟨N, h2, h12, hN, hN9, ⟨a0, ha, ha0⟩, ⟨b0, hb, hb0⟩, _⟩ := h.dis
  have hS := s_fourPoints (τ := σ) h N h12
  refine ⟨_, m_X10_fourPoints l w σ N hN h12, fun r σ9 hp => ?_⟩
  have hag : mAg σ σ9 := (hS r σ9 hp).1
  have h9 : RX σ σ9 := RX_m hag h
  have hN8 : nF σ9 0 16 = nI N := (congrFun (hag 0 (by omega)).2.2 16).trans hN9
  refine ⟨_, m_X11_fourPoints l w σ9 N hN8 h12, fun b τ9 hm => ?_⟩
  obtain ⟨c1, c2, c3⟩ := (s_fourPoints h9 N h12 r σ9 hp).2 b τ9 hm
  exact ⟨c2, RX_c c1 c3⟩
theorem k_count (l : Launch) (w : Wd) (σ : St) (h : RX σ σ) (x0 : Int32) : ∃ P : Int32 → St → Prop, MI l yX10_count wsX10_count (rmL 3) w [.ref (w.1 31), .int x0] σ P ∧ ∀ r σ9, P r σ9 → ∃ PM : Int32 → St → Prop, MI l yX11_count wsX11_count (rmL 1) w [.ref (w.1 0), .int x0] σ9 PM ∧ ∀ b τ9, PM b τ9 → b = r ∧ RX τ9 τ9 := by
  have hS := s_count (τ := σ) h x0
  refine ⟨_, m_X10_count l w σ h.tre.1 x0, fun r σ9 hp => ?_⟩
  have hag : mAg σ σ9 := (hS r σ9 hp).1
  have h9 : RX σ σ9 := RX_m hag h
  refine ⟨_, m_X11_count l w σ9 (fun i hi => (h9.sh hi).2.1) x0, fun b τ9 hm => ?_⟩
  obtain ⟨c1, c2, c3⟩ := (s_count h9 x0 r σ9 hp).2 b τ9 hm
  exact ⟨c2, RX_c c1 c3⟩
theorem k_read (l : Launch) (hst : l.stackTraces = false) (w : Wd) (sA : Nat → Nat) (σ : St) (h : RX σ σ) (x0 : Int32) : ∃ P : Int32 → St → Prop, MWI l yL_read wsL_read 8 2 w sA [.ref (w.1 31), .int x0, .ref (w.1 30)] σ P ∧ ∀ r σ9, P r σ9 → ∃ PM : Int32 → St → Prop, MI l yX11_read wsX11_read (rmL 3) w [.ref (w.1 0), .int x0] σ9 PM ∧ ∀ b τ9, PM b τ9 → nF τ9 0 0 = r ∧ (r = nI 0 → jA τ9 30 0 = b.toInt64) ∧ RX τ9 τ9 := by
  obtain ⟨L, hL4, hL, hL9, _⟩ := h.tape
  have hS := (s_read (τ := σ) h L hL4 x0)
  refine ⟨_, m_L_read l w sA σ x0 (m_X10_read l hst w sA σ h.tre.1 L hL hL4 x0) (fun E σ9 ht => (hS.2 E σ9 ht).elim (fun c q => ⟨c, q.1⟩)), fun r σ9 hw => ?_⟩
  have hag : mAg σ σ9 := lw_mi hS hw
  have h9 : RX σ σ9 := RX_m hag h
  have hL8 : nF σ9 0 2 = nI L := (congrFun (hag 0 (by omega)).2.2 2).trans hL9
  exact ⟨_, m_X11_read l w σ9 L hL8 hL4 x0, fun b τ9 hm => lw_i (by decide +kernel) (by decide +kernel) (s_read h9 L hL4 x0) hw hm⟩
theorem k_write (l : Launch) (hst : l.stackTraces = false) (w : Wd) (sA : Nat → Nat) (σ : St) (h : RX σ σ) (x0 : Int32) : ∃ P : Int32 → St → Prop, MWI l yL_write wsL_write 30 2 w sA [.ref (w.1 31), .int x0, .ref (w.1 30)] σ P ∧ ∀ r σ9, P r σ9 → ∃ PM : Int32 → St → Prop, MI l yX11_write wsX11_write (rmL 3) w [.ref (w.1 0), .int x0] σ9 PM ∧ ∀ b τ9, PM b τ9 → nF τ9 0 0 = r ∧ (r = nI 0 → jA τ9 30 0 = b.toInt64) ∧ RX τ9 τ9 := by
  obtain ⟨⟨M, hM4, hM, hM9, _⟩, hwo⟩ := h.wri
  have hS := (s_write (τ := σ) h x0)
  refine ⟨_, m_L_write l w sA σ x0 (m_X10_write l hst w sA σ h.tre.1 hwo x0) (fun E σ9 ht => (hS.2 E σ9 ht).elim (fun c q => ⟨c, q.1⟩)), fun r σ9 hw => ?_⟩
  have hag : mAg σ σ9 := lw_mi hS hw
  have h9 : RX σ σ9 := RX_m hag h
  have hM8 : nF σ9 0 18 = nI M := (congrFun (hag 0 (by omega)).2.2 18).trans hM9
  exact ⟨_, m_X11_write l w σ9 (fun i hi => (h9.sh hi).2.1) x0 (wr_pre h9), fun b τ9 hm => lw_i (by decide +kernel) (by decide +kernel) (s_write h9 x0) hw hm⟩
theorem k_clear (l : Launch) (hst : l.stackTraces = false) (w : Wd) (sA : Nat → Nat) (σ : St) (h : RX σ σ) (x0 : Int32) : ∃ P : Int32 → St → Prop, MWI l yL_clear wsL_clear 8 1 w sA [.ref (w.1 31), .int x0, .ref (w.1 30)] σ P ∧ ∀ r σ9, P r σ9 → ∃ PM : Int32 → St → Prop, MI l yX11_clear wsX11_clear (rmL 2) w [.ref (w.1 0), .int x0] σ9 PM ∧ ∀ b τ9, PM b τ9 → nF τ9 0 0 = r ∧ (r = nI 0 → jA τ9 30 0 = if b = 0 then 0 else 1) ∧ RX τ9 τ9 := by
  have hS := (s_clear (τ := σ) h x0)
  refine ⟨_, m_L_clear l w sA σ x0 (m_X10_clear l hst w sA σ h.tre.1 x0) (fun E σ9 ht => (hS.2 E σ9 ht).elim (fun c q => ⟨c, q.1⟩)), fun r σ9 hw => ?_⟩
  have hag : mAg σ σ9 := lw_mz hS hw
  have h9 : RX σ σ9 := RX_m hag h
  exact ⟨_, m_X11_clear l w σ9 (fun i hi => (h9.sh hi).2.1) x0, fun b τ9 hm => lw_z (by decide +kernel) (by decide +kernel) (s_clear h9 x0) hw hm⟩

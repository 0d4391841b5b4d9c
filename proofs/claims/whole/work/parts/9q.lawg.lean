/-! The law's steps: what class and reference owe each other behind both calls -/
theorem RX_J30 {σ τ : St} {f : Nat → Int64} (h : RX σ τ) : RX (sJ σ 30 f) τ := ⟨h.tape, h.fau, h.wri, h.tri, h.sig, h.sta, h.dis, rTre_c (tAg.J tAg.rf) h.tre⟩
section lw
variable {ex : List (String × Nat)} {thr : String → St → Prop} {σ σ9 τ τ9 : St} {r : Int32}
theorem lw_mi {post pm : Int32 → St → Prop} (hS : SX ex post thr pm σ τ) (hw : WPi ex post thr r σ9) : mAg σ σ9 := by
  rcases hw with ⟨v, σ8, hp, rfl, rfl⟩ | ⟨E, n, hmem, ht, rfl⟩
  · exact (hS.1 v σ8 hp).1.J (by omega)
  · obtain ⟨c, _, h, _⟩ := hS.2 E σ9 ht
    exact h
theorem lw_mz {post pm : Int32 → St → Prop} (hS : SX ex post thr pm σ τ) (hw : WPz ex post thr r σ9) : mAg σ σ9 := by
  rcases hw with ⟨v, σ8, hp, rfl, rfl⟩ | ⟨E, n, hmem, ht, rfl⟩
  · exact (hS.1 v σ8 hp).1.J (by omega)
  · obtain ⟨c, _, h, _⟩ := hS.2 E σ9 ht
    exact h
theorem lw_ml {post pm : Int64 → St → Prop} (hS : SX ex post thr pm σ τ) (hw : WPl ex post thr r σ9) : mAg σ σ9 := by
  rcases hw with ⟨v, σ8, hp, rfl, rfl⟩ | ⟨E, n, hmem, ht, rfl⟩
  · exact (hS.1 v σ8 hp).1.J (by omega)
  · obtain ⟨c, _, h, _⟩ := hS.2 E σ9 ht
    exact h
theorem lw_mv {post pm : St → Prop} (hS : SV ex post thr pm σ τ) (hw : WPv ex post thr r σ9) : mAg σ σ9 := by
  rcases hw with ⟨hp, rfl⟩ | ⟨E, n, hmem, ht, rfl⟩
  · exact (hS.1 σ9 hp).1
  · obtain ⟨c, _, h, _⟩ := hS.2 E σ9 ht
    exact h
theorem lw_i {post pm : Int32 → St → Prop} {b : Int32} (hex : ∀ q ∈ ex, ¬ nI q.2 = nI 0) (hun : ∀ q ∈ ex, ∀ u ∈ ex, q.1 = u.1 → q.2 = u.2) (hS : SX ex post thr pm σ σ9) (hw : WPi ex post thr r σ9) (hm : pm b τ9) : nF τ9 0 0 = r ∧ (r = nI 0 → jA τ9 30 0 = b.toInt64) ∧ RX τ9 τ9 := by
  rcases hw with ⟨v, σ8, hp, rfl, rfl⟩ | ⟨E, n, hmem, ht, rfl⟩
  · obtain ⟨c1, c2, c3, c4⟩ := (hS.1 v σ8 hp).2 b τ9 hm
    refine ⟨c2, fun _ => ?_, RX_c c1 (RX_J30 c4)⟩
    rw [c1.2.2, c3, jA_s]
    exact pk_uLs
  · obtain ⟨c, hc, _, h2⟩ := hS.2 E σ9 ht
    obtain ⟨c1, c2, c4⟩ := h2 b τ9 hm
    have e : c = n := hun _ hc _ hmem rfl
    subst e
    exact ⟨c2, fun z => absurd z (hex _ hmem), RX_c c1 c4⟩
theorem lw_z {post pm : Int32 → St → Prop} {b : Int32} (hex : ∀ q ∈ ex, ¬ nI q.2 = nI 0) (hun : ∀ q ∈ ex, ∀ u ∈ ex, q.1 = u.1 → q.2 = u.2) (hS : SX ex post thr pm σ σ9) (hw : WPz ex post thr r σ9) (hm : pm b τ9) : nF τ9 0 0 = r ∧ (r = nI 0 → jA τ9 30 0 = if b = 0 then 0 else 1) ∧ RX τ9 τ9 := by
  rcases hw with ⟨v, σ8, hp, rfl, rfl⟩ | ⟨E, n, hmem, ht, rfl⟩
  · obtain ⟨c1, c2, c3, c4⟩ := (hS.1 v σ8 hp).2 b τ9 hm
    refine ⟨c2, fun _ => ?_, RX_c c1 (RX_J30 c4)⟩
    rw [c1.2.2, c3, jA_s]
    exact pk_uLs
  · obtain ⟨c, hc, _, h2⟩ := hS.2 E σ9 ht
    obtain ⟨c1, c2, c4⟩ := h2 b τ9 hm
    have e : c = n := hun _ hc _ hmem rfl
    subst e
    exact ⟨c2, fun z => absurd z (hex _ hmem), RX_c c1 c4⟩
theorem lw_l {post pm : Int64 → St → Prop} {b : Int64} (hex : ∀ q ∈ ex, ¬ nI q.2 = nI 0) (hun : ∀ q ∈ ex, ∀ u ∈ ex, q.1 = u.1 → q.2 = u.2) (hS : SX ex post thr pm σ σ9) (hw : WPl ex post thr r σ9) (hm : pm b τ9) : nF τ9 0 0 = r ∧ (r = nI 0 → jA τ9 30 0 = b) ∧ RX τ9 τ9 := by
  rcases hw with ⟨v, σ8, hp, rfl, rfl⟩ | ⟨E, n, hmem, ht, rfl⟩
  · obtain ⟨c1, c2, c3, c4⟩ := (hS.1 v σ8 hp).2 b τ9 hm
    refine ⟨c2, fun _ => ?_, RX_c c1 (RX_J30 c4)⟩
    rw [c1.2.2, c3, jA_s]
    exact pk_uLs
  · obtain ⟨c, hc, _, h2⟩ := hS.2 E σ9 ht
    obtain ⟨c1, c2, c4⟩ := h2 b τ9 hm
    have e : c = n := hun _ hc _ hmem rfl
    subst e
    exact ⟨c2, fun z => absurd z (hex _ hmem), RX_c c1 c4⟩
theorem lw_v {post pm : St → Prop} (hun : ∀ q ∈ ex, ∀ u ∈ ex, q.1 = u.1 → q.2 = u.2) (hS : SV ex post thr pm σ σ9) (hw : WPv ex post thr r σ9) (hm : pm τ9) : nF τ9 0 0 = r ∧ RX τ9 τ9 := by
  rcases hw with ⟨hp, rfl⟩ | ⟨E, n, hmem, ht, rfl⟩
  · obtain ⟨c1, c2, c4⟩ := (hS.1 σ9 hp).2 τ9 hm
    exact ⟨c2, RX_c c1 c4⟩
  · obtain ⟨c, hc, _, h2⟩ := hS.2 E σ9 ht
    obtain ⟨c1, c2, c4⟩ := h2 τ9 hm
    have e : c = n := hun _ hc _ hmem rfl
    subst e
    exact ⟨c2, RX_c c1 c4⟩
end lw
theorem tri_fun {σ τ : St} (h : RX σ τ) : ∃ z, z ≤ 80 ∧ nF σ 43 2 = nI z ∧ nF τ 0 11 = nI z ∧ ∃ TA TB TD : Nat → Nat, ∀ t, t < z → TA t < 12 ∧ TB t < 12 ∧ TD t < 12 ∧ ¬ (TA t = TB t ∨ TA t = TD t ∨ TB t = TD t) ∧ iA τ 5 t = nI (TA t) ∧ iA τ 6 t = nI (TB t) ∧ iA τ 7 t = nI (TD t) ∧ iA σ 44 t = bitI (TA t) ||| bitI (TB t) ∧ iA σ 45 t = bitI (TD t) := by
  obtain ⟨z, h80, hz, hz9, ht⟩ := h.tri
  have hq : ∀ t, ∃ q : Nat × Nat × Nat, t < z → q.1 < 12 ∧ q.2.1 < 12 ∧ q.2.2 < 12 ∧ ¬ (q.1 = q.2.1 ∨ q.1 = q.2.2 ∨ q.2.1 = q.2.2) ∧ iA τ 5 t = nI q.1 ∧ iA τ 6 t = nI q.2.1 ∧ iA τ 7 t = nI q.2.2 ∧ iA σ 44 t = bitI q.1 ||| bitI q.2.1 ∧ iA σ 45 t = bitI q.2.2 := fun t => by
    by_cases e : t < z
    · obtain ⟨a, b, d, q⟩ := ht t e
      exact ⟨(a, b, d), fun _ => q⟩
    · exact ⟨(0, 0, 0), fun w => absurd w e⟩
  obtain ⟨f, hf⟩ := Classical.axiomOfChoice hq
  exact ⟨z, h80, hz, hz9, fun t => (f t).1, fun t => (f t).2.1, fun t => (f t).2.2, hf⟩

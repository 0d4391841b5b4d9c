/-! The start: what a throw and the constructor need of the first state -/
theorem lw_str {s : State} {args : Array Value} (hts : ∀ u ∈ lw_tbl, u.before args s = true) (hgv : (Jvm.Cond.and given_1 narrow_1).before args s = true) : ∃ sA : Nat → Nat, ∀ q ∈ strL, vk_R RX10 q.1 q.2 (sA q.1) s := by
  have hs := flat_of_before _ hgv
  have m1 : ∀ q ∈ strL, Cond.stringRef RX10 q.1 q.2 ∈ lw_tbl := by decide +kernel
  have m0 : ∀ q ∈ strL, Cond.exactly (.string RX10 q.1) "java/lang/String" ∈ flatC (Jvm.Cond.and given_1 narrow_1) := by decide +kernel
  have hq : ∀ k : Nat, ∃ a : Nat, ∀ q ∈ strL, q.1 = k → vk_R RX10 q.1 q.2 a s := by
    intro k
    by_cases e : ∃ q, q ∈ strL ∧ q.1 = k
    · obtain ⟨q0, h0, e0⟩ := e
      have h2 : (Cond.exactly (.string RX10 q0.1) "java/lang/String").before args s = true := hs _ (m0 q0 h0)
      obtain ⟨a, _, _, _, ea, _⟩ := Cond.exactly_spec h2
      refine ⟨a, fun q hq eq => ?_⟩
      have h1 := hts _ (m1 q hq)
      have e9 : q.1 = q0.1 := eq.trans e0.symm
      exact vk_R.of h1 (by rw [e9]; exact ea)
    · exact ⟨0, fun q hq eq => absurd ⟨q, hq, eq⟩ e⟩
  obtain ⟨f, hf⟩ := Classical.axiomOfChoice hq
  exact ⟨f, fun q hq => hf q.1 q hq rfl⟩
theorem lw_XF {s : State} {args : Array Value} {A : Nat → Prop} (hts : ∀ u ∈ lw_tbl, u.before args s = true) (hgv : (Jvm.Cond.and given_1 narrow_1).before args s = true) (hA : ∀ a : Nat, a < s.heap.size → ¬ A a) : ∃ sA : Nat → Nat, XF sA A s s.heap := by
  have hs := flat_of_before _ hgv
  obtain ⟨sA, hR⟩ := lw_str hts hgv
  have m2 : ∀ u ∈ XB, u ∈ lw_tbl := by decide +kernel
  have m3 : ∀ u ∈ XB, u.onTables = true := by decide +kernel
  exact ⟨sA, vx_Zqof (hts (.laysStatic Bundle.tN "UNASSIGNED_STACK" Bundle.steD) (by decide +kernel)) (hts (.initialized Bundle.tN) (by decide +kernel)) (hs (.isRef (.static Bundle.tN "UNASSIGNED_STACK" Bundle.steD)) (by decide +kernel)) hA, vx_Zqof (hts (.laysStatic Bundle.tN "SUPPRESSED_SENTINEL" Bundle.listD) (by decide +kernel)) (hts (.initialized Bundle.tN) (by decide +kernel)) (hs (.isRef (.static Bundle.tN "SUPPRESSED_SENTINEL" Bundle.listD)) (by decide +kernel)) hA, hR, fun u hu => va_Nw.of (m3 u hu) (hts u (m2 u hu))⟩
theorem lw_NC {s : State} {args : Array Value} (hgv : (Jvm.Cond.and given_1 narrow_1).before args s = true) : NCs s := by
  have hs := flat_of_before _ hgv
  intro a ha b hb e
  refine va_Nc.of (hs (Cond.not (.castable a b)) ?_)
  revert a b
  decide +kernel
theorem lw_b10 {s : State} {args : Array Value} (hts : ∀ u ∈ lw_tbl, u.before args s = true) : b10N s :=
  ⟨va_AO.of (hts (.arrayOver (.object RX7)) (by decide +kernel)), va_Nw.of rfl (hts _ (by decide +kernel)), va_Nw.of rfl (hts _ (by decide +kernel)), va_Nw.of rfl (hts _ (by decide +kernel)), va_Nw.of rfl (hts _ (by decide +kernel)), va_Nw.of rfl (hts _ (by decide +kernel)), va_Nw.of rfl (hts _ (by decide +kernel)), va_Nw.of rfl (hts _ (by decide +kernel)), va_Nw.of rfl (hts _ (by decide +kernel)), va_Nw.of rfl (hts _ (by decide +kernel)), va_Nw.of rfl (hts _ (by decide +kernel))⟩
theorem b10N_w {s U : State} (hW : s.WarmedH U.vm) (h : b10N s) : b10N U :=
  ⟨va_AO.moved hW.alike h.1, va_Nw.warmM hW h.2.1, va_Nw.warmM hW h.2.2.1, va_Nw.warmM hW h.2.2.2.1, va_Nw.warmM hW h.2.2.2.2.1, va_Nw.warmM hW h.2.2.2.2.2.1, va_Nw.warmM hW h.2.2.2.2.2.2.1, va_Nw.warmM hW h.2.2.2.2.2.2.2.1, va_Nw.warmM hW h.2.2.2.2.2.2.2.2.1, va_Nw.warmM hW h.2.2.2.2.2.2.2.2.2.1, va_Nw.warmM hW h.2.2.2.2.2.2.2.2.2.2⟩
theorem b10N_c {U : State} {g : JFrame} {mk : MethodId} {a : Array Value} (h : b10N U) : b10N (U.calling g mk a) :=
  ⟨va_AO.moved (u := U) (U := U.calling g mk a) (Vm.Alike.refl U.vm) h.1, va_Nw.same (u := U) (U := U.calling g mk a) rfl rfl h.2.1, va_Nw.same (u := U) (U := U.calling g mk a) rfl rfl h.2.2.1, va_Nw.same (u := U) (U := U.calling g mk a) rfl rfl h.2.2.2.1, va_Nw.same (u := U) (U := U.calling g mk a) rfl rfl h.2.2.2.2.1, va_Nw.same (u := U) (U := U.calling g mk a) rfl rfl h.2.2.2.2.2.1, va_Nw.same (u := U) (U := U.calling g mk a) rfl rfl h.2.2.2.2.2.2.1, va_Nw.same (u := U) (U := U.calling g mk a) rfl rfl h.2.2.2.2.2.2.2.1, va_Nw.same (u := U) (U := U.calling g mk a) rfl rfl h.2.2.2.2.2.2.2.2.1, va_Nw.same (u := U) (U := U.calling g mk a) rfl rfl h.2.2.2.2.2.2.2.2.2.1, va_Nw.same (u := U) (U := U.calling g mk a) rfl rfl h.2.2.2.2.2.2.2.2.2.2⟩

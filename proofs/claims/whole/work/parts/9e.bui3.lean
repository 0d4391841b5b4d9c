/-! build -/
theorem wl_mp {σ τ : St} (h : RX σ τ) {z : Nat} (hz : nF σ 43 2 = nI z) (h80 : z ≤ 80) (x q : Int32) : ∀ t, t ≤ z → wlU (iA σ 44) (iA σ 45) x q t = mpU τ x q t
  | 0, _ => rfl
  | t + 1, ht => by
    have ih := wl_mp h hz h80 x q t (by omega)
    obtain ⟨z9, hz9, f1, f2, f3⟩ := h.tri
    have e : z9 = z := (nI_eq (by omega) (by omega)).mp (by rw [← f1, hz])
    subst e
    obtain ⟨a, b, d, ha, hb, hd, _, e5, e6, e7, e44, e45⟩ := f3 t (by omega)
    show wlS x (iA σ 44 t) (iA σ 45 t) (wlU (iA σ 44) (iA σ 45) x q t) = mpS τ x t (mpU τ x q t)
    rw [ih]
    unfold wlS mpS mp3 mp2
    rw [e5, e6, e7, e44, e45]
    by_cases c : Sb ((bitI a ||| bitI b) ||| bitI d) x ∧ ¬ (bitI a ||| bitI b) &&& mpU τ x q t = 0
    · rw [if_pos ⟨sb_and2.mpr c.1, c.2⟩, if_pos ⟨sb_not.mpr c.1, c.2⟩]
    · rw [if_neg (fun w => c ⟨sb_and2.mp w.1, w.2⟩), if_neg (fun w => c ⟨sb_not.mp w.1, w.2⟩)]
theorem pw_mp {σ τ : St} (h : RX σ τ) {z : Nat} (hz : nF σ 43 2 = nI z) (h80 : z ≤ 80) (y x : Int32) : pwT (iA σ 44) (iA σ 45) z y x = pwF (fun q => mpU τ x q z) 12 (y &&& -y) := by
  have e : (fun q => wlU (iA σ 44) (iA σ 45) x q z) = fun q => mpU τ x q z := by
    funext q
    exact wl_mp h hz h80 x q z (Nat.le_refl _)
  show pwF (fun q => wlU (iA σ 44) (iA σ 45) x q z) 12 (y &&& -y) = _
  rw [e]
section bu
variable {τ : St} {z : Nat}
theorem it_mj {x : Int32} : ∀ n, itS τ z ([x], (0, iA τ 13)) n = mjT τ z x n
  | 0 => rfl
  | n + 1 => by show mjS τ z (itS τ z ([x], (0, iA τ 13)) n) = mjS τ z (mjT τ z x n); rw [it_mj n]
theorem mj_nil {x : Int32} {n : Nat} (h : (mjT τ z x n).1 = []) : ∀ m, n ≤ m → mjT τ z x m = mjT τ z x n
  | 0, hm => by rw [show n = 0 by omega]
  | m + 1, hm => by
    by_cases e : n = m + 1
    · rw [e]
    · have ih := mj_nil h m (by omega)
      show mjS τ z (mjT τ z x m) = _
      rw [ih]
      exact cI_t h
theorem sum_pc : ∀ l : List Int32, (∀ p, p ∈ l → 0 < pcn p) → (l.map (fun p => 2 * pcn p - 1)).sum + l.length = 2 * (l.map pcn).sum ∧ l.length ≤ (l.map pcn).sum
  | [], _ => ⟨rfl, Nat.le_refl _⟩
  | x :: xs, h => by
    have ih := sum_pc xs (fun p hp => h p (List.mem_cons_of_mem _ hp))
    have h1 := h x List.mem_cons_self
    simp only [List.map_cons, List.sum_cons, List.length_cons]
    omega
theorem mj_inv {x : Int32} (hK : Ks x) (h0 : ¬ x = 0) : ∀ n, (∀ s, s ∈ (mjT τ z x n).1 → Ks s ∧ ¬ s = 0) ∧ ((mjT τ z x n).1.map pcn).sum ≤ 12 ∧ (mjT τ z x n).2.1 ≤ n
  | 0 => ⟨fun s hs => by rw [List.mem_singleton.mp hs]; exact ⟨hK, h0⟩, by show pcn x + 0 ≤ 12; have := pc_12 x; omega, Nat.le_refl _⟩
  | n + 1 => by
    obtain ⟨a, b, c⟩ := mj_inv (x := x) hK h0 n
    have hle := maA_le (F := (mjT τ z x n).2) (x := (mjT τ z x n).1.getLastD 0)
    show (∀ s, s ∈ (mjS τ z (mjT τ z x n)).1 → _) ∧ ((mjS τ z (mjT τ z x n)).1.map pcn).sum ≤ 12 ∧ (mjS τ z (mjT τ z x n)).2.1 ≤ n + 1
    generalize mjT τ z x n = s at a b c hle ⊢
    unfold mjS
    by_cases e : s.1 = []
    · rw [cI_t e]; exact ⟨a, b, by omega⟩
    · rw [cI_f e]
      have ed := dl_app e
      have htop : s.1.getLastD 0 ∈ s.1 := by
        have : s.1.getLastD 0 ∈ s.1.dropLast ++ [s.1.getLastD 0] := by simp
        rw [ed] at this
        exact this
      have hdl : ∀ t, t ∈ s.1.dropLast → t ∈ s.1 := fun t ht => by
        have : t ∈ s.1.dropLast ++ [s.1.getLastD 0] := List.mem_append_left _ ht
        rw [ed] at this
        exact this
      have hsum : (s.1.dropLast.map pcn).sum + pcn (s.1.getLastD 0) ≤ 12 := by
        have : ((s.1.dropLast ++ [s.1.getLastD 0]).map pcn).sum ≤ 12 := by rw [ed]; exact b
        simp only [List.map_append, List.map_cons, List.map_nil, List.sum_append_nat, List.sum_cons, List.sum_nil] at this
        omega
      by_cases e1 : bC (s.1.getLastD 0) = nI 1
      · rw [cI_t e1]
        exact ⟨fun t ht => a t (hdl t ht), by show (s.1.dropLast.map pcn).sum ≤ 12; omega, by show (maA s.2 (s.1.getLastD 0)).1 ≤ n + 1; omega⟩
      · rw [cI_f e1]
        have hKt := (a _ htop).1
        obtain ⟨b1, b2, b3, b4⟩ := pl_sp (τ := τ) (z := z) hKt 12 (s.1.getLastD 0) (fun _ h => h) clo_0 (pc_12 _)
        have hm := (mjP_12 (τ := τ) (z := z) hKt).2.1
        have hKp : ∀ p, p ∈ pl τ z (s.1.getLastD 0) 12 (s.1.getLastD 0) → Ks p ∧ ¬ p = 0 := fun p hp => ⟨fun k hk => hKt k ((b1 p hp).2 k hk), (b1 p hp).1⟩
        have hs := (sum_pc _ (fun p hp => pc_pos (hKp p hp).1 (hKp p hp).2)).1
        rw [hm]
        refine ⟨fun t ht => ?_, ?_, by show (maA s.2 (s.1.getLastD 0)).1 ≤ n + 1; omega⟩
        · rcases List.mem_append.mp ht with ht | ht
          · exact a t (hdl t ht)
          · exact hKp t (List.mem_reverse.mp ht)
        · show ((s.1.dropLast ++ (pl τ z (s.1.getLastD 0) 12 (s.1.getLastD 0)).reverse).map pcn).sum ≤ 12
          rw [List.map_append, List.sum_append_nat, List.map_reverse, List.sum_reverse_nat]
          omega
end bu
theorem bu_ref {σ τ : St} (h : RX σ τ) {z : Nat} (hz : nF σ 43 2 = nI z) (h80 : z ≤ 80) {x : Int32} (hx : okR 1 4095 x) :
    ((buJ σ z x).1 = 0 ∧ ∃ V Fm9, GM V x ∧ (MemIs (buJ σ z x).2.2 (buJ σ z x).2.1 V ∧ SL (buJ σ z x).2.2 (buJ σ z x).2.1) ∧ MemIs Fm9.2 Fm9.1 V ∧ UL Fm9.2 Fm9.1 ∧ ∃ n, n ≤ 23 ∧ mjT τ z x n = ([], Fm9) ∧ ∀ m, m < n → ¬ mjC τ z (mjT τ z x m)) ∨
    (¬ (buJ σ z x).1 = 0 ∧ ∃ n, n ≤ 23 ∧ (∀ m, m < n → ¬ mjC τ z (mjT τ z x m)) ∧ mjC τ z (mjT τ z x n) ∧ (mjT τ z x n).1.getLastD 0 = (buJ σ z x).1) := by
  obtain ⟨hK, h0⟩ := okR_Ks hx
  have h12 := pc_12 x
  rcases jn_sp (τ := τ) (z := z) (pw_mp h hz h80) 13 x (0, iA σ 42) (0, iA τ 13) [] hK h0 (by omega) (SL_0 _) (UL_0 _) (by simp only [vS]; omega) with ⟨c0, V, n, Fm9, g1, g2, g3, g4, g5, g6, g7, g8⟩ | ⟨c0, n, s1, g1, g2, g3, g4⟩
  · refine Or.inl ⟨c0, V, Fm9, g1, ⟨fun y => (Iff.intro (fun q => (g4 y).mpr (Or.inr q)) (fun q => ((g4 y).mp q).elim (fun w => absurd w mem_0) id)), g2⟩, fun y => (Iff.intro (fun q => (g6 y).mpr (Or.inr q)) (fun q => ((g6 y).mp q).elim (fun w => absurd w mem_0) id)), g5, n, by simp only [vS] at g8; omega, ?_, fun m hm => ?_⟩
    · rw [← it_mj]; exact g7.1
    · have := g7.2 m hm
      rw [← it_mj]; exact this
  · refine Or.inr ⟨c0, n, by simp only [vS] at g4; omega, fun m hm => ?_, ?_, ?_⟩
    · have := g1.2 m hm
      rw [← it_mj]; exact this
    · rw [← it_mj]
      have := g1.1
      rw [show itS τ z ([x], (0, iA τ 13)) n = s1 from this]; exact g2
    · rw [← it_mj]
      have := g1.1
      rw [show itS τ z ([x], (0, iA τ 13)) n = s1 from this]; exact g3
theorem bu_K {σ τ : St} (h : RX σ τ) {z : Nat} (hz : nF σ 43 2 = nI z) (h80 : z ≤ 80) {x : Int32} (hx : okR 1 4095 x) : ∃ N, mjK τ z x N := by
  obtain ⟨hK, h0⟩ := okR_Ks hx
  have third : ∀ n, (mjT τ z x n).1.length ≤ 24 ∧ (mjT τ z x n).2.1 ≤ n ∧ (¬ (mjT τ z x n).1 = [] → ¬ bC ((mjT τ z x n).1.getLastD 0) = nI 1 → ¬ (mjT τ z x n).1.getLastD 0 = 0 ∧ (mjP τ z ((mjT τ z x n).1.getLastD 0) 12).1 = 0 ∧ ∀ u, u < 12 → ¬ (mjP τ z ((mjT τ z x n).1.getLastD 0) u).1 = 0 → ∃ k, k < 12 ∧ ntz (mjP τ z ((mjT τ z x n).1.getLastD 0) u).1 = nI k) := fun n => by
    obtain ⟨a, b, c⟩ := mj_inv (τ := τ) (z := z) hK h0 n
    have hl := (sum_pc _ (fun p hp => pc_pos (a p hp).1 (a p hp).2)).2
    refine ⟨by omega, c, fun hne _ => ?_⟩
    have htop : (mjT τ z x n).1.getLastD 0 ∈ (mjT τ z x n).1 := by
      have : (mjT τ z x n).1.getLastD 0 ∈ (mjT τ z x n).1.dropLast ++ [(mjT τ z x n).1.getLastD 0] := by simp
      rw [dl_app hne] at this
      exact this
    obtain ⟨m0, m1, m2⟩ := mjP_12 (τ := τ) (z := z) (a _ htop).1
    exact ⟨(a _ htop).2, m0, m2⟩
  rcases bu_ref h hz h80 hx with ⟨_, V, Fm9, _, _, _, _, n, hn, e, _⟩ | ⟨_, n, hn, _, hc, _⟩
  · exact ⟨n, by omega, Or.inl (by rw [e]), fun m _ _ => third m⟩
  · exact ⟨n + 1, by omega, Or.inr ⟨n, by omega, hc⟩, fun m _ _ => third m⟩
/-- where the reference ends -/
theorem bu_end {τ : St} {z : Nat} {x : Int32} {n n0 : Nat} {Fm9 : Fam} (h1 : mjT τ z x n0 = ([], Fm9)) (h2 : (mjT τ z x n).1 = []) : (mjT τ z x n).2 = Fm9 := by
  rcases Nat.le_total n n0 with q | q
  · have := mj_nil h2 n0 q
    rw [← this, h1]
  · have := mj_nil (by rw [h1]) n q
    rw [this, h1]
theorem bu_pre {σ τ : St} (h : RX σ τ) {z : Nat} (hz : nF σ 43 2 = nI z) (h80 : z ≤ 80) (x : Int32) : (okR 1 4095 x → (buJ σ z x).1 = 0 → famG (buJ σ z x).2) ∧ (okR 1 4095 x → ∃ N, mjK (mT τ 0) z x N) ∧ (∀ n, okR 1 4095 x → (∀ m, m < n → ¬ mjC (mT τ 0) z (mjT (mT τ 0) z x m)) → (mjT (mT τ 0) z x n).1 = [] → 0 < (mjT (mT τ 0) z x n).2.1 ∧ (mjT (mT τ 0) z x n).2.1 ≤ 47) ∧ (∀ n, okR 1 4095 x → (∀ m, m < n → ¬ mjC (mT τ 0) z (mjT (mT τ 0) z x m)) → mjC (mT τ 0) z (mjT (mT τ 0) z x n) → ¬ (mjT (mT τ 0) z x n).1.getLastD 0 = nI 0) := by
  have h' : RX σ (mT τ 0) := RX_t h
  refine ⟨fun hx hc => ?_, fun hx => bu_K h' hz h80 hx, fun n hx hnc he => ?_, fun n hx _ hc => ?_⟩
  · rcases bu_ref h' hz h80 hx with ⟨_, V, Fm9, a, ⟨b1, b2⟩, c1, c2, _⟩ | ⟨hn, _⟩
    · exact (grow_fam h'.tre a b1 b2 c1 c2).1
    · exact absurd hc hn
  · rcases bu_ref h' hz h80 hx with ⟨_, V, Fm9, a, ⟨b1, b2⟩, c1, c2, n0, _, e0, _⟩ | ⟨_, n0, _, _, hc, _⟩
    · rw [bu_end e0 he]
      have := grow_fam h'.tre a b1 b2 c1 c2
      exact ⟨this.2.1, by omega⟩
    · exfalso
      by_cases q : n0 < n
      · exact hnc n0 q hc
      · have := mj_nil he n0 (by omega)
        rw [this] at hc
        exact hc.1 he
  · obtain ⟨hK, h0⟩ := okR_Ks hx
    obtain ⟨a, _, _⟩ := mj_inv (τ := mT τ 0) (z := z) hK h0 n
    have htop : (mjT (mT τ 0) z x n).1.getLastD 0 ∈ (mjT (mT τ 0) z x n).1 := by
      have : (mjT (mT τ 0) z x n).1.getLastD 0 ∈ (mjT (mT τ 0) z x n).1.dropLast ++ [(mjT (mT τ 0) z x n).1.getLastD 0] := by simp
      rw [dl_app hc.1] at this
      exact this
    exact (a _ htop).2
theorem s_build {σ τ : St} (h : RX σ τ) (z : Nat) (hz : nF σ 43 2 = nI z) (h80 : z ≤ 80) (x u : Int32) : SX exState (fun r σ9 => ∃ k, k < 8 ∧ u = nI k ∧ okR 1 4095 x ∧ r = (buJ σ z x).1 ∧ ((buJ σ z x).1 = 0 → σ9 = sfS σ (buJ σ z x).2 k) ∧ (¬ (buJ σ z x).1 = 0 → σ9 = faS σ (buJ σ z x).2)) (fun E σ9 => σ9 = σ ∧ seX x u E) (mbuP τ z x u) σ τ := by
  have h' : RX σ (mT τ 0) := RX_t h
  constructor
  · rintro r σ8 ⟨k, hk, rfl, hx, rfl, s1, s2⟩
    rcases bu_ref h' hz h80 hx with ⟨c0, V, Fm9, a, ⟨b1, b2⟩, c1, c2, n0, _, e0, hnc⟩ | ⟨c0, n0, _, hnc, hcl, htop⟩
    · have s1 := s1 c0
      subst s1
      obtain ⟨-, -, -, -, hgr⟩ := grow_fam h'.tre a b1 b2 c1 c2
      refine ⟨(hgr k hk σ (mT τ 0) tAg.rf rfl rfl rfl).2.2.2, ?_⟩
      rintro b τ9 (⟨hn, -⟩ | ⟨-, hn, -⟩ | ⟨k9, hk9, e, -, n, w9, F, hnc9, (⟨he, rfl, rfl⟩ | ⟨hc, -⟩)⟩)
      · exact absurd ⟨k, hk, rfl⟩ hn
      · exact absurd hx hn
      · have := (nI8 hk hk9).mp e
        subst this
        rw [bu_end e0 he]
        refine ⟨puS_c (cAg_t.I (by omega)), mT_t (τ := τ), c0.symm, RX_fam h (RX_7 ?_) hk (hgr k hk σ (sI (mT τ 0) 20 w9) tAg.rf rfl rfl rfl).1⟩
        exact ⟨h.tape, h.fau, h.wri, h.tri, h.sig, h.sta, h.dis, rTre_m rfl rfl rfl h.tre⟩
      · exfalso
        by_cases q : n < n0
        · exact hnc n q hc
        · have := mj_nil (τ := mT τ 0) (z := z) (x := x) (by rw [e0]) n (show n0 ≤ n by omega)
          rw [this, e0] at hc
          exact hc.1 rfl
    · have s2 := s2 c0
      subst s2
      refine ⟨(mAg.rf.I (by omega)).N (by omega), ?_⟩
      rintro b τ9 (⟨hn, -⟩ | ⟨-, hn, -⟩ | ⟨k9, hk9, e, -, n, w9, F, hnc9, (⟨he, rfl, rfl⟩ | ⟨hc, rfl, -, rfl⟩)⟩)
      · exact absurd ⟨k, hk, rfl⟩ hn
      · exact absurd hx hn
      · exfalso
        by_cases q : n0 < n
        · exact hnc9 n0 q hcl
        · have := mj_nil he n0 (by omega)
          rw [this] at hcl
          exact hcl.1 he
      · have hnn : n = n0 := by
          rcases Nat.lt_trichotomy n n0 with q | q | q
          · exact absurd hc (hnc n q)
          · exact q
          · exact absurd hcl (hnc9 n0 q)
        subst hnn
        refine ⟨((cAg_t.I (by omega)).I (by omega)).N (by omega), mT_t (τ := τ), htop, ?_⟩
        exact ⟨h.tape, h.fau, h.wri, h.tri, h.sig, h.sta, h.dis, rTre_c ((tAg.rf.I (by omega)).N (by omega)) (rTre_m rfl rfl rfl h.tre)⟩
  · rintro E σ8 ⟨rfl, (⟨rfl, hn⟩ | ⟨rfl, ho, hn⟩)⟩
    · refine SX_no h (c := 1) (by decide) ?_
      rintro b τ9 (⟨-, rfl⟩ | ⟨ho, -⟩ | ⟨k9, hk9, e, -⟩)
      · rfl
      · exact absurd ho hn
      · exact absurd ⟨k9, hk9, e⟩ hn
    · refine SX_no h (c := 2) (by decide) ?_
      rintro b τ9 (⟨hn9, -⟩ | ⟨-, -, rfl⟩ | ⟨k9, hk9, e, hx, -⟩)
      · exact absurd ho hn9
      · rfl
      · exact absurd hx hn

/-! perfect, clock -/
theorem qrl_s {f : Nat → Int32} {x : Int32} {i k : Nat} (h : qrl f x i k) : qrl f x k i := agI_s h
theorem qrl_i {f : Nat → Int32} {x : Int32} {i : Nat} : ¬ qrl f x i i := agI_i
theorem qrl_all {f : Nat → Int32} {x : Int32} {z : Nat} (h : ∀ i k, i < k → k < z → ¬ qrl f x i k) : ∀ i k, i < z → k < z → ¬ qrl f x i k := by
  intro i k hi hk hq
  rcases Nat.lt_trichotomy i k with e | e | e
  · exact h i k e hk hq
  · subst e; exact qrl_i hq
  · exact h k i e hi (qrl_s hq)
theorem pf_pre {σ τ : St} (h : RX σ τ) {z : Nat} (hz : nF σ 46 1 = nI z) (h16 : z ≤ 16) (x : Int32) : (okR 1 4095 x → qrlR (iA σ 47) x z 0 → famG (pfF σ x z)) ∧ (okR 1 4095 x → (∀ i k, i < z → k < z → ¬ qrl (iA τ 8) x i k) → 0 < (mpfF τ x z).1 ∧ (mpfF τ x z).1 ≤ 47) := by
  constructor
  · intro hx hq
    rcases hq with ⟨-, hq⟩ | ⟨i, k, hik, hk, -, e, -⟩
    · obtain ⟨a, ⟨b1, b2⟩, c1, c2⟩ := pf_sp h hz h16 hx (qrl_all hq)
      exact (grow_fam h.tre a b1 b2 c1 c2).1
    · exact absurd e.symm (fun z => by have := (z_eq (by omega)).mp z; omega)
  · intro hx hq
    obtain ⟨z9, hz9, f1, f2, f3⟩ := h.sig
    have : z9 = z := (nI_eq (by omega) (by omega)).mp (by rw [← f1, hz])
    subst this
    obtain ⟨a, ⟨b1, b2⟩, c1, c2⟩ := pf_sp h hz h16 hx (fun i k hi hk q => hq i k hi hk (by unfold qrl; rw [← f3 i hi, ← f3 k hk]; exact q))
    have := grow_fam h.tre a b1 b2 c1 c2
    exact ⟨this.2.1, by omega⟩
theorem s_perfect {σ τ : St} (h : RX σ τ) (z : Nat) (hz : nF σ 46 1 = nI z) (h16 : z ≤ 16) (x u : Int32) : SX exState (fun r σ9 => ∃ k, k < 8 ∧ u = nI k ∧ okR 1 4095 x ∧ qrlR (iA σ 47) x z r ∧ ((¬ r = 0 ∧ σ9 = σ) ∨ (r = 0 ∧ σ9 = sfS σ (pfF σ x z) k))) (fun E σ9 => σ9 = σ ∧ seX x u E) (mpfP τ z x u) σ τ := by
  obtain ⟨z9, hz9, f1, f2, f3⟩ := h.sig
  have : z9 = z := (nI_eq (by omega) (by omega)).mp (by rw [← f1, hz])
  subst this
  have hqq : ∀ i k, i < z9 → k < z9 → (qrl (iA τ 8) x i k ↔ qrl (iA σ 47) x i k) := fun i k hi hk => by unfold qrl; rw [← f3 i hi, ← f3 k hk]
  constructor
  · rintro r σ8 ⟨k, hk, rfl, hx, hq, h1⟩
    rcases hq with ⟨rfl, hq⟩ | ⟨i, j, hij, hj, hq, rfl, hm1, hm2⟩
    · rcases h1 with ⟨hn, -⟩ | ⟨-, rfl⟩
      · exact absurd rfl hn
      · obtain ⟨a, ⟨b1, b2⟩, c1, c2⟩ := pf_sp h hz h16 hx (qrl_all hq)
        obtain ⟨-, -, -, -, hgr⟩ := grow_fam h.tre a b1 b2 c1 c2
        refine ⟨(hgr k hk σ τ tAg.rf rfl rfl rfl).2.2.2, ?_⟩
        rintro b τ9 (⟨hn, -⟩ | ⟨-, hn, -⟩ | ⟨k9, hk9, e, -, (⟨⟨i9, j9, hi9, hj9, q9, -⟩, -⟩ | ⟨-, rfl, rfl⟩)⟩)
        · exact absurd ⟨k, hk, rfl⟩ hn
        · exact absurd hx hn
        · exact absurd ((hqq i9 j9 hi9 hj9).mp q9) (qrl_all hq i9 j9 hi9 hj9)
        · have := (nI8 hk hk9).mp e
          subst this
          exact ⟨puS_c cAg_t, mT_t (τ := τ), rfl, RX_fam h (RX_7 (RX_t h)) hk (hgr k hk σ (mT τ 0) tAg.rf rfl rfl rfl).1⟩
    · rcases h1 with ⟨-, rfl⟩ | ⟨e, -⟩
      · refine ⟨mAg.rf, ?_⟩
        rintro b τ9 (⟨hn, -⟩ | ⟨-, hn, -⟩ | ⟨k9, hk9, e, -, (⟨⟨i9, j9, hi9, hj9, q9, rfl, n1, n2⟩, rfl⟩ | ⟨hn, -⟩)⟩)
        · exact absurd ⟨k, hk, rfl⟩ hn
        · exact absurd hx hn
        · have q8 := (hqq i9 j9 hi9 hj9).mp q9
          have hle : ∀ a c, a < z9 → c < z9 → qrl (iA σ8 47) x a c → i ≤ a ∧ i ≤ c := by
            intro a c ha hc hac
            constructor
            · refine Classical.byContradiction (fun z => ?_)
              rcases Nat.lt_trichotomy a c with e | e | e
              · exact hm1 a c e hc (by omega) hac
              · subst e; exact qrl_i hac
              · exact hm1 c a e ha (by omega) (qrl_s hac)
            · refine Classical.byContradiction (fun z => ?_)
              rcases Nat.lt_trichotomy a c with e | e | e
              · exact hm1 a c e hc (by omega) hac
              · subst e; exact qrl_i hac
              · exact hm1 c a e ha (by omega) (qrl_s hac)
          have h1 := hle i9 j9 hi9 hj9 q8
          have e1 : i9 = i := by
            refine Classical.byContradiction (fun z => ?_)
            exact n1 i j (by omega) hj ((hqq i j (by omega) hj).mpr hq)
          subst e1
          have e2 : j9 = j := by
            have hne : ¬ j9 = i9 := fun e => by subst e; exact qrl_i q8
            rcases Nat.lt_trichotomy j9 j with e | e | e
            · exact absurd q8 (hm2 j9 (by omega) e)
            · exact e
            · exact absurd ((hqq i9 j (by omega) hj).mpr hq) (n2 j e)
          subst e2
          exact ⟨cAg_t, mT_t (τ := τ), by rw [show 16 * i9 + j9 + 1000 = 1000 + 16 * i9 + j9 by omega], RX_t h⟩
        · exact absurd ((hqq i j (by omega) hj).mpr hq) (hn i j (by omega) hj)
      · exact absurd e (fun z => by have := (z_eq (by omega)).mp z; omega)
  · rintro E σ8 ⟨rfl, (⟨rfl, hn⟩ | ⟨rfl, ho, hn⟩)⟩
    · refine SX_no h (c := 1) (by decide) ?_
      rintro b τ9 (⟨-, rfl⟩ | ⟨ho, -⟩ | ⟨k9, hk9, e, -⟩)
      · rfl
      · exact absurd ho hn
      · exact absurd ⟨k9, hk9, e⟩ hn
    · refine SX_no h (c := 2) (by decide) ?_
      rintro b τ9 (⟨hn9, -⟩ | ⟨-, -, rfl⟩ | ⟨k9, hk9, e, hx, -⟩)
      · exact absurd ho hn9
      · rfl
      · exact absurd hx hn
/-! clock -/
theorem mD_dS {σ τ : St} (h : RX σ τ) {a b : Nat} (ha : a < 12) (hb : b < 12) : mD τ a b = dS σ a b := by
  obtain ⟨N, _, _, _, _, _, _, e5, _⟩ := h.dis
  show iA τ 10 (12 * a + b) = iA σ 54 (a * 12 + b)
  rw [e5 _ (by omega), show a * 12 + b = 12 * a + b by omega]
theorem ckU_sp {σ : St} {N : Nat} {M : Int32 → Prop} (hF : Few M) {F : Fam} (h0 : FI M F) : ∀ i, (∀ a k, a < i → k < N → Ks (kw σ N a (dS σ a k)) ∧ M (kw σ N a (dS σ a k))) → FI M (ckU σ N F i) ∧ ∀ y, Mem (ckU σ N F i).2 (ckU σ N F i).1 y ↔ Mem F.2 F.1 y ∨ ∃ a k, a < i ∧ k < N ∧ y = kw σ N a (dS σ a k) ∧ ¬ y = 0
  | 0, _ => ⟨h0, fun y => ⟨Or.inl, fun z => z.elim id (fun ⟨a, _, h, _⟩ => absurd h (by omega))⟩⟩
  | i + 1, h => by
    obtain ⟨a, b⟩ := ckU_sp hF h0 i (fun c k hc hk => h c k (by omega) hk)
    obtain ⟨a2, b2⟩ := famUp_sp hF (q := fun k => kw σ N i (dS σ i k)) a N (fun k hk => ⟨(h i k (by omega) hk).1, fun _ => (h i k (by omega) hk).2⟩)
    refine ⟨a2, fun y => ?_⟩
    show Mem (famUp (fun k => kw σ N i (dS σ i k)) (ckU σ N F i).1 (ckU σ N F i).2 N).2 (famUp (fun k => kw σ N i (dS σ i k)) (ckU σ N F i).1 (ckU σ N F i).2 N).1 y ↔ _
    rw [b2 y, b y]
    constructor
    · rintro ((z | ⟨c, k, hc, hk, e⟩) | ⟨k, hk, e⟩)
      · exact Or.inl z
      · exact Or.inr ⟨c, k, by omega, hk, e⟩
      · exact Or.inr ⟨i, k, by omega, hk, e⟩
    · rintro (z | ⟨c, k, hc, hk, e⟩)
      · exact Or.inl (Or.inl z)
      · by_cases q : c = i
        · subst q; exact Or.inr ⟨k, hk, e⟩
        · exact Or.inl (Or.inr ⟨c, k, by omega, hk, e⟩)
theorem mckW_in {τ : St} {i j k : Nat} (hi : i < 12) : ∀ m, m ≤ 12 → (In k (mckW τ i j m) ↔ k = i ∨ (k < m ∧ ¬ k = i ∧ ¬ j = i ∧ mD τ i k ≤ mD τ i j))
  | 0, _ => by
    show In k (bitI i) ↔ _
    rw [In_bit hi]
    exact ⟨Or.inl, fun z => z.elim id (fun q => absurd q.1 (by omega))⟩
  | m + 1, hm => by
    have ih := mckW_in (τ := τ) (j := j) (k := k) hi m (by omega)
    show In k (if ¬ m = i ∧ ¬ j = i ∧ mD τ i m ≤ mD τ i j then mckW τ i j m ||| bitI m else mckW τ i j m) ↔ _
    split
    · rename_i hc
      rw [In_or, ih, In_bit (by omega)]
      constructor
      · rintro ((e | ⟨q1, q2⟩) | rfl)
        · exact Or.inl e
        · exact Or.inr ⟨by omega, q2⟩
        · exact Or.inr ⟨by omega, hc⟩
      · rintro (e | ⟨q1, q2⟩)
        · exact Or.inl (Or.inl e)
        · by_cases e : k = m
          · exact Or.inr e
          · exact Or.inl (Or.inr ⟨by omega, q2⟩)
    · rename_i hc
      rw [ih]
      constructor
      · rintro (e | ⟨q1, q2⟩)
        · exact Or.inl e
        · exact Or.inr ⟨by omega, q2⟩
      · rintro (e | ⟨q1, q2⟩)
        · exact Or.inl e
        · by_cases e : k = m
          · subst e; exact absurd q2 hc
          · exact Or.inr ⟨by omega, q2⟩
theorem mckO_sp {τ : St} {N : Nat} (hN : N ≤ 12) : ∀ i, i ≤ N → UL (mckO τ N i).2 (mckO τ N i).1 ∧ ∀ y, Mem (mckO τ N i).2 (mckO τ N i).1 y ↔ ∃ a, a < i ∧ (y = bitI a ∨ ∃ j, j < N ∧ y = mckW τ a j N)
  | 0, _ => ⟨UL_0 _, fun y => ⟨fun z => absurd z mem_0, fun ⟨a, h, _⟩ => absurd h (by omega)⟩⟩
  | i + 1, hi => by
    obtain ⟨a, b⟩ := mckO_sp (τ := τ) hN i (by omega)
    have hne : ∀ x : Int32, In i x → ¬ x = 0 := fun x hx e => by rw [e] at hx; exact In_0 hx
    have hI : ∀ j, j ≤ N → UL (mckI τ N i (mckO τ N i) j).2 (mckI τ N i (mckO τ N i) j).1 ∧ ∀ y, Mem (mckI τ N i (mckO τ N i) j).2 (mckI τ N i (mckO τ N i) j).1 y ↔ Mem (mckO τ N i).2 (mckO τ N i).1 y ∨ y = bitI i ∨ ∃ c, c < j ∧ y = mckW τ i c N := by
      intro j
      induction j with
      | zero =>
        intro _
        refine ⟨UL_maA a (fun k hk => by rw [(In_bit (by omega)).mp hk]; omega), fun y => ?_⟩
        show Mem (maA (mckO τ N i) (bitI i)).2 (maA (mckO τ N i) (bitI i)).1 y ↔ _
        rw [mem_maA]
        constructor
        · rintro (z | ⟨e, _⟩)
          · exact Or.inl z
          · exact Or.inr (Or.inl e)
        · rintro (z | e | ⟨c, hc, _⟩)
          · exact Or.inl z
          · exact Or.inr ⟨e, hne _ ((In_bit (by omega)).mpr rfl)⟩
          · exact absurd hc (by omega)
      | succ j ih =>
        intro hj
        obtain ⟨a2, b2⟩ := ih (by omega)
        refine ⟨UL_maA a2 (fun k hk => ?_), fun y => ?_⟩
        · rcases (mckW_in (by omega) N hN).mp hk with e | e <;> omega
        · show Mem (maA (mckI τ N i (mckO τ N i) j) (mckW τ i j N)).2 (maA (mckI τ N i (mckO τ N i) j) (mckW τ i j N)).1 y ↔ _
          rw [mem_maA, b2 y]
          constructor
          · rintro ((z | e | ⟨c, hc, e⟩) | ⟨e, _⟩)
            · exact Or.inl z
            · exact Or.inr (Or.inl e)
            · exact Or.inr (Or.inr ⟨c, by omega, e⟩)
            · exact Or.inr (Or.inr ⟨j, by omega, e⟩)
          · rintro (z | e | ⟨c, hc, e⟩)
            · exact Or.inl (Or.inl z)
            · exact Or.inl (Or.inr (Or.inl e))
            · by_cases q : c = j
              · subst q; exact Or.inr ⟨e, hne _ ((mckW_in (by omega) N hN).mpr (Or.inl rfl))⟩
              · exact Or.inl (Or.inr (Or.inr ⟨c, by omega, e⟩))
    obtain ⟨a3, b3⟩ := hI N (Nat.le_refl _)
    refine ⟨a3, fun y => ?_⟩
    show Mem (mckI τ N i (mckO τ N i) N).2 (mckI τ N i (mckO τ N i) N).1 y ↔ _
    rw [b3 y, b y]
    constructor
    · rintro (⟨c, hc, e⟩ | e | ⟨j, hj, e⟩)
      · exact ⟨c, by omega, e⟩
      · exact ⟨i, by omega, Or.inl e⟩
      · exact ⟨i, by omega, Or.inr ⟨j, hj, e⟩⟩
    · rintro ⟨c, hc, e⟩
      by_cases q : c = i
      · subst q; exact Or.inr e
      · exact Or.inl ⟨c, by omega, e⟩
theorem ck_sp {σ τ : St} (h : RX σ τ) {N : Nat} (hN : N ≤ 12) (h2 : 2 ≤ N) (hc : ckA σ N) : GM (ckM (dS σ) N) (allK N) ∧ (MemIs (ckF σ N).2 (ckF σ N).1 (ckM (dS σ) N) ∧ SL (ckF σ N).2 (ckF σ N).1) ∧ MemIs (mckO τ N N).2 (mckO τ N N).1 (ckM (dS σ) N) ∧ UL (mckO τ N N).2 (mckO τ N N).1 := by
  obtain ⟨N9, _, _, _, _, _, _, _, hD, _⟩ := h.dis
  have hg := ck_GM hD hN (by omega) hc
  obtain ⟨u1, u2⟩ := mckO_sp (τ := τ) hN N (Nat.le_refl _)
  have hw : ∀ i j, i < N → j < N → ¬ j = i → ball (dS σ) N i (dS σ i j) (mckW τ i j N) := by
    intro i j hi hj hne k
    rw [mckW_in (by omega) N hN]
    constructor
    · rintro (e | ⟨q1, q2, q3, q4⟩)
      · exact ⟨by omega, Or.inl e⟩
      · rw [mD_dS h (by omega) (by omega), mD_dS h (by omega) (by omega)] at q4
        exact ⟨q1, Or.inr q4⟩
    · rintro ⟨q1, (e | q4)⟩
      · exact Or.inl e
      · by_cases e : k = i
        · exact Or.inl e
        · refine Or.inr ⟨q1, e, hne, ?_⟩
          rw [mD_dS h (by omega) (by omega), mD_dS h (by omega) (by omega)]
          exact q4
  have hwi : ∀ i, i < N → mckW τ i i N = bitI i := fun i hi => In_ext (fun k _ => by
    rw [mckW_in (by omega) N hN, In_bit (by omega)]
    exact ⟨fun z => z.elim id (fun q => absurd rfl q.2.2.1), Or.inl⟩)
  have m9 : MemIs (mckO τ N N).2 (mckO τ N N).1 (ckM (dS σ) N) := fun y => by
    rw [u2 y]
    constructor
    · rintro ⟨i, hi, (e | ⟨k, hk, hb⟩)⟩
      · exact ⟨i, hi, Or.inl e⟩
      · by_cases e : k = i
        · subst e
          by_cases q : ∃ j, j < N ∧ ¬ j = k ∧ dS σ k j ≤ dS σ k k
          · obtain ⟨j, hj, hne, hle⟩ := q
            have e0 : dS σ k j = dS σ k k := Int32.le_antisymm hle (by rw [hD.2.1 k (by omega)]; exact hD.2.2 k j (by omega) (by omega))
            refine ⟨k, hi, Or.inr ⟨j, hj, ?_⟩⟩
            rw [← e0] at hb
            exact ball_u hb (hw k j hi hj hne)
          · refine ⟨k, hi, Or.inl (In_ext (fun a _ => ?_))⟩
            rw [hb a, In_bit (by omega)]
            constructor
            · rintro ⟨q1, (e | q2)⟩
              · exact e
              · exact Classical.byContradiction (fun z => q ⟨a, q1, z, q2⟩)
            · intro e; exact ⟨by omega, Or.inl e⟩
        · exact ⟨i, hi, Or.inr ⟨k, hk, ball_u hb (hw i k hi hk e)⟩⟩
    · rintro ⟨i, hi, (e | ⟨j, hj, e⟩)⟩
      · exact ⟨i, hi, Or.inl e⟩
      · by_cases q : j = i
        · subst q; rw [hwi j hi] at e; exact ⟨j, hi, Or.inl e⟩
        · refine ⟨i, hi, Or.inr ⟨j, hj, ?_⟩⟩
          rw [e]; exact hw i j hi hj q
  have hfew : Few (ckM (dS σ) N) := ⟨_, _, (ul_few hg m9 u1).1, m9⟩
  have hKa : Ks (allK N) := fun k hk => by have := (allK_in hN).mp hk; omega
  obtain ⟨v1, v2⟩ := famUp_sp hfew (q := fun k => allK N &&& bitI k) (F := (0, iA σ 42)) (FI_0 _) 12 (fun v hv => ⟨Ks_and hKa, fun q => by
    have := (and_bit hv).mp ⟨rfl, q⟩
    exact ⟨v, (allK_in hN).mp this.1, Or.inl this.2⟩⟩)
  have hkb : ∀ a k, a < N → ball (dS σ) N a (dS σ a k) (kw σ N a (dS σ a k)) := fun a k ha => kw_ball hN ha _
  obtain ⟨v3, v4⟩ := ckU_sp (σ := σ) (N := N) hfew v1 N (fun a k ha hk => ⟨fun j hj => by have := ((hkb a k ha) j).mp hj; omega, ⟨a, ha, Or.inr ⟨k, hk, hkb a k ha⟩⟩⟩)
  refine ⟨hg, ⟨fun y => ?_, v3.1⟩, m9, u1⟩
  rw [v4 y, v2 y]
  constructor
  · rintro ⟨i, hi, (e | ⟨k, hk, hb⟩)⟩
    · exact Or.inl (Or.inr ⟨i, by omega, (and_bit (by omega)).mpr ⟨(allK_in hN).mpr hi, e⟩⟩)
    · refine Or.inr ⟨i, k, hi, hk, ball_u hb (hkb i k hi), fun e => ?_⟩
      have := (hb i).mpr ⟨hi, Or.inl rfl⟩
      rw [e] at this; exact In_0 this
  · rintro ((q | ⟨v, hv, e⟩) | ⟨a, k, ha, hk, e, _⟩)
    · exact absurd q mem_0
    · have := (and_bit hv).mp e
      exact ⟨v, (allK_in hN).mp this.1, Or.inl this.2⟩
    · exact ⟨a, ha, Or.inr ⟨k, hk, by rw [e]; exact hkb a k ha⟩⟩
theorem mc3_ck {σ τ : St} (h : RX σ τ) {N : Nat} (hN : N ≤ 12) : mc3 τ N ↔ ckA σ N := by
  obtain ⟨N9, _, _, _, _, _, _, _, hD, _⟩ := h.dis
  have e : ckA σ N ↔ _ := ck_eq hD hN
  rw [e]
  constructor
  · intro q i hi j hj k hk
    have := q i hi j hj k hk
    show itP (dS σ i j) (dS σ i k) (dS σ j k)
    rw [← mD_dS h (show i < 12 by omega) (show j < 12 by omega), ← mD_dS h (show i < 12 by omega) (show k < 12 by omega), ← mD_dS h (show j < 12 by omega) (show k < 12 by omega)]
    exact this
  · intro q i hi j hj k hk
    have := q i hi j hj k hk
    show itP (mD τ i j) (mD τ i k) (mD τ j k)
    rw [mD_dS h (show i < 12 by omega) (show j < 12 by omega), mD_dS h (show i < 12 by omega) (show k < 12 by omega), mD_dS h (show j < 12 by omega) (show k < 12 by omega)]
    exact this
theorem ck_pre {σ τ : St} (h : RX σ τ) {N : Nat} (hN : N ≤ 12) (h2 : 2 ≤ N) : (ckA σ N → famG (ckF σ N)) ∧ (mc3 τ N → 0 < (mckO τ N N).1 ∧ (mckO τ N N).1 ≤ 47) := by
  constructor
  · intro hc
    obtain ⟨a, ⟨b1, b2⟩, c1, c2⟩ := ck_sp h hN h2 hc
    exact (grow_fam h.tre a b1 b2 c1 c2).1
  · intro hc
    obtain ⟨a, ⟨b1, b2⟩, c1, c2⟩ := ck_sp h hN h2 ((mc3_ck h hN).mp hc)
    have := grow_fam h.tre a b1 b2 c1 c2
    exact ⟨this.2.1, by omega⟩
theorem s_clock {σ τ : St} (h : RX σ τ) (N : Nat) (hN : N ≤ 12) (h2 : 2 ≤ N) (u : Int32) : SX exClear (fun r σ9 => ∃ k, k < 8 ∧ u = nI k ∧ ((¬ ckA σ N ∧ r = 0 ∧ σ9 = σ) ∨ (ckA σ N ∧ r = 1 ∧ σ9 = sfS σ (ckF σ N) k))) (fun E σ9 => σ9 = σ ∧ E = xIOB ∧ ¬ okI 8 u) (mckP τ N u) σ τ := by
  constructor
  · rintro r σ8 ⟨k, hk, rfl, (⟨hc, rfl, rfl⟩ | ⟨hc, rfl, rfl⟩)⟩
    · refine ⟨mAg.rf, ?_⟩
      rintro b τ9 (⟨hn, -⟩ | ⟨k9, hk9, e, (⟨-, rfl, rfl⟩ | ⟨hc9, -⟩)⟩)
      · exact absurd ⟨k, hk, rfl⟩ hn
      · exact ⟨cAg_t, mT_t (τ := τ), rfl, RX_t h⟩
      · exact absurd ((mc3_ck h hN).mp hc9) hc
    · obtain ⟨a, ⟨b1, b2⟩, c1, c2⟩ := ck_sp h hN h2 hc
      obtain ⟨-, -, -, -, hgr⟩ := grow_fam h.tre a b1 b2 c1 c2
      refine ⟨(hgr k hk σ τ tAg.rf rfl rfl rfl).2.2.2, ?_⟩
      rintro b τ9 (⟨hn, -⟩ | ⟨k9, hk9, e, (⟨hc9, -⟩ | ⟨-, rfl, rfl⟩)⟩)
      · exact absurd ⟨k, hk, rfl⟩ hn
      · exact absurd ((mc3_ck h hN).mpr hc) hc9
      · have := (nI8 hk hk9).mp e
        subst this
        exact ⟨puS_c cAg_t, mT_t (τ := τ), rfl, RX_fam h (RX_7 (RX_t h)) hk (hgr k hk σ (mT τ 0) tAg.rf rfl rfl rfl).1⟩
  · rintro E σ8 ⟨rfl, rfl, hn⟩
    refine SX_no h (c := 1) (by decide) ?_
    rintro b τ9 (⟨-, rfl⟩ | ⟨k9, hk9, e, -⟩)
    · rfl
    · exact absurd ⟨k9, hk9, e⟩ hn

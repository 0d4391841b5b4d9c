/-! What both sides say of one shelf -/
theorem nI8 {a b : Nat} (ha : a < 8) (hb : b < 8) : nI a = nI b ↔ a = b := nI_eq (by omega) (by omega)
theorem mB_kB {k : Int32} (h : k = -1 ∨ ∃ q, q < 12 ∧ k = nI q) : mB k = kB k := by
  rcases h with rfl | ⟨q, hq, rfl⟩
  · decide
  · unfold mB kB
    rw [if_neg (fun z => (z_lt (by omega)).mp z), if_neg (nI_m1 (by omega))]
theorem neg_m1 {k : Int32} (h : k = -1 ∨ ∃ q, q < 12 ∧ k = nI q) : k < 0 ↔ k = -1 := by
  rcases h with rfl | ⟨q, hq, rfl⟩
  · decide
  · exact ⟨fun z => absurd ((z_lt (by omega)).mp z) id, fun z => absurd z (nI_m1 (by omega))⟩
theorem In_orU {f : Nat → Int32} {k : Nat} : ∀ n, In k (orU f n) ↔ ∃ v, v < n ∧ In k (f v)
  | 0 => ⟨fun h => absurd h In_0, fun ⟨v, h, _⟩ => absurd h (by omega)⟩
  | n + 1 => by
    show In k (orU f n ||| f n) ↔ _
    rw [In_or, In_orU n]
    constructor
    · rintro (⟨v, hv, h⟩ | h)
      · exact ⟨v, by omega, h⟩
      · exact ⟨n, by omega, h⟩
    · rintro ⟨v, hv, h⟩
      by_cases e : v = n
      · subst e; exact Or.inr h
      · exact Or.inl ⟨v, by omega, h⟩
section shf
variable {σ τ : St} {i : Nat}
theorem sh_z (h : rSh σ τ i) : tN σ (tS σ i) = 0 ↔ mN τ i = 0 := by
  have ht := h.1.1
  have h47 := ht.2.1
  rw [ht.1, z_eq (by omega), h.2.2.1]
theorem sh_47 (h : rSh σ τ i) : nn σ (tS σ i) ≤ 47 := h.1.1.2.1
theorem sh_PW (h : rSh σ τ i) : PW (nn σ (tS σ i)) (pp σ (tS σ i)) ∧ PW (nn σ (tS σ i)) (mp τ i) ∨ nn σ (tS σ i) = 0 := by
  rcases Nat.eq_zero_or_pos (nn σ (tS σ i)) with z | z
  · exact Or.inr z
  · refine Or.inl ⟨⟨fun v h0 hv => (h.1.1.2.2.1 v h0 hv).2, ?_⟩, ⟨fun v h0 hv => (h.2.1.2.2.1 v h0 (by rw [h.2.2.1]; exact hv)).2, ?_⟩⟩
    · show (tP σ (tS σ i) 0).toNatClampNeg = 0
      rw [h.1.1.2.2.2.1 z]; decide
    · show (mP τ i 0).toNatClampNeg = 0
      rw [h.2.1.2.2.2.1 (by rw [h.2.2.1]; exact z)]; decide
/-- all that is known of a shelf with a tree -/
def SF (σ τ : St) (i : Nat) : Prop := 0 < nn σ (tS σ i) ∧ mN τ i = nn σ (tS σ i) ∧ TV (nn σ (tS σ i)) (pp σ (tS σ i)) (tK σ (tS σ i)) ∧ PW (nn σ (tS σ i)) (pp σ (tS σ i)) ∧ TV (nn σ (tS σ i)) (mp τ i) (mK τ i) ∧ PW (nn σ (tS σ i)) (mp τ i)
theorem sh_SF (h : rSh σ τ i) (h0 : ¬ mN τ i = 0) : SF σ τ i := by
  have hn := h.2.2.1
  have hp : 0 < nn σ (tS σ i) := by omega
  rcases sh_PW h with ⟨a, b⟩ | z
  · obtain ⟨π, ρ, hI⟩ := h.2.2.2
    have hT := h.1.2.1 hp
    exact ⟨hp, hn, hT, a, iso_TV hI hT b.1, b⟩
  · omega
abbrev cC (σ : St) (j : Nat) : Nat → Int32 := cB (nn σ j) (pp σ j) (tK σ j)
abbrev cR (σ : St) (j : Nat) : Int32 := cC σ j 0
abbrev CMs (σ : St) (j : Nat) : Int32 → Prop := CM (nn σ j) (pp σ j) (tK σ j)
theorem sh_tC (h : rSh σ τ i) {v : Nat} (hv : v < nn σ (tS σ i)) : tC σ (tS σ i) v = cC σ (tS σ i) v := (h.1.2.2.1 v hv).1
theorem sh_mcl (h : rSh σ τ i) (hf : SF σ τ i) {v : Nat} (hv : v < nn σ (tS σ i)) : mcl τ i v = cB (nn σ (tS σ i)) (mp τ i) (mK τ i) v := by
  obtain ⟨h0, hn, _, _, hT9, hW9⟩ := hf
  unfold mcl cB
  rw [hn]
  refine gth_c (M := nn σ (tS σ i) - 1) _ _ _ (Nat.le_refl _) (fun u h1 h2 => ⟨rfl, hW9.1 u h1 (by omega)⟩) (fun w hw => ?_) v (by omega)
  exact mB_kB (hT9.2.2.1 w (by omega))
theorem sh_iso (h : rSh σ τ i) (hf : SF σ τ i) : ∃ π ρ, Iso (nn σ (tS σ i)) (pp σ (tS σ i)) (tK σ (tS σ i)) (mp τ i) (mK τ i) π ρ ∧ ∀ v, v < nn σ (tS σ i) → tC σ (tS σ i) v = mcl τ i (π v) := by
  obtain ⟨π, ρ, hI⟩ := h.2.2.2
  refine ⟨π, ρ, hI, fun v hv => ?_⟩
  rw [sh_tC h hv, sh_mcl h hf (hI.1 v hv).1]
  exact iso_cB hI hf.2.2.2.1.1 hf.2.2.2.2.2.1 v hv
theorem sh_mem (h : rSh σ τ i) : MemIs (tC σ (tS σ i)) (nn σ (tS σ i)) (CMs σ (tS σ i)) := fun x => by
  constructor
  · rintro ⟨v, hv, e⟩; exact ⟨v, hv, by rw [sh_tC h hv]; exact e⟩
  · rintro ⟨v, hv, e⟩; exact ⟨v, hv, (sh_tC h hv).symm.trans e⟩
theorem sh_mem9 (h : rSh σ τ i) (hf : SF σ τ i) : MemIs (mcl τ i) (mN τ i) (CMs σ (tS σ i)) := fun x => by
  obtain ⟨π, ρ, hI, he⟩ := sh_iso h hf
  rw [sh_mem h x, hf.2.1]
  constructor
  · rintro ⟨v, hv, e⟩; exact ⟨π v, (hI.1 v hv).1, by rw [← he v hv]; exact e⟩
  · rintro ⟨v, hv, e⟩
    refine ⟨ρ v, (hI.1 v hv).2.1, ?_⟩
    rw [he _ (hI.1 v hv).2.1, (hI.1 v hv).2.2.2]
    exact e
theorem sh_aK (h : rSh σ τ i) (hf : SF σ τ i) : aK σ (tS σ i) = cR σ (tS σ i) := by
  have h47 := sh_47 h
  show (if tN σ (tS σ i) = 0 then 0 else tC σ (tS σ i) 0) = _
  rw [if_neg (fun z => by have := (sh_z h).mp z; have := hf.1; have := hf.2.1; omega)]
  exact sh_tC h hf.1
theorem sh_mKs (h : rSh σ τ i) (hf : SF σ τ i) : mKs τ i = cR σ (tS σ i) := by
  obtain ⟨π, ρ, hI, he⟩ := sh_iso h hf
  have e0 : cR σ (tS σ i) = cB (nn σ (tS σ i)) (mp τ i) (mK τ i) 0 := by
    have := iso_cB hI hf.2.2.2.1.1 hf.2.2.2.2.2.1 0 hf.1
    rw [hI.2.1] at this
    exact this
  rw [e0]
  have hK9 := hf.2.2.2.2.1.2.2.1
  refine In_ext (fun k _ => ?_)
  rw [In_orU, cB_leaf hf.2.2.2.2.2 hK9 hf.1, hf.2.1]
  constructor
  · rintro ⟨v, hv, hk⟩
    rw [show mB (mK τ i v) = kB (mK τ i v) from mB_kB (hK9 v hv), kB_K hK9 hv] at hk
    exact ⟨hk.1, v, hv, hk.2, ab_root hf.2.2.2.2.2 v hv⟩
  · rintro ⟨hk, v, hv, e, _⟩
    refine ⟨v, hv, ?_⟩
    rw [show mB (mK τ i v) = kB (mK τ i v) from mB_kB (hK9 v hv), kB_K hK9 hv]
    exact ⟨hk, e⟩
theorem sh_mLs (h : rSh σ τ i) (hf : SF σ τ i) : mLs τ i = nLv (nn σ (tS σ i)) (tK σ (tS σ i)) := by
  obtain ⟨π, ρ, hI⟩ := h.2.2.2
  rw [nLv, iso_lv hI]
  show cntU (mLf τ i) (mN τ i) = _
  rw [hf.2.1]
  exact cnt_c _ (fun v hv => not_congr (neg_m1 (hf.2.2.2.2.1.2.2.1 v hv)))
theorem cR_Ks (hf : SF σ τ i) : Ks (cR σ (tS σ i)) := cB_Ks hf.2.2.2.1 hf.2.2.1.2.2.1 hf.1
theorem pl_c (h : rSh σ τ i) (hf : SF σ τ i) : okP σ i ↔ Plain (nn σ (tS σ i)) (tK σ (tS σ i)) := by
  have hz : ¬ tN σ (tS σ i) = 0 := fun z => by have := (sh_z h).mp z; have := hf.1; have := hf.2.1; omega
  have h47 := sh_47 h
  have hl : nLv (nn σ (tS σ i)) (tK σ (tS σ i)) ≤ nn σ (tS σ i) := cntU_le _
  have hpc := pc_12 (cR σ (tS σ i))
  rw [← plain_iff hf.2.2.1 hf.2.2.2.1]
  show (¬ tN σ (tS σ i) = 0 ∧ tL σ (tS σ i) = bC (aK σ (tS σ i))) ↔ _
  rw [sh_aK h hf, bC_pc (cR_Ks hf), h.1.2.2.2, nI_eq (by omega) (by omega)]
  exact ⟨fun z => z.2, fun z => ⟨hz, z⟩⟩
theorem pl_m (h : rSh σ τ i) (hf : SF σ τ i) : mPl τ i ↔ Plain (nn σ (tS σ i)) (tK σ (tS σ i)) := by
  have h47 := sh_47 h
  have hl : nLv (nn σ (tS σ i)) (tK σ (tS σ i)) ≤ nn σ (tS σ i) := cntU_le _
  have hpc := pc_12 (cR σ (tS σ i))
  rw [← plain_iff hf.2.2.1 hf.2.2.2.1]
  show (0 < mN τ i ∧ bC (mKs τ i) = nI (mLs τ i)) ↔ _
  rw [sh_mKs h hf, sh_mLs h hf, bC_pc (cR_Ks hf), nI_eq (by omega) (by omega)]
  exact ⟨fun z => z.2.symm, fun z => ⟨by rw [hf.2.1]; exact hf.1, z.symm⟩⟩
theorem pl_eq (h : rSh σ τ i) : okP σ i ↔ mPl τ i := by
  by_cases h0 : mN τ i = 0
  · constructor
    · intro z; exact absurd ((sh_z h).mpr h0) z.1
    · intro z; exact absurd z.1 (by omega)
  · rw [pl_c h (sh_SF h h0), pl_m h (sh_SF h h0)]
theorem pl_SF (h : rSh σ τ i) (hp : mPl τ i) : SF σ τ i := sh_SF h (by have := hp.1; omega)
theorem pl_gm (h : rSh σ τ i) (hp : mPl τ i) : GM (CMs σ (tS σ i)) (cR σ (tS σ i)) := pl_GM (pl_SF h hp).2.2.1 (pl_SF h hp).2.2.2.1 ((pl_m h (pl_SF h hp)).mp hp)
theorem mCq_i (h : rSh σ τ i) (hf : SF σ τ i) {v u : Nat} (hv : v < nn σ (tS σ i)) (hu : u < nn σ (tS σ i)) : mCq τ i v u ↔ 0 < u ∧ mp τ i u = v := by
  have h47 := sh_47 h
  constructor
  · intro ⟨h1, h2⟩
    refine ⟨by omega, ?_⟩
    show (mP τ i u).toNatClampNeg = v
    rw [h2]; exact nI_clamp (by omega)
  · intro ⟨h1, h2⟩
    have := h.2.1.2.2.1 u h1 (by rw [hf.2.1]; exact hu)
    rw [h2] at this
    exact ⟨this.2, this.1⟩
theorem cnt_sh {q : Nat → Prop} (a : Nat) : ∀ m, (∀ v, v < a → ¬ q v) → cntU q (a + m) = cntU (fun u => q (a + u)) m
  | 0, h => by
    have : cntU q a = cntU (fun _ => False) a := cnt_c a (fun v hv => ⟨fun z => h v hv z, fun z => absurd z id⟩)
    rw [Nat.add_zero, this, cnt_sm, sumU_c a (g := fun _ => 0) (fun v _ => cI_f id), sumU_0]
    rfl
  | m + 1, h => by
    have ih := cnt_sh (q := q) a m h
    rw [← Nat.add_assoc]
    by_cases e : q (a + m)
    · rw [cntU_y e, cntU_y (q := fun u => q (a + u)) e, ih]
    · rw [cntU_n e, cntU_n (q := fun u => q (a + u)) e, ih]
theorem sh_mCn (h : rSh σ τ i) (hf : SF σ τ i) {x : Nat} (hx : x < nn σ (tS σ i)) : mCn τ i x = nCh (nn σ (tS σ i)) (mp τ i) x := by
  have hn := hf.2.1
  show cntU (fun u => mP τ i (x + 1 + u) = nI x) (mN τ i - (x + 1)) = _
  have e1 : nCh (nn σ (tS σ i)) (mp τ i) x = cntU (mCq τ i x) (nn σ (tS σ i)) := cnt_c _ (fun u hu => (mCq_i h hf hx hu).symm)
  rw [e1, show nn σ (tS σ i) = (x + 1) + (mN τ i - (x + 1)) by omega, cnt_sh (q := mCq τ i x) (x + 1) _ (fun v hv z => absurd z.1 (by omega))]
  exact cnt_c _ (fun u hu => ⟨fun z => ⟨by omega, z⟩, fun z => z.2⟩)
theorem iso_nCh {n : Nat} {P P9 : Nat → Nat} {K K9 : Nat → Int32} {π ρ : Nat → Nat} (h : Iso n P K P9 K9 π ρ) (hP : PB n P) {v : Nat} (hv : v < n) : nCh n P v = nCh n P9 (π v) := by
  rw [nCh, nCh, ← cnt_bij h.1 (fun u => 0 < u ∧ P9 u = π v)]
  refine cnt_c n (fun u hu => ?_)
  constructor
  · intro ⟨h0, e⟩; exact ⟨iso_pos h h0 hu, (iso_ch h hP h0 hu hv).mp e⟩
  · intro ⟨h0, e⟩
    have hu0 : 0 < u := by
      rcases Nat.eq_zero_or_pos u with z | z
      · rw [z, h.2.1] at h0; omega
      · exact z
    exact ⟨hu0, (iso_ch h hP hu0 hu hv).mpr e⟩
theorem bi_c (h : rSh σ τ i) : biP σ (tS σ i) ↔ ∀ v, v < nn σ (tS σ i) → nCh (nn σ (tS σ i)) (pp σ (tS σ i)) v ≤ 2 := by
  have h47 := sh_47 h
  constructor
  · intro hb v hv
    have h1 := hb v hv
    have hl : nCh (nn σ (tS σ i)) (pp σ (tS σ i)) v ≤ nn σ (tS σ i) := cntU_le _
    rw [(h.1.2.2.1 v hv).2] at h1
    exact (nI_leI (by omega) (by decide)).mp h1
  · intro hb v hv
    have h1 := hb v hv
    rw [(h.1.2.2.1 v hv).2]
    exact nI_le h1 (by decide)
theorem bi_eq (h : rSh σ τ i) (hf : SF σ τ i) : biP σ (tS σ i) ↔ mBi τ i := by
  rw [bi_c h]
  obtain ⟨π, ρ, hI⟩ := h.2.2.2
  constructor
  · intro hb
    refine ⟨by rw [hf.2.1]; exact hf.1, fun x hx => ?_⟩
    rw [hf.2.1] at hx
    have h1 := hb (ρ x) (hI.1 x hx).2.1
    rw [iso_nCh hI hf.2.2.2.1.1 (hI.1 x hx).2.1, (hI.1 x hx).2.2.2] at h1
    rw [sh_mCn h hf hx]; omega
  · intro hb v hv
    have h1 := hb.2 (π v) (by rw [hf.2.1]; exact (hI.1 v hv).1)
    rw [sh_mCn h hf (hI.1 v hv).1] at h1
    rw [iso_nCh hI hf.2.2.2.1.1 hv]; omega
/-- depths -/
theorem depF_c {P P9 : Nat → Nat} {n : Nat} {K K9 : Nat → Int32} {π ρ : Nat → Nat} (h : Iso n P K P9 K9 π ρ) (hP : PB n P) : ∀ f g v, v < n → v < f → π v < g → PB n P9 → depF P f v = depF P9 g (π v)
  | 0, _, _, _, h1, _, _ => absurd h1 (by omega)
  | _ + 1, 0, _, _, _, h2, _ => absurd h2 (by omega)
  | f + 1, g + 1, v, hv, h1, h2, hP9 => by
    show (if v = 0 then 1 else depF P f (P v) + 1) = (if π v = 0 then 1 else depF P9 g (P9 (π v)) + 1)
    by_cases e : v = 0
    · rw [if_pos e, e, if_pos h.2.1]
    · have hp := iso_pos h (show 0 < v by omega) hv
      have h3 := hP v (by omega) hv
      have h4 := hP9 (π v) hp (h.1 v hv).1
      rw [if_neg e, if_neg (by omega), ← h.2.2.2 v (by omega) hv]
      rw [← h.2.2.2 v (by omega) hv] at h4
      rw [depF_c h hP f g (P v) (by omega) (by omega) (by omega) hP9]
theorem maxF_le {f : Nat → Nat} : ∀ n m, (∀ v, v < n → f v ≤ m) → maxF f n ≤ m
  | 0, _, _ => Nat.zero_le _
  | n + 1, m, h => Nat.max_le.mpr ⟨maxF_le n m (fun v hv => h v (by omega)), h n (by omega)⟩
theorem le_maxF {f : Nat → Nat} : ∀ n v, v < n → f v ≤ maxF f n
  | 0, _, h => absurd h (by omega)
  | n + 1, v, h => by
    show f v ≤ max (maxF f n) (f n)
    by_cases e : v = n
    · rw [e]; exact Nat.le_max_right _ _
    · exact Nat.le_trans (le_maxF n v (by omega)) (Nat.le_max_left _ _)
theorem dep_eq (h : rSh σ τ i) (hf : SF σ τ i) : maxF (dep (pp σ (tS σ i))) (nn σ (tS σ i)) = maxF (dep (mp τ i)) (mN τ i) := by
  obtain ⟨π, ρ, hI⟩ := h.2.2.2
  rw [hf.2.1]
  have e : ∀ v, v < nn σ (tS σ i) → dep (pp σ (tS σ i)) v = dep (mp τ i) (π v) := fun v hv => depF_c hI hf.2.2.2.1.1 (v + 1) (π v + 1) v hv (by omega) (by omega) hf.2.2.2.2.2.1
  refine Nat.le_antisymm (maxF_le _ _ (fun v hv => ?_)) (maxF_le _ _ (fun v hv => ?_))
  · rw [e v hv]; exact le_maxF _ _ (hI.1 v hv).1
  · have h1 := e (ρ v) (hI.1 v hv).2.1
    rw [(hI.1 v hv).2.2.2] at h1
    rw [← h1]; exact le_maxF _ _ (hI.1 v hv).2.1
end shf

/-! Trees: who is above whom, clusters -/
section tree
variable {n : Nat} {P : Nat → Nat} {K : Nat → Int32}
/-- parents are below -/
abbrev PB (n : Nat) (P : Nat → Nat) : Prop := ∀ v, 0 < v → v < n → P v < v
theorem cB_in {k v : Nat} (hP : PB n P) : In k (cB n P K v) ↔ In k (kB (K v)) ∨ ∃ u, 0 < u ∧ u < n ∧ P u = v ∧ In k (cB n P K u) := by
  unfold cB
  rw [gath_in _ _ _ (fun u h1 h2 => hP u h1 (by omega))]
  constructor
  · rintro (h | ⟨u, h1, h2, h3, h4⟩)
    · exact Or.inl h
    · exact Or.inr ⟨u, h1, by omega, h3, h4⟩
  · rintro (h | ⟨u, h1, h2, h3, h4⟩)
    · exact Or.inl h
    · exact Or.inr ⟨u, h1, by omega, h3, h4⟩
/-- from the last node down -/
theorem down {Q : Nat → Prop} (h : ∀ v, v < n → (∀ u, v < u → u < n → Q u) → Q v) : ∀ v, v < n → Q v := by
  have key : ∀ m v, n - v ≤ m → v < n → Q v := by
    intro m
    induction m with
    | zero => intro v h1 h2; omega
    | succ m ih => intro v h1 h2; exact h v h2 (fun u h3 h4 => ih u (by omega) h4)
  exact fun v hv => key (n - v) v (Nat.le_refl _) hv
theorem cB_up {k u : Nat} (hP : PB n P) (h0 : 0 < u) (hu : u < n) (h : In k (cB n P K u)) : In k (cB n P K (P u)) := (cB_in hP).mpr (Or.inr ⟨u, h0, hu, rfl, h⟩)
/-- the parent, within the tree, and the root's is the root -/
def PW (n : Nat) (P : Nat → Nat) : Prop := PB n P ∧ P 0 = 0
theorem PW.le {n : Nat} {P : Nat → Nat} (h : PW n P) {v : Nat} (hv : v < n) : P v ≤ v := by
  rcases Nat.eq_zero_or_pos v with z | z
  · rw [z, h.2]; exact Nat.le_refl _
  · exact Nat.le_of_lt (h.1 v z hv)
theorem itp_lt (h : PW n P) : ∀ t b, b < n → itp P t b ≤ b
  | 0, _, _ => Nat.le_refl _
  | t + 1, b, hb => Nat.le_trans (itp_lt h t (P b) (Nat.lt_of_le_of_lt (h.le hb) hb)) (h.le hb)
theorem itp_s : ∀ t b, itp P (t + 1) b = P (itp P t b)
  | 0, _ => rfl
  | t + 1, b => by show itp P (t + 1) (P b) = P (itp P t (P b)); exact itp_s t (P b)
theorem itp_add : ∀ s t b, itp P (s + t) b = itp P t (itp P s b)
  | 0, t, b => by rw [Nat.zero_add]; rfl
  | s + 1, t, b => by rw [show s + 1 + t = (s + t) + 1 by omega]; exact itp_add s t (P b)
theorem cB_itp {k : Nat} (h : PW n P) : ∀ t b, b < n → In k (cB n P K b) → In k (cB n P K (itp P t b))
  | 0, _, _, hk => hk
  | t + 1, b, hb, hk => by
    rcases Nat.eq_zero_or_pos b with z | z
    · subst z
      have : ∀ t, itp P t 0 = 0 := by
        intro t
        induction t with
        | zero => rfl
        | succ t ih => show itp P t (P 0) = 0; rw [h.2]; exact ih
      rw [this]; exact hk
    · exact cB_itp h t (P b) (Nat.lt_of_le_of_lt (h.le hb) hb) (cB_up h.1 z hb hk)
theorem mAb_le (h : PW n P) {a b : Nat} (hb : b < n) (hab : mAb P a b) : a ≤ b := by
  obtain ⟨t, rfl⟩ := hab
  exact itp_lt h t b hb
theorem mAb_t {a b d : Nat} (h1 : mAb P a b) (h2 : mAb P b d) : mAb P a d := by
  obtain ⟨t, rfl⟩ := h1
  obtain ⟨s, rfl⟩ := h2
  exact ⟨s + t, itp_add s t d⟩
theorem mAb_sub (h : PW n P) {a b : Nat} (hb : b < n) (hab : mAb P a b) : Sb (cB n P K b) (cB n P K a) := by
  obtain ⟨t, rfl⟩ := hab
  exact fun k hk => cB_itp h t b hb hk
theorem mAb_cmp {a b d : Nat} (h1 : mAb P a d) (h2 : mAb P b d) : mAb P a b ∨ mAb P b a := by
  obtain ⟨t, rfl⟩ := h1
  obtain ⟨s, rfl⟩ := h2
  rcases Nat.le_total s t with q | q
  · left
    refine ⟨t - s, ?_⟩
    rw [← itp_add, show s + (t - s) = t by omega]
  · right
    refine ⟨s - t, ?_⟩
    rw [← itp_add, show t + (s - t) = s by omega]
/-- all kinds are below twelve -/
abbrev KK (n : Nat) (K : Nat → Int32) : Prop := ∀ v, v < n → K v = -1 ∨ ∃ q, q < 12 ∧ K v = nI q
theorem nI_inj12 {a b : Nat} (ha : a < 12) (hb : b < 12) (h : nI a = nI b) : a = b := by
  have : ∀ a b : Fin 12, nI a.val = nI b.val → a.val = b.val := by decide +kernel
  exact this ⟨a, ha⟩ ⟨b, hb⟩ h
theorem kB_K {k v : Nat} (hK : KK n K) (hv : v < n) : In k (kB (K v)) ↔ (k < 12 ∧ K v = nI k) := by
  rcases hK v hv with e | ⟨q, hq, e⟩
  · rw [e]
    refine ⟨fun h => absurd h kB_m1, fun h => ?_⟩
    exact absurd h.2.symm (nI_m1 (by omega))
  · rw [e, kB_in hq]
    refine ⟨fun h => by rw [h]; exact ⟨hq, rfl⟩, fun h => ?_⟩
    exact (nI_inj12 hq h.1 h.2).symm
theorem cB_leaf {k v : Nat} (h : PW n P) (hK : KK n K) (hv : v < n) : In k (cB n P K v) ↔ k < 12 ∧ ∃ w, w < n ∧ K w = nI k ∧ mAb P v w := by
  constructor
  · refine down (Q := fun v => In k (cB n P K v) → k < 12 ∧ ∃ w, w < n ∧ K w = nI k ∧ mAb P v w) ?_ v hv
    intro v hv ih hk
    rcases (cB_in h.1).mp hk with q | ⟨u, h0, hu, e, hk2⟩
    · have := (kB_K hK hv).mp q
      exact ⟨this.1, v, hv, this.2, mAb_r⟩
    · have h3 := h.1 u h0 hu
      obtain ⟨h12, w, hw, hkw, hab⟩ := ih u (by omega) hu hk2
      exact ⟨h12, w, hw, hkw, mAb_t ⟨1, e⟩ hab⟩
  · rintro ⟨h12, w, hw, hkw, t, rfl⟩
    exact cB_itp h t w hw ((cB_in h.1).mpr (Or.inl ((kB_K hK hw).mpr ⟨h12, hkw⟩)))
theorem cB_Ks (h : PW n P) (hK : KK n K) {v : Nat} (hv : v < n) : Ks (cB n P K v) := fun _ hk => ((cB_leaf h hK hv).mp hk).1
theorem ab_root (h : PW n P) : ∀ v, v < n → mAb P 0 v := by
  intro v
  induction v using Nat.strongRecOn with
  | _ v ih =>
    intro hv
    rcases Nat.eq_zero_or_pos v with z | z
    · rw [z]; exact mAb_r
    · have := h.1 v z hv
      exact mAb_t (ih (P v) this (by omega)) ⟨1, rfl⟩
theorem cB_ne (hT : TV n P K) (h : PW n P) {v : Nat} (hv : v < n) : ¬ cB n P K v = 0 := by
  have key : ∃ k, In k (cB n P K v) := by
    refine down (Q := fun v => ∃ k, In k (cB n P K v)) ?_ v hv
    intro v hv ih
    rcases hT.2.2.1 v hv with e | ⟨q, hq, e⟩
    · obtain ⟨a, b, h0, hab, hb, ha, _⟩ := hT.2.2.2 v hv e
      have h3 := h.1 a h0 (by omega)
      obtain ⟨k, hk⟩ := ih a (by omega) (by omega)
      exact ⟨k, (cB_in h.1).mpr (Or.inr ⟨a, h0, by omega, ha, hk⟩)⟩
    · exact ⟨q, (cB_in h.1).mpr (Or.inl ((kB_K hT.2.2.1 hv).mpr ⟨hq, e⟩))⟩
  obtain ⟨k, hk⟩ := key
  exact fun e => by rw [e] at hk; exact In_0 hk
/-- each kind once -/
def Plain (n : Nat) (K : Nat → Int32) : Prop := ∀ a b, a < n → b < n → ¬ K a = -1 → K a = K b → a = b
theorem pl_lam (h : PW n P) (hK : KK n K) (hp : Plain n K) {v w : Nat} (hv : v < n) (hw : w < n) : Sb (cB n P K v) (cB n P K w) ∨ Sb (cB n P K w) (cB n P K v) ∨ ∀ k, In k (cB n P K v) → ¬ In k (cB n P K w) := by
  by_cases q : ∃ k, In k (cB n P K v) ∧ In k (cB n P K w)
  · obtain ⟨k, h1, h2⟩ := q
    obtain ⟨h12, a, ha, ka, aa⟩ := (cB_leaf h hK hv).mp h1
    obtain ⟨_, b, hb, kb, bb⟩ := (cB_leaf h hK hw).mp h2
    have e : a = b := hp a b ha hb (by rw [ka]; exact nI_m1 (by omega)) (by rw [ka, kb])
    subst e
    rcases mAb_cmp aa bb with z | z
    · exact Or.inr (Or.inl (mAb_sub h hw z))
    · exact Or.inl (mAb_sub h hv z)
  · exact Or.inr (Or.inr (fun k h1 h2 => q ⟨k, h1, h2⟩))
theorem pl_dst (hT : TV n P K) (h : PW n P) (hp : Plain n K) {v w : Nat} (hv : v < n) (hw : w < n) (e : cB n P K v = cB n P K w) : v = w := by
  have hK := hT.2.2.1
  have key : ∀ v w, v < n → w < n → cB n P K v = cB n P K w → mAb P v w → v = w := by
    intro v w hv hw e hab
    refine Classical.byContradiction (fun hne => ?_)
    have hlt : v < w := by have := mAb_le h hw hab; omega
    -- v has a child besides the one towards w
    have hkv : K v = -1 := by
      obtain ⟨t, ht⟩ := hab
      cases t with
      | zero => exact absurd ht.symm hne
      | succ t =>
        rw [itp_s] at ht
        have hlt2 : itp P t w < n := Nat.lt_of_le_of_lt (itp_lt h t w hw) hw
        rcases Nat.eq_zero_or_pos (itp P t w) with z | z
        · rw [z, h.2] at ht
          -- then v = 0 and the chain reached 0: still 0 has kind -1 if it has a child on the way
          have hw0 : 0 < w := by omega
          have : ∀ s b, 0 < b → b < n → itp P s b = 0 → K 0 = -1 := by
            intro s
            induction s with
            | zero => intro b h1 h2 h3; have : b = 0 := h3; omega
            | succ s ih =>
              intro b h1 h2 h3
              rcases Nat.eq_zero_or_pos (P b) with y | y
              · have := (hT.2.1 b h1 h2).2
                rw [y] at this; exact this
              · exact ih (P b) y (by have := h.1 b h1 h2; omega) h3
          rw [← ht]
          exact this t w hw0 hw z
        · have := (hT.2.1 _ z hlt2).2
          rw [ht] at this; exact this
    obtain ⟨a, b, h0, hab2, hb, ha1, hb1⟩ := hT.2.2.2 v hv hkv
    -- one of a, b is not above w
    have hone : ∃ c, 0 < c ∧ c < n ∧ P c = v ∧ ¬ mAb P c w := by
      by_cases q : mAb P a w
      · refine ⟨b, by omega, hb, hb1, fun q2 => ?_⟩
        rcases mAb_cmp q q2 with z | z
        · -- a above b, a ≠ b: so above v
          have z2 := (mAb_s (by omega)).mp z
          rw [hb1] at z2
          have := mAb_le h hv z2
          have := h.1 a h0 (by omega)
          omega
        · have := mAb_le h (by omega) z
          omega
      · exact ⟨a, h0, by omega, ha1, q⟩
    obtain ⟨c, hc0, hc, hcp, hcw⟩ := hone
    obtain ⟨k, _, hk⟩ := In_ne (cB_ne hT h hc)
    have hkv2 : In k (cB n P K v) := by have := cB_up h.1 hc0 hc hk; rw [hcp] at this; exact this
    rw [e] at hkv2
    obtain ⟨h12, x, hx, kx, ax⟩ := (cB_leaf h hK hc).mp hk
    obtain ⟨_, y, hy, ky, ay⟩ := (cB_leaf h hK hw).mp hkv2
    have exy : x = y := hp x y hx hy (by rw [kx]; exact nI_m1 (by omega)) (by rw [kx, ky])
    subst exy
    rcases mAb_cmp ax ay with z | z
    · exact hcw z
    · -- w above c, c a child of v above w
      by_cases q : c = w
      · exact hcw (by rw [q]; exact mAb_r)
      · have z2 := (mAb_s q).mp z
        rw [hcp] at z2
        have := mAb_le h hv z2
        omega
  obtain ⟨k, _, hk⟩ := In_ne (cB_ne hT h hv)
  have hk2 := hk
  rw [e] at hk2
  obtain ⟨h12, a, ha, ka, aa⟩ := (cB_leaf h hK hv).mp hk
  obtain ⟨_, b, hb, kb, bb⟩ := (cB_leaf h hK hw).mp hk2
  have eab : a = b := hp a b ha hb (by rw [ka]; exact nI_m1 (by omega)) (by rw [ka, kb])
  subst eab
  rcases mAb_cmp aa bb with z | z
  · exact key v w hv hw e z
  · exact (key w v hw hv e.symm z).symm
/-- the clusters of a plain tree make a tree -/
abbrev CM (n : Nat) (P : Nat → Nat) (K : Nat → Int32) : Int32 → Prop := fun x => ∃ v, v < n ∧ cB n P K v = x
theorem pl_leaf (h : PW n P) (hT : TV n P K) {w q : Nat} (hw : w < n) (hq : q < 12) (e : K w = nI q) : cB n P K w = bitI q := by
  refine In_ext (fun k _ => ?_)
  rw [In_bit hq, cB_in h.1]
  constructor
  · rintro (z | ⟨u, h0, hu, hp, _⟩)
    · have := (kB_K hT.2.2.1 hw).mp z
      exact nI_inj12 this.1 hq (by rw [← this.2, e])
    · have := (hT.2.1 u h0 hu).2
      rw [hp, e] at this
      exact absurd this (nI_m1 (by omega))
  · intro z
    exact Or.inl ((kB_K hT.2.2.1 hw).mpr ⟨by omega, by rw [z]; exact e⟩)
theorem pl_GM (hT : TV n P K) (h : PW n P) (hp : Plain n K) : GM (CM n P K) (cB n P K 0) := by
  refine ⟨⟨0, hT.1, rfl⟩, cB_Ks h hT.2.2.1 hT.1, ?_, ?_, ?_⟩
  · rintro x ⟨v, hv, rfl⟩
    exact ⟨mAb_sub h hv (ab_root h v hv), cB_ne hT h hv⟩
  · rintro x y ⟨v, hv, rfl⟩ ⟨w, hw, rfl⟩
    exact pl_lam h hT.2.2.1 hp hv hw
  · intro k hk
    obtain ⟨h12, w, hw, kw, _⟩ := (cB_leaf h hT.2.2.1 hT.1).mp hk
    exact ⟨w, hw, pl_leaf h hT hw h12 kw⟩
/-! plain: as many leaves as kinds -/
theorem sumU_eq {f g : Nat → Nat} : ∀ n, (∀ k, k < n → g k ≤ f k) → sumU f n = sumU g n → ∀ k, k < n → f k = g k
  | 0, _, _, _, hk => absurd hk (by omega)
  | n + 1, h, e, k, hk => by
    have h1 := sumU_le (f := g) (g := f) n (fun k hk => h k (by omega))
    have h2 := h n (by omega)
    have e2 : sumU f n + f n = sumU g n + g n := e
    by_cases q : k = n
    · subst q; omega
    · exact sumU_eq n (fun k hk => h k (by omega)) (by omega) k (by omega)
theorem lv_sum (hK : KK n K) : cntU (fun v => ¬ K v = -1) n = sumU (fun k => cntU (fun v => K v = nI k) n) 12 := by
  have key : ∀ m, m ≤ n → cntU (fun v => ¬ K v = -1) m = sumU (fun k => cntU (fun v => K v = nI k) m) 12 := by
    intro m
    induction m with
    | zero => intro _; exact (sumU_0 12).symm
    | succ m ih =>
      intro hm
      have ih := ih (by omega)
      rcases hK m (by omega) with e | ⟨q, hq, e⟩
      · rw [cntU_n (fun z => z e), ih]
        refine sumU_c 12 (fun k hk => (cntU_n ?_).symm)
        rw [e]; exact fun z => nI_m1 (by omega) z.symm
      · rw [cntU_y (show ¬ K m = -1 by rw [e]; exact nI_m1 (by omega)), ih]
        have : sumU (fun k => cntU (fun v => K v = nI k) (m + 1)) 12 = sumU (fun k => cntU (fun v => K v = nI k) m + (if k = q then 1 else 0)) 12 := by
          refine sumU_c 12 (fun k hk => ?_)
          by_cases z : k = q
          · rw [if_pos z, cntU_y (by rw [e, z])]
          · rw [if_neg z, cntU_n (fun y => z (nI_inj12 hk hq (by rw [← y, e]))), Nat.add_zero]
        rw [this, sumU_add, sumU_one 12 hq]
  exact key n (Nat.le_refl _)
theorem pcn_sum {x : Int32} : ∀ m, pcF x m = sumU (fun k => cI (In k x) 1 0) m
  | 0 => rfl
  | m + 1 => by
    show pcF x m + _ = sumU (fun k => cI (In k x) 1 0) m + cI (In m x) 1 0
    rw [pcn_sum m]
    by_cases h : In m x
    · rw [cI_t h, if_pos (show x.toBitVec.getLsbD m = true from h)]
    · rw [cI_f h, if_neg (show ¬ x.toBitVec.getLsbD m = true from h)]
theorem plain_iff (hT : TV n P K) (h : PW n P) : cntU (fun v => ¬ K v = -1) n = pcn (cB n P K 0) ↔ Plain n K := by
  have hK := hT.2.2.1
  have hin : ∀ k, k < 12 → (In k (cB n P K 0) ↔ ∃ w, w < n ∧ K w = nI k) := fun k hk => by
    rw [cB_leaf h hK hT.1]
    exact ⟨fun ⟨_, w, hw, e, _⟩ => ⟨w, hw, e⟩, fun ⟨w, hw, e⟩ => ⟨hk, w, hw, e, ab_root h w hw⟩⟩
  rw [lv_sum hK, show pcn (cB n P K 0) = _ from pcn_sum 12]
  have hge : ∀ k, k < 12 → cI (In k (cB n P K 0)) 1 0 ≤ cntU (fun v => K v = nI k) n := by
    intro k hk
    by_cases q : In k (cB n P K 0)
    · rw [cI_t q]
      obtain ⟨w, hw, e⟩ := (hin k hk).mp q
      exact cnt_pos n hw e
    · rw [cI_f q]; exact Nat.zero_le _
  constructor
  · intro e a b ha hb hna hab
    have e2 := sumU_eq 12 hge e
    rcases hK a ha with z | ⟨q, hq, z⟩
    · exact absurd z hna
    · have h3 := e2 q hq
      have h4 : In q (cB n P K 0) := (hin q hq).mpr ⟨a, ha, z⟩
      rw [cI_t h4] at h3
      rcases Nat.lt_trichotomy a b with y | y | y
      · have := cnt_two (q := fun v => K v = nI q) n y hb z (by rw [← hab]; exact z)
        omega
      · exact y
      · have := cnt_two (q := fun v => K v = nI q) n y ha (by rw [← hab]; exact z) z
        omega
  · intro hp
    refine sumU_c 12 (fun k hk => ?_)
    by_cases q : In k (cB n P K 0)
    · rw [cI_t q]
      obtain ⟨w, hw, e⟩ := (hin k hk).mp q
      have h1 := cnt_pos (q := fun v => K v = nI k) n hw e
      have h2 : cntU (fun v => K v = nI k) n ≤ 1 := by
        have h3 : cntU (fun v => K v = nI k) n ≤ cntU (fun v => v = w) n := cnt_mono n (fun v hv hz => hp v w hv hw (by rw [hz]; exact nI_m1 (by omega)) (by rw [hz, e]))
        have h4 : cntU (fun v => v = w) n = 1 := by
          rw [cnt_sm, sumU_c n (g := fun v => if v = w then 1 else 0) (fun v _ => by
            by_cases z : v = w
            · rw [cI_t z, if_pos z]
            · rw [cI_f z, if_neg z])]
          exact sumU_one n hw
        omega
      omega
    · rw [cI_f q]
      have : cntU (fun v => K v = nI k) n = cntU (fun _ => False) n := cnt_c n (fun v hv => ⟨fun z => q ((hin k hk).mpr ⟨v, hv, z⟩), fun z => absurd z id⟩)
      rw [this, cnt_sm, sumU_c n (g := fun _ => 0) (fun v _ => cI_f id), sumU_0]
end tree
/-! what two trees alike share -/
section iso
variable {n : Nat} {P P9 : Nat → Nat} {K K9 : Nat → Int32} {π ρ : Nat → Nat}
theorem iso_pos (h : Iso n P K P9 K9 π ρ) {v : Nat} (h0 : 0 < v) (hv : v < n) : 0 < π v := by
  rcases Nat.eq_zero_or_pos (π v) with z | z
  · have h1 := h.1.inj hv (show 0 < n by omega) (by rw [z, h.2.1])
    omega
  · exact z
theorem iso_ch (h : Iso n P K P9 K9 π ρ) (hP : PB n P) {u v : Nat} (h0 : 0 < u) (hu : u < n) (hv : v < n) : P u = v ↔ P9 (π u) = π v := by
  rw [← h.2.2.2 u h0 hu]
  refine ⟨fun e => by rw [e], fun e => ?_⟩
  have := hP u h0 hu
  exact h.1.inj (by omega) hv e
theorem iso_cB (h : Iso n P K P9 K9 π ρ) (hP : PB n P) (hP9 : PB n P9) : ∀ v, v < n → cB n P K v = cB n P9 K9 (π v) := by
  refine down ?_
  intro v hv ih
  refine In_ext (fun k _ => ?_)
  rw [cB_in hP, cB_in hP9, h.2.2.1 v hv]
  refine or_congr Iff.rfl ?_
  constructor
  · rintro ⟨u, h0, hu, e, hk⟩
    refine ⟨π u, iso_pos h h0 hu, (h.1 u hu).1, (iso_ch h hP h0 hu hv).mp e, ?_⟩
    have := hP u h0 hu
    rw [← ih u (by omega) hu]
    exact hk
  · rintro ⟨u, h0, hu, e, hk⟩
    have hr := (h.1 u hu).2.1
    have e2 := (h.1 u hu).2.2.2
    have hr0 : 0 < ρ u := by
      rcases Nat.eq_zero_or_pos (ρ u) with z | z
      · rw [z, h.2.1] at e2; omega
      · exact z
    have e3 : P (ρ u) = v := (iso_ch h hP hr0 hr hv).mpr (by rw [e2]; exact e)
    have := hP (ρ u) hr0 hr
    refine ⟨ρ u, hr0, hr, e3, ?_⟩
    rw [ih (ρ u) (by omega) hr, e2]
    exact hk
theorem iso_TV (h : Iso n P K P9 K9 π ρ) (hT : TV n P K) (hP9 : PB n P9) : TV n P9 K9 := by
  have hP : PB n P := fun v h0 hv => (hT.2.1 v h0 hv).1
  have hK : ∀ v, v < n → K9 v = K (ρ v) := fun v hv => by
    have h1 := h.2.2.1 (ρ v) (h.1 v hv).2.1
    rw [(h.1 v hv).2.2.2] at h1; exact h1.symm
  refine ⟨hT.1, fun v h0 hv => ⟨hP9 v h0 hv, ?_⟩, fun v hv => ?_, fun v hv hk => ?_⟩
  · have hr := (h.1 v hv).2.1
    have e2 := (h.1 v hv).2.2.2
    have hr0 : 0 < ρ v := by
      rcases Nat.eq_zero_or_pos (ρ v) with z | z
      · rw [z, h.2.1] at e2; omega
      · exact z
    have h1 := h.2.2.2 (ρ v) hr0 hr
    rw [e2] at h1
    have h2 := hT.2.1 (ρ v) hr0 hr
    rw [← h1, ← h.2.2.1 _ (by omega)]
    exact h2.2
  · rw [hK v hv]; exact hT.2.2.1 _ (h.1 v hv).2.1
  · rw [hK v hv] at hk
    obtain ⟨a, b, h0, hab, hb, ha, hb1⟩ := hT.2.2.2 _ (h.1 v hv).2.1 hk
    have ea := (iso_ch h hP h0 (show a < n by omega) (h.1 v hv).2.1).mp ha
    have eb := (iso_ch h hP (show 0 < b by omega) hb (h.1 v hv).2.1).mp hb1
    rw [(h.1 v hv).2.2.2] at ea eb
    have hne : π a ≠ π b := fun e => by have := h.1.inj (show a < n by omega) hb e; omega
    have pa := iso_pos h h0 (show a < n by omega)
    have pb := iso_pos h (show 0 < b by omega) hb
    rcases Nat.lt_or_ge (π a) (π b) with z | z
    · exact ⟨π a, π b, pa, z, (h.1 b hb).1, ea, eb⟩
    · exact ⟨π b, π a, pb, by omega, (h.1 a (by omega)).1, eb, ea⟩
theorem iso_lv (h : Iso n P K P9 K9 π ρ) : cntU (fun v => ¬ K v = -1) n = cntU (fun v => ¬ K9 v = -1) n := by
  rw [← cnt_bij h.1 (fun v => ¬ K9 v = -1)]
  exact cnt_c n (fun k hk => by rw [h.2.2.1 k hk])
theorem iso_plain (h : Iso n P K P9 K9 π ρ) : Plain n K ↔ Plain n K9 := by
  constructor
  · intro hp a b ha hb hna hab
    have ea := h.2.2.1 (ρ a) (h.1 a ha).2.1
    have eb := h.2.2.1 (ρ b) (h.1 b hb).2.1
    rw [(h.1 a ha).2.2.2] at ea
    rw [(h.1 b hb).2.2.2] at eb
    have := hp (ρ a) (ρ b) (h.1 a ha).2.1 (h.1 b hb).2.1 (by rw [ea]; exact hna) (by rw [ea, eb]; exact hab)
    rw [← (h.1 a ha).2.2.2, this, (h.1 b hb).2.2.2]
  · intro hp a b ha hb hna hab
    have := hp (π a) (π b) (h.1 a ha).1 (h.1 b hb).1 (by rw [← h.2.2.1 a ha]; exact hna) (by rw [← h.2.2.1 a ha, ← h.2.2.1 b hb]; exact hab)
    exact h.1.inj ha hb this
end iso

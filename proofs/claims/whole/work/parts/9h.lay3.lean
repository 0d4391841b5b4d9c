/-! Laying: the class's rows are the least ways, told to a node or below it -/
/-- a is the least of C; 2^28 or more says none -/
def Ul (C : Nat → Prop) (a : Nat) : Prop := (268435456 ≤ a ∧ ∀ c, ¬ C c) ∨ (a < 268435456 ∧ C a ∧ ∀ c, C c → a ≤ c)
section ul
variable {C C9 : Nat → Prop} {a b : Nat}
theorem Ul_sub (h1 : ∀ c, C9 c → C c) (h2 : ∀ c, C c → ∃ c9, c9 ≤ c ∧ C9 c9) (h : Ul C a) : Ul C9 a := by
  rcases h with ⟨p, q⟩ | ⟨p, q, r⟩
  · exact Or.inl ⟨p, fun c z => q c (h1 c z)⟩
  · obtain ⟨c9, l9, z⟩ := h2 a q
    have := r c9 (h1 c9 z)
    have e : c9 = a := by omega
    subst e
    exact Or.inr ⟨p, z, fun c w => r c (h1 c w)⟩
theorem Ul_c (e : ∀ c, C c ↔ C9 c) (h : Ul C a) : Ul C9 a := Ul_sub (fun c q => (e c).mpr q) (fun c q => ⟨c, Nat.le_refl _, (e c).mp q⟩) h
theorem Ul_min (h : Ul C a) (h9 : Ul C9 b) : Ul (fun c => C c ∨ C9 c) (min a b) := by
  rcases h with ⟨p, q⟩ | ⟨p, q, r⟩
  · rcases h9 with ⟨p9, q9⟩ | ⟨p9, q9, r9⟩
    · exact Or.inl ⟨by omega, fun c z => z.elim (q c) (q9 c)⟩
    · have e : min a b = b := by omega
      rw [e]
      exact Or.inr ⟨p9, Or.inr q9, fun c z => z.elim (fun w => absurd w (q c)) (r9 c)⟩
  · rcases h9 with ⟨p9, q9⟩ | ⟨p9, q9, r9⟩
    · have e : min a b = a := by omega
      rw [e]
      exact Or.inr ⟨p, Or.inl q, fun c z => z.elim (r c) (fun w => absurd w (q9 c))⟩
    · rcases Nat.le_total a b with z | z
      · rw [Nat.min_eq_left z]
        refine Or.inr ⟨p, Or.inl q, fun c w => ?_⟩
        rcases w with w | w
        · exact r c w
        · exact Nat.le_trans z (r9 c w)
      · rw [Nat.min_eq_right z]
        refine Or.inr ⟨p9, Or.inr q9, fun c w => ?_⟩
        rcases w with w | w
        · exact Nat.le_trans z (r c w)
        · exact r9 c w
theorem Ul_cap (h : Ul C a) : Ul C (min a 268435456) := by
  rcases h with ⟨p, q⟩ | ⟨p, q, r⟩
  · exact Or.inl ⟨by omega, q⟩
  · have e : min a 268435456 = a := by omega
    rw [e]
    exact Or.inr ⟨p, q, r⟩
theorem Ul_add {k : Nat} (h : Ul C a) (h9 : Ul C9 b) (hb : ∀ c, C c → c ≤ 1000000) (hb9 : ∀ c, C9 c → c ≤ 1000000) (hk : k ≤ 20000) : Ul (fun c => ∃ c1 c2, C c1 ∧ C9 c2 ∧ c = c1 + c2 + k) (a + b + k) := by
  rcases h with ⟨p, q⟩ | ⟨p, q, r⟩
  · exact Or.inl ⟨by omega, fun c ⟨c1, _, z, _⟩ => q c1 z⟩
  · rcases h9 with ⟨p9, q9⟩ | ⟨p9, q9, r9⟩
    · exact Or.inl ⟨by omega, fun c ⟨_, c2, _, z, _⟩ => q9 c2 z⟩
    · have := hb a q
      have := hb9 b q9
      refine Or.inr ⟨by omega, ⟨a, b, q, q9, rfl⟩, ?_⟩
      rintro c ⟨c1, c2, z1, z2, rfl⟩
      have := r c1 z1
      have := r9 c2 z2
      omega
theorem Ul_add1 (h : Ul C a) (hb : ∀ c, C c → c ≤ 1000000) : Ul (fun c => ∃ c1, C c1 ∧ c = c1 + 1) (1 + a) := by
  rcases h with ⟨p, q⟩ | ⟨p, q, r⟩
  · exact Or.inl ⟨by omega, fun c ⟨c1, z, _⟩ => q c1 z⟩
  · have := hb a q
    refine Or.inr ⟨by omega, ⟨a, q, by omega⟩, ?_⟩
    rintro c ⟨c1, z, rfl⟩
    have := r c1 z
    omega
end ul
def Uv (C : Nat → Prop) (v : Int32) : Prop := ∃ a, v = nI a ∧ a ≤ 268435456 ∧ Ul C a
theorem Uv_c {C C9 : Nat → Prop} {v : Int32} (e : ∀ c, C c ↔ C9 c) (h : Uv C v) : Uv C9 v := by
  obtain ⟨a, h1, h2, h3⟩ := h
  exact ⟨a, h1, h2, Ul_c e h3⟩
theorem NEV_e : NEV = nI 268435456 := by decide +kernel
theorem Uv_no {C : Nat → Prop} (h : ∀ c, ¬ C c) : Uv C NEV := ⟨268435456, NEV_e, Nat.le_refl _, Or.inl ⟨Nat.le_refl _, h⟩⟩
theorem Uv_min {C C9 : Nat → Prop} {v v9 : Int32} (h : Uv C v) (h9 : Uv C9 v9) : Uv (fun c => C c ∨ C9 c) (mn v v9) := by
  obtain ⟨a, h1, h2, h3⟩ := h
  obtain ⟨b, g1, g2, g3⟩ := h9
  exact ⟨min a b, by rw [h1, g1, mn_nI (by omega) (by omega)], by omega, Ul_min h3 g3⟩
/-- told to i or below it, a step a node -/
def Lf (A : Nat → Nat → Nat → Prop) (nk : Nat) (p : Nat → Nat) (g i c : Nat) : Prop := ∃ x c1, x < nk ∧ mAb p i x ∧ A g x c1 ∧ c = c1 + mSt p i x
/-- no child, or two -/
def Kd (nk : Nat) (p : Nat → Nat) (k1 k2 : Nat → Int32) (i : Nat) : Prop := (k2 i = -1 ∧ ∀ u, u < nk → mAb p i u → u = i) ∨ ∃ a b, i < a ∧ a < nk ∧ i < b ∧ b < nk ∧ ¬ a = b ∧ p a = i ∧ p b = i ∧ k1 i = nI a ∧ k2 i = nI b ∧ ∀ u, 0 < u → u < nk → p u = i → u = a ∨ u = b
theorem wgt_up {p : Nat → Nat} {m x y : Nat} : wgt p m x y ≤ 10000 + mSt p m x + mSt p m y := by
  unfold wgt
  by_cases e : lzI p m x y
  · rw [cI_t e]; omega
  · rw [cI_f e]; omega
section cls
variable {A : Nat → Nat → Nat → Prop} {nk : Nat} {p : Nat → Nat}
theorem Lf_b {g : Nat} (hb : ∀ m c, A g m c → c ≤ 480000) (hnk : nk ≤ 23) : ∀ i c, Lf A nk p g i c → c ≤ 1000000 := by
  rintro i c ⟨x, c1, hx, _, h1, rfl⟩
  have := hb x c1 h1
  have := mSt_le2 (p := p) (a := i) (b := x)
  omega
theorem br_sp (hp : ∀ v, 0 < v → p v < v) (h0 : p 0 = 0) (hnk : nk ≤ 23) {g o t : Nat} {f k1 k2 : Nat → Int32} (hA : ∀ m c, A g m c ↔ ∃ x y, x < nk ∧ y < nk ∧ mAb p m x ∧ mAb p m y ∧ ∃ c1 c2, A o x c1 ∧ A t y c2 ∧ c = c1 + c2 + wgt p m x y) (hbo : ∀ m c, A o m c → c ≤ 480000) (hbt : ∀ m c, A t m c → c ≤ 480000) (ho : ∀ i, i < nk → Uv (Lf A nk p o i) (f (o * 23 + i))) (ht : ∀ i, i < nk → Uv (Lf A nk p t i) (f (t * 23 + i))) {i : Nat} (hi : i < nk) (hK : Kd nk p k1 k2 i) : Uv (A g i) (brC f k1 k2 o t i) := by
  obtain ⟨a0, e0, l0, u0⟩ := ho i hi
  obtain ⟨b0, f0, m0, v0⟩ := ht i hi
  have S0 := Ul_add (k := 10000) u0 v0 (Lf_b hbo hnk i) (Lf_b hbt hnk i) (by omega)
  have low : ∀ c, (∃ c1 c2, Lf A nk p o i c1 ∧ Lf A nk p t i c2 ∧ c = c1 + c2 + 10000) → ∃ c9, c9 ≤ c ∧ A g i c9 := by
    rintro c ⟨c1, c2, ⟨x, d1, hx, ax, w1, e1⟩, ⟨y, d2, hy, ay, w2, e2⟩, e⟩
    have := wgt_up (p := p) (m := i) (x := x) (y := y)
    exact ⟨d1 + d2 + wgt p i x y, by omega, (hA i _).mpr ⟨x, y, hx, hy, ax, ay, d1, d2, w1, w2, rfl⟩⟩
  rcases hK with ⟨k, hno⟩ | ⟨a, b, ha0, ha, hb0, hb, hab, pa, pb, ea, eb, hex⟩
  · have e : brC f k1 k2 o t i = nI (min (a0 + b0 + 10000) 268435456) := by
      show (if k2 i = -1 then _ else _) = _
      rw [if_pos k, e0, f0, NEV_e, nI_add, nI_add, mn_nI (by omega) (by omega)]
      exact congrArg nI (by omega)
    refine ⟨_, e, by omega, Ul_cap (Ul_sub ?_ low S0)⟩
    intro c hc
    obtain ⟨x, y, hx, hy, ax, ay, c1, c2, w1, w2, rfl⟩ := (hA i c).mp hc
    have ex := hno x hx ax
    have ey := hno y hy ay
    subst ex
    subst ey
    refine ⟨c1, c2, ⟨y, c1, hx, ax, w1, ?_⟩, ⟨y, c2, hx, ax, w2, ?_⟩, ?_⟩
    · rw [mSt_0]; rfl
    · rw [mSt_0]; rfl
    · rw [show wgt p y y y = 10000 + mSt p y y + mSt p y y from cI_t (Or.inl rfl), mSt_0]
  · obtain ⟨a1, e1, l1, u1⟩ := ho a ha
    obtain ⟨a2, e2, l2, u2⟩ := ho b hb
    obtain ⟨b1, f1, m1, v1⟩ := ht a ha
    obtain ⟨b2, f2, m2, v2⟩ := ht b hb
    have S1 := Ul_add (k := 0) u1 v2 (Lf_b hbo hnk a) (Lf_b hbt hnk b) (by omega)
    have S2 := Ul_add (k := 0) u2 v1 (Lf_b hbo hnk b) (Lf_b hbt hnk a) (by omega)
    have e : brC f k1 k2 o t i = nI (min (min (min (a0 + b0 + 10000) (a1 + b2 + 0)) (a2 + b1 + 0)) 268435456) := by
      show (if k2 i = -1 then _ else _) = _
      rw [if_neg (by rw [eb]; exact nI_m1 (by omega)), ea, eb, nI_clamp (by omega), nI_clamp (by omega), e0, f0, e1, f2, e2, f1, NEV_e]
      simp only [nI_add]
      rw [mn_nI (by omega) (by omega), mn_nI (by omega) (by omega), mn_nI (by omega) (by omega)]
      exact congrArg nI (by omega)
    refine ⟨_, e, by omega, Ul_cap (Ul_sub ?_ ?_ (Ul_min (Ul_min S0 S1) S2))⟩
    · intro c hc
      obtain ⟨x, y, hx, hy, ax, ay, c1, c2, w1, w2, rfl⟩ := (hA i c).mp hc
      by_cases z : lzI p i x y
      · refine Or.inl (Or.inl ⟨c1 + mSt p i x, c2 + mSt p i y, ⟨x, c1, hx, ax, w1, rfl⟩, ⟨y, c2, hy, ay, w2, rfl⟩, ?_⟩)
        rw [show wgt p i x y = 10000 + mSt p i x + mSt p i y from cI_t z]
        omega
      · have hxi : ¬ x = i := fun q => z (Or.inl q)
        have hyi : ¬ y = i := fun q => z (Or.inr (Or.inl q))
        obtain ⟨s1, s2, s3, s4, s5⟩ := ab_side hp h0 (x + 1) x (by omega) ax hxi
        obtain ⟨r1, r2, r3, r4, r5⟩ := ab_side hp h0 (y + 1) y (by omega) ay hyi
        have hw : wgt p i x y = mSt p (mSd p i x) x + mSt p (mSd p i y) y := by
          rw [show wgt p i x y = (mSt p i x - 1) + (mSt p i y - 1) from cI_f z, s3, r3]
          omega
        rcases hex _ s4 (by omega) s1 with q | q
        · rcases hex _ r4 (by omega) r1 with q9 | q9
          · exact absurd (Or.inr (Or.inr (q.trans q9.symm))) z
          · rw [q] at s2 hw
            rw [q9] at r2 hw
            exact Or.inl (Or.inr ⟨c1 + mSt p a x, c2 + mSt p b y, ⟨x, c1, hx, s2, w1, rfl⟩, ⟨y, c2, hy, r2, w2, rfl⟩, by omega⟩)
        · rcases hex _ r4 (by omega) r1 with q9 | q9
          · rw [q] at s2 hw
            rw [q9] at r2 hw
            exact Or.inr ⟨c1 + mSt p b x, c2 + mSt p a y, ⟨x, c1, hx, s2, w1, rfl⟩, ⟨y, c2, hy, r2, w2, rfl⟩, by omega⟩
          · exact absurd (Or.inr (Or.inr (q.trans q9.symm))) z
    · have sd : ∀ s r x y, p s = i → i < s → p r = i → i < r → ¬ s = r → mAb p s x → mAb p r y → mAb p i x ∧ mAb p i y ∧ wgt p i x y = mSt p s x + mSt p r y := by
        intro s r x y ps s0 pr r0 hsr as ar
        obtain ⟨x1, x2, x3⟩ := side_u hp h0 ps (by omega) (x + 1) x (by omega) as
        obtain ⟨y1, y2, y3⟩ := side_u hp h0 pr (by omega) (y + 1) y (by omega) ar
        have z : ¬ lzI p i x y := by
          rintro (q | q | q)
          · exact x2 q
          · exact y2 q
          · rw [x3, y3] at q; exact hsr q
        obtain ⟨_, _, s3, _⟩ := ab_side hp h0 (x + 1) x (by omega) x1 x2
        obtain ⟨_, _, r3, _⟩ := ab_side hp h0 (y + 1) y (by omega) y1 y2
        rw [x3] at s3
        rw [y3] at r3
        refine ⟨x1, y1, ?_⟩
        rw [show wgt p i x y = (mSt p i x - 1) + (mSt p i y - 1) from cI_f z, s3, r3]
        omega
      rintro c ((q | ⟨c1, c2, ⟨x, d1, hx, ax, w1, g1⟩, ⟨y, d2, hy, ay, w2, g2⟩, e⟩) | ⟨c1, c2, ⟨x, d1, hx, ax, w1, g1⟩, ⟨y, d2, hy, ay, w2, g2⟩, e⟩)
      · exact low c q
      · obtain ⟨x1, y1, hw⟩ := sd a b x y pa ha0 pb hb0 hab ax ay
        exact ⟨c, Nat.le_refl _, (hA i c).mpr ⟨x, y, hx, hy, x1, y1, d1, d2, w1, w2, by omega⟩⟩
      · obtain ⟨x1, y1, hw⟩ := sd b a x y pb hb0 pa ha0 (fun q => hab q.symm) ax ay
        exact ⟨c, Nat.le_refl _, (hA i c).mpr ⟨x, y, hx, hy, x1, y1, d1, d2, w1, w2, by omega⟩⟩
theorem li_sp (hp : ∀ v, 0 < v → p v < v) (h0 : p 0 = 0) (hnk : nk ≤ 23) {g i : Nat} {f k1 k2 : Nat → Int32} {he : Int32} (hb : ∀ m c, A g m c → c ≤ 480000) (hh : Uv (A g i) he) (hi : i < nk) (hf : ∀ i9, i < i9 → i9 < nk → Uv (Lf A nk p g i9) (f (g * 23 + i9))) (hK : Kd nk p k1 k2 i) : Uv (Lf A nk p g i) (mn (liC f k1 k2 he g i) NEV) := by
  have cap : ∀ {C : Nat → Prop} {v : Int32}, (∃ a, v = nI a ∧ a ≤ 268435457 ∧ Ul C a) → Uv C (mn v NEV) := by
    rintro C v ⟨a, e1, e2, e3⟩
    exact ⟨min a 268435456, by rw [e1, NEV_e, mn_nI (by omega) (by omega)], by omega, Ul_cap e3⟩
  obtain ⟨h1, eh, lh, uh⟩ := hh
  have self : ∀ c, A g i c → Lf A nk p g i c := fun c q => ⟨i, c, hi, mAb_r, q, by rw [mSt_0]; rfl⟩
  rcases hK with ⟨k, hno⟩ | ⟨a, b, ha0, ha, hb0, hb9, hab, pa, pb, ea, eb, hex⟩
  · refine cap ⟨h1, ?_, by omega, Ul_c (fun c => ⟨self c, ?_⟩) uh⟩
    · show (if k2 i = -1 then he else _) = _
      rw [if_pos k, eh]
    · rintro ⟨x, c1, hx, ax, w, e⟩
      have ex := hno x hx ax
      subst ex
      rw [mSt_0] at e
      rw [e]
      exact w
  · obtain ⟨a1, e1, l1, u1⟩ := hf a ha0 ha
    obtain ⟨b1, f1, m1, v1⟩ := hf b hb0 hb9
    have hU := Ul_add1 (Ul_min u1 v1) (fun c q => q.elim (Lf_b hb hnk a c) (Lf_b hb hnk b c))
    refine cap ⟨min h1 (1 + min a1 b1), ?_, by omega, Ul_c (fun c => ⟨?_, ?_⟩) (Ul_min uh hU)⟩
    · show (if k2 i = -1 then he else mn he (nI 1 + mn (f (g * 23 + (k1 i).toNatClampNeg)) (f (g * 23 + (k2 i).toNatClampNeg)))) = _
      rw [if_neg (by rw [eb]; exact nI_m1 (by omega)), ea, eb, nI_clamp (by omega), nI_clamp (by omega), e1, f1, eh, mn_nI (by omega) (by omega), nI_add, mn_nI (by omega) (by omega)]
    · have up : ∀ s c1, i < s → p s = i → Lf A nk p g s c1 → Lf A nk p g i (c1 + 1) := by
        rintro s c1 s0 ps ⟨x, d, hx, ax, w, e⟩
        obtain ⟨x1, x2, x3⟩ := side_u hp h0 ps (by omega) (x + 1) x (by omega) ax
        obtain ⟨_, _, s3, _⟩ := ab_side hp h0 (x + 1) x (by omega) x1 x2
        rw [x3] at s3
        exact ⟨x, d, hx, x1, w, by omega⟩
      rintro (q | ⟨c1, q | q, e⟩)
      · exact self c q
      · rw [e]; exact up a c1 ha0 pa q
      · rw [e]; exact up b c1 hb0 pb q
    · rintro ⟨x, c1, hx, ax, w, e⟩
      by_cases z : x = i
      · subst z
        rw [mSt_0] at e
        rw [e]
        exact Or.inl w
      · obtain ⟨s1, s2, s3, s4, s5⟩ := ab_side hp h0 (x + 1) x (by omega) ax z
        rcases hex _ s4 (by omega) s1 with q | q
        · rw [q] at s2 s3
          exact Or.inr ⟨c1 + mSt p a x, Or.inl ⟨x, c1, hx, s2, w, rfl⟩, by omega⟩
        · rw [q] at s2 s3
          exact Or.inr ⟨c1 + mSt p b x, Or.inr ⟨x, c1, hx, s2, w, rfl⟩, by omega⟩
/-- what gene node g is -/
def Gd (A : Nat → Nat → Nat → Prop) (ng nk : Nat) (p : Nat → Nat) (g1 g2 gK tk : Nat → Int32) (g : Nat) : Prop := (g2 g = -1 ∧ ∀ m, m < nk → ∀ c, A g m c ↔ gK g = tk m ∧ c = 0) ∨ ∃ o t, g < o ∧ o < ng ∧ g < t ∧ t < ng ∧ g1 g = nI o ∧ g2 g = nI t ∧ ∀ m c, A g m c ↔ ∃ x y, x < nk ∧ y < nk ∧ mAb p m x ∧ mAb p m y ∧ ∃ c1 c2, A o x c1 ∧ A t y c2 ∧ c = c1 + c2 + wgt p m x y
variable {ng : Nat} {g1 g2 k1 k2 gK tk : Nat → Int32}
theorem he_sp (hp : ∀ v, 0 < v → p v < v) (h0 : p 0 = 0) (hnk : nk ≤ 23) (hng : ng ≤ 47) (hb : ∀ g m c, g < ng → A g m c → c ≤ 480000) (hG : ∀ g, g < ng → Gd A ng nk p g1 g2 gK tk g) (hK : ∀ i, i < nk → Kd nk p k1 k2 i) {g i : Nat} {f : Nat → Int32} (hg : g < ng) (hi : i < nk) (hrow : ∀ y, g < y → y < ng → ∀ i9, i9 < nk → Uv (Lf A nk p y i9) (f (y * 23 + i9))) : Uv (A g i) (heC f g1 g2 k1 k2 tk (gK g) g i) := by
  rcases hG g hg with ⟨e, hl⟩ | ⟨o, t, o1, o2, t1, t2, e1, e2, hA⟩
  · have q : heC f g1 g2 k1 k2 tk (gK g) g i = if gK g = tk i then nI 0 else NEV := if_pos e
    rw [q]
    by_cases z : gK g = tk i
    · rw [if_pos z]
      exact ⟨0, rfl, by omega, Or.inr ⟨by omega, (hl i hi 0).mpr ⟨z, rfl⟩, fun c _ => Nat.zero_le _⟩⟩
    · rw [if_neg z]
      exact Uv_no (fun c w => z ((hl i hi c).mp w).1)
  · have q : heC f g1 g2 k1 k2 tk (gK g) g i = brC f k1 k2 o t i := by
      show (if g2 g = -1 then _ else brC f k1 k2 (g1 g).toNatClampNeg (g2 g).toNatClampNeg i) = _
      rw [if_neg (by rw [e2]; exact nI_m1 (by omega)), e1, e2, nI_clamp (by omega), nI_clamp (by omega)]
    rw [q]
    exact br_sp hp h0 hnk hA (fun m c => hb o m c o2) (fun m c => hb t m c t2) (hrow o o1 o2) (hrow t t1 t2) hi (hK i hi)
theorem fi_sp (hp : ∀ v, 0 < v → p v < v) (h0 : p 0 = 0) (hnk : nk ≤ 23) (hng : ng ≤ 47) (hb : ∀ g m c, g < ng → A g m c → c ≤ 480000) (hG : ∀ g, g < ng → Gd A ng nk p g1 g2 gK tk g) (hK : ∀ i, i < nk → Kd nk p k1 k2 i) {g : Nat} (hg : g < ng) : ∀ i f be, i ≤ nk → (∀ i9, i ≤ i9 → i9 < nk → Uv (Lf A nk p g i9) (f (g * 23 + i9))) → Uv (fun c => ∃ i9, i ≤ i9 ∧ i9 < nk ∧ A g i9 c) be → (∀ y, g < y → y < ng → ∀ i9, i9 < nk → Uv (Lf A nk p y i9) (f (y * 23 + i9))) → (∀ y, g ≤ y → y < ng → ∀ i9, i9 < nk → Uv (Lf A nk p y i9) ((fiD g1 g2 k1 k2 tk (gK g) g i f be).1 (y * 23 + i9))) ∧ Uv (fun c => ∃ i9, i9 < nk ∧ A g i9 c) (fiD g1 g2 k1 k2 tk (gK g) g i f be).2
  | 0, f, be, _, h1, h2, h3 => by
    refine ⟨fun y hy hyn i9 hi9 => ?_, Uv_c (fun c => ⟨fun ⟨i9, _, a, b⟩ => ⟨i9, a, b⟩, fun ⟨i9, a, b⟩ => ⟨i9, Nat.zero_le _, a, b⟩⟩) h2⟩
    by_cases e : y = g
    · subst e; exact h1 i9 (Nat.zero_le _) hi9
    · exact h3 y (by omega) hyn i9 hi9
  | i + 1, f, be, hi, h1, h2, h3 => by
    have hh := he_sp hp h0 hnk hng hb hG hK (f := f) hg (show i < nk by omega) h3
    refine fi_sp hp h0 hnk hng hb hG hK hg i _ _ (by omega) ?_ ?_ ?_
    · intro i9 q1 q2
      by_cases e : i9 = i
      · subst e
        rw [pk_us]
        exact li_sp hp h0 hnk (fun m c => hb g m c hg) hh (by omega) (fun i8 w1 w2 => h1 i8 (by omega) w2) (hK i9 q2)
      · rw [pk_un (by omega)]
        exact h1 i9 (by omega) q2
    · refine Uv_c (fun c => ⟨?_, ?_⟩) (Uv_min h2 hh)
      · rintro (⟨i9, q1, q2, q⟩ | q)
        · exact ⟨i9, by omega, q2, q⟩
        · exact ⟨i, Nat.le_refl _, by omega, q⟩
      · rintro ⟨i9, q1, q2, q⟩
        by_cases e : i9 = i
        · subst e; exact Or.inr q
        · exact Or.inl ⟨i9, by omega, q2, q⟩
    · intro y hy hyn i9 hi9
      rw [pk_un (by omega)]
      exact h3 y hy hyn i9 hi9
theorem ly_sp (hp : ∀ v, 0 < v → p v < v) (h0 : p 0 = 0) (hnk : nk ≤ 23) (hng : ng ≤ 47) (hb : ∀ g m c, g < ng → A g m c → c ≤ 480000) (hG : ∀ g, g < ng → Gd A ng nk p g1 g2 gK tk g) (hK : ∀ i, i < nk → Kd nk p k1 k2 i) (hn0 : 0 < ng) : ∀ v f r, v ≤ ng → (∀ y, v ≤ y → y < ng → ∀ i9, i9 < nk → Uv (Lf A nk p y i9) (f (y * 23 + i9))) → (0 < v ∨ Uv (fun c => ∃ i9, i9 < nk ∧ A 0 i9 c) r) → Uv (fun c => ∃ i9, i9 < nk ∧ A 0 i9 c) (lyD g1 g2 k1 k2 gK tk nk v f r).2
  | 0, f, r, _, _, h => by
    rcases h with h | h
    · exact absurd h (by omega)
    · exact h
  | v + 1, f, r, hv, h1, _ => by
    obtain ⟨q1, q2⟩ := fi_sp hp h0 hnk hng hb hG hK (g := v) (by omega) nk f NEV (Nat.le_refl _) (fun i9 a b => absurd b (by omega)) (Uv_no (fun c ⟨i9, a, b, _⟩ => absurd b (by omega))) (fun y hy => h1 y (by omega))
    refine ly_sp hp h0 hnk hng hb hG hK hn0 v _ _ (by omega) q1 ?_
    rcases Nat.eq_zero_or_pos v with z | z
    · subst z; exact Or.inr q2
    · exact Or.inl z
end cls
/-! first and second children -/
def FT (n : Nat) (P : Nat → Nat) (w : Nat) (f g : Nat → Int32) (x : Nat) : Prop := (f x = -1 ∧ g x = -1 ∧ ∀ u, w < u → u < n → ¬ P u = x) ∨ (∃ a, w < a ∧ a < n ∧ P a = x ∧ f x = nI a ∧ g x = -1 ∧ ∀ u, w < u → u < n → P u = x → u = a) ∨ ∃ a b, w < a ∧ a < b ∧ b < n ∧ P a = x ∧ P b = x ∧ f x = nI a ∧ g x = nI b
theorem ft_sp {n : Nat} {P : Nat → Nat} (hn : n ≤ 47) (hP : PB n P) : ∀ w f g, w < n → (∀ x, x < n → FT n P w f g x) → ∀ x, x < n → FT n P 0 (ftF P w f g).1 (ftF P w f g).2 x
  | 0, _, _, _, h => h
  | w + 1, f, g, hw, h => by
    refine ft_sp hn hP w _ _ (by omega) ?_
    intro x hx
    by_cases e : x = P (w + 1)
    · have q1 : upd f (P (w + 1)) (nI (w + 1)) x = nI (w + 1) := by rw [e]; exact pk_us
      have q2 : upd g (P (w + 1)) (f (P (w + 1))) x = f x := by rw [e]; exact pk_us
      unfold FT
      rw [q1, q2]
      rcases h x hx with ⟨a, b, c⟩ | ⟨a, h1, h2, h3, h4, h5, h6⟩ | ⟨a, b, h1, h2, h3, h4, h5, h6, h7⟩
      · refine Or.inr (Or.inl ⟨w + 1, by omega, hw, e.symm, rfl, a, fun u u1 u2 u3 => ?_⟩)
        refine Classical.byContradiction (fun z => c u (by omega) u2 u3)
      · exact Or.inr (Or.inr ⟨w + 1, a, by omega, h1, h2, e.symm, h3, rfl, h4⟩)
      · exact Or.inr (Or.inr ⟨w + 1, a, by omega, h1, by omega, e.symm, h4, rfl, h6⟩)
    · unfold FT
      rw [pk_un e, pk_un e]
      rcases h x hx with ⟨a, b, c⟩ | ⟨a, h1, h2, h3, h4, h5, h6⟩ | ⟨a, b, h1, h2, h3, h4, h5, h6, h7⟩
      · refine Or.inl ⟨a, b, fun u u1 u2 u3 => ?_⟩
        by_cases z : u = w + 1
        · subst z; exact e u3.symm
        · exact c u (by omega) u2 u3
      · refine Or.inr (Or.inl ⟨a, by omega, h2, h3, h4, h5, fun u u1 u2 u3 => ?_⟩)
        by_cases z : u = w + 1
        · subst z; exact absurd u3.symm e
        · exact h6 u (by omega) u2 u3
      · exact Or.inr (Or.inr ⟨a, b, by omega, h2, h3, h4, h5, h6, h7⟩)
theorem ft_O {n : Nat} {P : Nat → Nat} {f g : Nat → Int32} (hn : n ≤ 47) (hP : PB n P) : ∀ x, x < n → FT n P 0 (ftO P n f g).1 (ftO P n f g).2 x := by
  intro x hx
  refine ft_sp hn hP (n - 1) _ _ (by omega) ?_ x hx
  intro y hy
  exact Or.inl ⟨if_pos hy, if_pos hy, fun u u1 u2 => absurd u2 (by omega)⟩
theorem ft_two {n N : Nat} {P : Nat → Nat} {f g : Nat → Int32} {x : Nat} (h : FT n P 0 f g x) (hN : n ≤ N) : twoC f g N x := by
  rcases h with ⟨a, b, c⟩ | ⟨a, h1, h2, h3, h4, h5, h6⟩ | ⟨a, b, h1, h2, h3, h4, h5, h6, h7⟩
  · exact Or.inl b
  · exact Or.inl h5
  · exact Or.inr ⟨a, b, by omega, by omega, h6, h7⟩
/-- with a tree's kinds: none, or two -/
theorem ft_K {n : Nat} {P : Nat → Nat} {K f g : Nat → Int32} {x : Nat} (hT : TV n P K) (hx : x < n) (h : FT n P 0 f g x) : (¬ K x = -1 ∧ g x = -1 ∧ ∀ u, 0 < u → u < n → ¬ P u = x) ∨ (K x = -1 ∧ ∃ a b, (0 < a ∧ a < n ∧ P a = x) ∧ (0 < b ∧ b < n ∧ P b = x) ∧ ¬ a = b ∧ f x = nI a ∧ g x = nI b) := by
  by_cases hk : K x = -1
  · obtain ⟨a9, b9, z1, z2, z3, z4, z5⟩ := hT.2.2.2 x hx hk
    rcases h with ⟨a, b, c⟩ | ⟨a, h1, h2, h3, h4, h5, h6⟩ | ⟨a, b, h1, h2, h3, h4, h5, h6, h7⟩
    · exact absurd z4 (c a9 z1 (by omega))
    · have := h6 a9 z1 (by omega) z4
      have := h6 b9 (by omega) z3 z5
      omega
    · exact Or.inr ⟨hk, a, b, ⟨h1, by omega, h4⟩, ⟨by omega, h3, h5⟩, by omega, h6, h7⟩
  · have hno : ∀ u, 0 < u → u < n → ¬ P u = x := fun u u1 u2 u3 => hk (by rw [← u3]; exact (hT.2.1 u u1 u2).2)
    refine Or.inl ⟨hk, ?_, hno⟩
    rcases h with ⟨a, b, c⟩ | ⟨a, h1, h2, h3, h4, h5, h6⟩ | ⟨a, b, h1, h2, h3, h4, h5, h6, h7⟩
    · exact b
    · exact absurd h3 (hno a h1 h2)
    · exact absurd h4 (hno a h1 (by omega))

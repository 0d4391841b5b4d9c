/-! Laying: ways, whose costs both sides take the least of -/
def tp (n : Nat) (P : Nat → Nat) (v : Nat) : Nat := if v < n then P v else 0
theorem tp_in {n : Nat} {P : Nat → Nat} {v : Nat} (h : v < n) : tp n P v = P v := if_pos h
theorem tp_0 {n : Nat} {P : Nat → Nat} (h : PW n P) : tp n P 0 = 0 := by
  unfold tp
  split
  · exact h.2
  · rfl
theorem tp_lt {n : Nat} {P : Nat → Nat} (h : PW n P) : ∀ v, 0 < v → tp n P v < v := by
  intro v hv
  unfold tp
  split
  · rename_i hn; exact h.1 v hv hn
  · exact hv
section geo
variable {p : Nat → Nat}
theorem ge_le (hp : ∀ v, 0 < v → p v < v) (h0 : p 0 = 0) : ∀ v, p v ≤ v := fun v => by
  rcases Nat.eq_zero_or_pos v with z | z
  · rw [z, h0]; exact Nat.le_refl _
  · exact Nat.le_of_lt (hp v z)
theorem ab_le (hp : ∀ v, 0 < v → p v < v) (h0 : p 0 = 0) {a b : Nat} (h : mAb p a b) : a ≤ b := Classical.byContradiction (fun q => mAb_n (ge_le hp h0) (by omega) h)
/-- the child of m on the way to x -/
theorem ab_side (hp : ∀ v, 0 < v → p v < v) (h0 : p 0 = 0) {m : Nat} : ∀ k x, x < k → mAb p m x → ¬ x = m → p (mSd p m x) = m ∧ mAb p (mSd p m x) x ∧ mSt p m x = mSt p (mSd p m x) x + 1 ∧ 0 < mSd p m x ∧ mSd p m x ≤ x
  | 0, _, h, _, _ => absurd h (by omega)
  | k + 1, x, hx, hab, hne => by
    have hx0 := mAb_pos h0 hab hne
    have hlt := hp x hx0
    by_cases e : p x = m
    · rw [mSd_1 hp h0 hab hne e]
      refine ⟨e, mAb_r, ?_, hx0, Nat.le_refl _⟩
      rw [mSt_s hp h0 hab hne, e, mSt_0, mSt_0]
    · have hab2 := (mAb_s hne).mp hab
      obtain ⟨a, b, c, d, f⟩ := ab_side hp h0 k (p x) (by omega) hab2 e
      rw [mSd_s hp h0 hab hne e]
      have hns : ¬ x = mSd p m (p x) := by omega
      have hb : mAb p (mSd p m (p x)) x := (mAb_s hns).mpr b
      refine ⟨a, hb, ?_, d, by omega⟩
      rw [mSt_s hp h0 hab hne, c, mSt_s hp h0 hb hns]
theorem side_u (hp : ∀ v, 0 < v → p v < v) (h0 : p 0 = 0) {m s : Nat} (hs : p s = m) (hs0 : 0 < s) : ∀ k x, x < k → mAb p s x → mAb p m x ∧ ¬ x = m ∧ mSd p m x = s
  | 0, _, h, _ => absurd h (by omega)
  | k + 1, x, hx, hab => by
    have hms : m < s := by rw [← hs]; exact hp s hs0
    have hle := ab_le hp h0 hab
    have hne : ¬ x = m := by omega
    by_cases e : x = s
    · subst e
      have hab2 : mAb p m x := (mAb_s hne).mpr (by rw [hs]; exact mAb_r)
      exact ⟨hab2, hne, mSd_1 hp h0 hab2 hne hs⟩
    · have hab2 := (mAb_s e).mp hab
      have hlt := hp x (by omega)
      obtain ⟨a, b, c⟩ := side_u hp h0 hs hs0 k (p x) (by omega) hab2
      have hab3 : mAb p m x := (mAb_s hne).mpr a
      exact ⟨hab3, hne, by rw [mSd_s hp h0 hab3 hne b]; exact c⟩
end geo
/-- what a branching at m costs, the two told to x and y -/
noncomputable def wgt (p : Nat → Nat) (m x y : Nat) : Nat := cI (lzI p m x y) (10000 + mSt p m x + mSt p m y) ((mSt p m x - 1) + (mSt p m y - 1))
/-- gene node g can be told to m at cost c -/
def Ac (ng : Nat) (Pg : Nat → Nat) (Kg : Nat → Int32) (nk : Nat) (p : Nat → Nat) (Kk : Nat → Int32) : Nat → Nat → Nat → Nat → Prop
  | 0, _, _, _ => False
  | f + 1, g, m, c => (¬ Kg g = -1 ∧ Kk m = Kg g ∧ c = 0) ∨ (Kg g = -1 ∧ ∃ o t x y c1 c2, (0 < o ∧ o < ng ∧ Pg o = g) ∧ (0 < t ∧ t < ng ∧ Pg t = g) ∧ ¬ o = t ∧ (x < nk ∧ mAb p m x) ∧ (y < nk ∧ mAb p m y) ∧ Ac ng Pg Kg nk p Kk f o x c1 ∧ Ac ng Pg Kg nk p Kk f t y c2 ∧ c = c1 + c2 + wgt p m x y)
section ac
variable {ng : Nat} {Pg : Nat → Nat} {Kg : Nat → Int32} {nk : Nat} {p : Nat → Nat} {Kk : Nat → Int32}
theorem Ac_f (hP : PB ng Pg) : ∀ f f9 g m c, g < ng → ng ≤ g + f → ng ≤ g + f9 → Ac ng Pg Kg nk p Kk f g m c → Ac ng Pg Kg nk p Kk f9 g m c
  | 0, _, _, _, _, h1, h2, _, _ => absurd h2 (by omega)
  | _ + 1, 0, _, _, _, h1, _, h3, _ => absurd h3 (by omega)
  | f + 1, f9 + 1, g, m, c, hg, h2, h3, h => by
    rcases h with h | ⟨hk, o, t, x, y, c1, c2, ho, ht, hne, hx, hy, a1, a2, e⟩
    · exact Or.inl h
    · have q1 := hP o ho.1 ho.2.1
      have q2 := hP t ht.1 ht.2.1
      rw [ho.2.2] at q1
      rw [ht.2.2] at q2
      exact Or.inr ⟨hk, o, t, x, y, c1, c2, ho, ht, hne, hx, hy, Ac_f hP f f9 o x c1 ho.2.1 (by omega) (by omega) a1, Ac_f hP f f9 t y c2 ht.2.1 (by omega) (by omega) a2, e⟩
abbrev AA (ng : Nat) (Pg : Nat → Nat) (Kg : Nat → Int32) (nk : Nat) (p : Nat → Nat) (Kk : Nat → Int32) : Nat → Nat → Nat → Prop := Ac ng Pg Kg nk p Kk ng
theorem AA_leaf (hP : PB ng Pg) {g m c : Nat} (hg : g < ng) (hk : ¬ Kg g = -1) : AA ng Pg Kg nk p Kk g m c ↔ Kk m = Kg g ∧ c = 0 := by
  obtain ⟨f, e⟩ : ∃ f, ng = f + 1 := ⟨ng - 1, by omega⟩
  show Ac ng Pg Kg nk p Kk ng g m c ↔ _
  constructor
  · intro h
    have h := Ac_f hP ng (f + 1) g m c hg (by omega) (by omega) h
    rcases h with h | h
    · exact h.2
    · exact absurd h.1 hk
  · intro h
    exact Ac_f hP (f + 1) ng g m c hg (by omega) (by omega) (Or.inl ⟨hk, h⟩)
theorem AA_inner (hP : PB ng Pg) {g m c : Nat} (hg : g < ng) (hk : Kg g = -1) : AA ng Pg Kg nk p Kk g m c ↔ ∃ o t x y c1 c2, (0 < o ∧ o < ng ∧ Pg o = g) ∧ (0 < t ∧ t < ng ∧ Pg t = g) ∧ ¬ o = t ∧ (x < nk ∧ mAb p m x) ∧ (y < nk ∧ mAb p m y) ∧ AA ng Pg Kg nk p Kk o x c1 ∧ AA ng Pg Kg nk p Kk t y c2 ∧ c = c1 + c2 + wgt p m x y := by
  constructor
  · intro h
    have h := Ac_f hP ng (ng + 1) g m c hg (by omega) (by omega) h
    rcases h with h | h
    · exact absurd hk h.1
    · exact h.2
  · intro h
    exact Ac_f hP (ng + 1) ng g m c hg (by omega) (by omega) (Or.inr ⟨hk, h⟩)
theorem mSt_le2 {a b : Nat} : mSt p a b ≤ b + 1 := mSt_le (b + 1) b
theorem wgt_le {m x y : Nat} (hx : x < nk) (hy : y < nk) (hn : nk ≤ 23) : wgt p m x y ≤ 10046 := by
  have h1 := mSt_le2 (p := p) (a := m) (b := x)
  have h2 := mSt_le2 (p := p) (a := m) (b := y)
  unfold wgt
  by_cases e : lzI p m x y
  · rw [cI_t e]; omega
  · rw [cI_f e]; omega
/-- a way costs no more than so -/
theorem AA_le (hP : PB ng Pg) (h0 : 0 < ng) (hn : nk ≤ 23) : ∀ g, g < ng → ∀ m c, AA ng Pg Kg nk p Kk g m c → c ≤ 10100 * wS ng Pg (fun _ => 1) g := by
  refine down ?_
  intro g hg ih m c h
  have hw := wS_eq (w := fun _ => 1) hP h0 g
  by_cases hk : Kg g = -1
  · obtain ⟨o, t, x, y, c1, c2, ho, ht, hne, hx, hy, a1, a2, e⟩ := (AA_inner hP hg hk).mp h
    have q1 := hP o ho.1 ho.2.1
    have q2 := hP t ht.1 ht.2.1
    rw [ho.2.2] at q1
    rw [ht.2.2] at q2
    have i1 := ih o q1 ho.2.1 x c1 a1
    have i2 := ih t q2 ht.2.1 y c2 a2
    have hwg := wgt_le (p := p) (m := m) hx.1 hy.1 hn
    have hsum : wS ng Pg (fun _ => 1) o + wS ng Pg (fun _ => 1) t ≤ sumU (fun u => if 0 < u ∧ Pg u = g then wS ng Pg (fun _ => 1) u else 0) ng := by
      have go : (if 0 < o ∧ Pg o = g then wS ng Pg (fun _ => 1) o else 0) = wS ng Pg (fun _ => 1) o := if_pos ⟨ho.1, ho.2.2⟩
      have gt : (if 0 < t ∧ Pg t = g then wS ng Pg (fun _ => 1) t else 0) = wS ng Pg (fun _ => 1) t := if_pos ⟨ht.1, ht.2.2⟩
      rcases Nat.lt_or_ge o t with z | z
      · have := two_le (f := fun u => if 0 < u ∧ Pg u = g then wS ng Pg (fun _ => 1) u else 0) ng z ht.2.1
        simp only [go, gt] at this
        exact this
      · have := two_le (f := fun u => if 0 < u ∧ Pg u = g then wS ng Pg (fun _ => 1) u else 0) ng (show t < o by omega) ho.2.1
        simp only [go, gt] at this
        omega
    omega
  · have := (AA_leaf hP hg hk).mp h
    omega
/-- there is a way -/
theorem AA_ex (hT : TV ng Pg Kg) (hp : ∀ v, 0 < v → p v < v) (hp0 : p 0 = 0) (hroot : ∀ v, v < nk → mAb p 0 v) (h0 : 0 < nk) (hK : ∀ g, g < ng → ¬ Kg g = -1 → ∃ m, m < nk ∧ Kk m = Kg g) : ∀ g, g < ng → ∃ m c, m < nk ∧ AA ng Pg Kg nk p Kk g m c := by
  have hP : PB ng Pg := fun v h0 hv => (hT.2.1 v h0 hv).1
  refine down ?_
  intro g hg ih
  by_cases hk : Kg g = -1
  · obtain ⟨a, b, ha0, hab, hb, ea, eb⟩ := hT.2.2.2 g hg hk
    have q1 := hP a ha0 (by omega)
    have q2 := hP b (by omega) hb
    obtain ⟨x, c1, hx, h1⟩ := ih a (by omega) (by omega)
    obtain ⟨y, c2, hy, h2⟩ := ih b (by omega) hb
    exact ⟨0, _, h0, (AA_inner hP hg hk).mpr ⟨a, b, x, y, c1, c2, ⟨ha0, by omega, ea⟩, ⟨by omega, hb, eb⟩, by omega, ⟨hx, hroot x hx⟩, ⟨hy, hroot y hy⟩, h1, h2, rfl⟩⟩
  · obtain ⟨m, hm, e⟩ := hK g hg hk
    exact ⟨m, 0, hm, (AA_leaf hP hg hk).mpr ⟨e, rfl⟩⟩
end ac
/-! two pairs of trees alike: the same ways -/
section isoA
variable {n : Nat} {P P9 : Nat → Nat} {K K9 : Nat → Int32} {π ρ : Nat → Nat}
theorem iso_tp (h : Iso n P K P9 K9 π ρ) (hW : PW n P) (hW9 : PW n P9) {v : Nat} (hv : v < n) : π (tp n P v) = tp n P9 (π v) := by
  rw [tp_in hv, tp_in (h.1 v hv).1]
  rcases Nat.eq_zero_or_pos v with z | z
  · rw [z, hW.2, h.2.1, hW9.2]
  · exact h.2.2.2 v z hv
theorem tp_n {n : Nat} {P : Nat → Nat} (hW : PW n P) {v : Nat} (hv : v < n) : tp n P v < n := by
  rw [tp_in hv]
  exact Nat.lt_of_le_of_lt (hW.le hv) hv
theorem iso_itp (h : Iso n P K P9 K9 π ρ) (hW : PW n P) (hW9 : PW n P9) : ∀ t v, v < n → π (itp (tp n P) t v) = itp (tp n P9) t (π v) ∧ itp (tp n P) t v < n
  | 0, v, hv => ⟨rfl, hv⟩
  | t + 1, v, hv => by
    have ih := iso_itp h hW hW9 t (tp n P v) (tp_n hW hv)
    rw [iso_tp h hW hW9 hv] at ih
    exact ih
theorem iso_ab (h : Iso n P K P9 K9 π ρ) (hW : PW n P) (hW9 : PW n P9) {a b : Nat} (ha : a < n) (hb : b < n) : mAb (tp n P) a b ↔ mAb (tp n P9) (π a) (π b) := by
  constructor
  · rintro ⟨t, e⟩
    exact ⟨t, by rw [← (iso_itp h hW hW9 t b hb).1, e]⟩
  · rintro ⟨t, e⟩
    have := iso_itp h hW hW9 t b hb
    rw [← this.1] at e
    exact ⟨t, h.1.inj this.2 ha e⟩
theorem iso_st (h : Iso n P K P9 K9 π ρ) (hW : PW n P) (hW9 : PW n P9) {a : Nat} (ha : a < n) : ∀ k b, b < k → b < n → mAb (tp n P) a b → mSt (tp n P) a b = mSt (tp n P9) (π a) (π b)
  | 0, _, hb, _, _ => absurd hb (by omega)
  | k + 1, b, hk, hb, hab => by
    by_cases e : b = a
    · rw [e, mSt_0, mSt_0]
    · have hb0 := mAb_pos (tp_0 hW) hab e
      have hlt := tp_lt hW b hb0
      have hne : ¬ π b = π a := fun z => e (h.1.inj hb ha z)
      rw [mSt_s (tp_lt hW) (tp_0 hW) hab e, mSt_s (tp_lt hW9) (tp_0 hW9) ((iso_ab h hW hW9 ha hb).mp hab) hne, ← iso_tp h hW hW9 hb, iso_st h hW hW9 ha k (tp n P b) (by omega) (tp_n hW hb) ((mAb_s e).mp hab)]
theorem iso_sd (h : Iso n P K P9 K9 π ρ) (hW : PW n P) (hW9 : PW n P9) {a b : Nat} (ha : a < n) (hb : b < n) (hab : mAb (tp n P) a b) : π (mSd (tp n P) a b) = mSd (tp n P9) (π a) (π b) ∧ mSd (tp n P) a b < n := by
  unfold mSd
  rw [← iso_st h hW hW9 ha (b + 1) b (by omega) hb hab]
  exact iso_itp h hW hW9 _ b hb
theorem iso_wgt (h : Iso n P K P9 K9 π ρ) (hW : PW n P) (hW9 : PW n P9) {m x y : Nat} (hm : m < n) (hx : x < n) (hy : y < n) (h1 : mAb (tp n P) m x) (h2 : mAb (tp n P) m y) : wgt (tp n P) m x y = wgt (tp n P9) (π m) (π x) (π y) := by
  have i1 := iso_sd h hW hW9 hm hx h1
  have i2 := iso_sd h hW hW9 hm hy h2
  have e : lzI (tp n P) m x y ↔ lzI (tp n P9) (π m) (π x) (π y) := by
    show (x = m ∨ y = m ∨ mSd (tp n P) m x = mSd (tp n P) m y) ↔ (π x = π m ∨ π y = π m ∨ mSd (tp n P9) (π m) (π x) = mSd (tp n P9) (π m) (π y))
    rw [← i1.1, ← i2.1]
    constructor
    · rintro (z | z | z)
      · exact Or.inl (by rw [z])
      · exact Or.inr (Or.inl (by rw [z]))
      · exact Or.inr (Or.inr (by rw [z]))
    · rintro (z | z | z)
      · exact Or.inl (h.1.inj hx hm z)
      · exact Or.inr (Or.inl (h.1.inj hy hm z))
      · exact Or.inr (Or.inr (h.1.inj i1.2 i2.2 z))
  unfold wgt
  rw [iso_st h hW hW9 hm (x + 1) x (by omega) hx h1, iso_st h hW hW9 hm (y + 1) y (by omega) hy h2]
  exact cI_c e rfl rfl
end isoA
theorem iso_AA {ng nk : Nat} {Pg Pg9 Pk Pk9 : Nat → Nat} {Kg Kg9 Kk Kk9 : Nat → Int32} {πg ρg πk ρk : Nat → Nat} (hg : Iso ng Pg Kg Pg9 Kg9 πg ρg) (hPg : PB ng Pg) (hPg9 : PB ng Pg9) (hk : Iso nk Pk Kk Pk9 Kk9 πk ρk) (hW : PW nk Pk) (hW9 : PW nk Pk9) : ∀ g, g < ng → ∀ m, m < nk → ∀ c, AA ng Pg Kg nk (tp nk Pk) Kk g m c ↔ AA ng Pg9 Kg9 nk (tp nk Pk9) Kk9 (πg g) (πk m) c := by
  refine down ?_
  intro g hgl ih m hm c
  have eK := hg.2.2.1 g hgl
  by_cases hkk : Kg g = -1
  · rw [AA_inner hPg hgl hkk, AA_inner hPg9 (hg.1 g hgl).1 (by rw [← eK]; exact hkk)]
    constructor
    · rintro ⟨o, t, x, y, c1, c2, ho, ht, hne, hx, hy, a1, a2, e⟩
      have q1 := hPg o ho.1 ho.2.1
      have q2 := hPg t ht.1 ht.2.1
      rw [ho.2.2] at q1
      rw [ht.2.2] at q2
      refine ⟨πg o, πg t, πk x, πk y, c1, c2, ⟨iso_pos hg ho.1 ho.2.1, (hg.1 o ho.2.1).1, (iso_ch hg hPg ho.1 ho.2.1 hgl).mp ho.2.2⟩, ⟨iso_pos hg ht.1 ht.2.1, (hg.1 t ht.2.1).1, (iso_ch hg hPg ht.1 ht.2.1 hgl).mp ht.2.2⟩, fun z => hne (hg.1.inj ho.2.1 ht.2.1 z), ⟨(hk.1 x hx.1).1, (iso_ab hk hW hW9 hm hx.1).mp hx.2⟩, ⟨(hk.1 y hy.1).1, (iso_ab hk hW hW9 hm hy.1).mp hy.2⟩, (ih o q1 ho.2.1 x hx.1 c1).mp a1, (ih t q2 ht.2.1 y hy.1 c2).mp a2, ?_⟩
      rw [e, iso_wgt hk hW hW9 hm hx.1 hy.1 hx.2 hy.2]
    · rintro ⟨o, t, x, y, c1, c2, ho, ht, hne, hx, hy, a1, a2, e⟩
      have back : ∀ o, (0 < o ∧ o < ng ∧ Pg9 o = πg g) → 0 < ρg o ∧ ρg o < ng ∧ Pg (ρg o) = g ∧ πg (ρg o) = o := fun o ho => by
        have e2 := (hg.1 o ho.2.1).2.2.2
        have hr := (hg.1 o ho.2.1).2.1
        have hr0 : 0 < ρg o := by
          rcases Nat.eq_zero_or_pos (ρg o) with z | z
          · rw [z, hg.2.1] at e2; omega
          · exact z
        exact ⟨hr0, hr, (iso_ch hg hPg hr0 hr hgl).mpr (by rw [e2]; exact ho.2.2), e2⟩
      obtain ⟨o1, o2, o3, o4⟩ := back o ho
      obtain ⟨t1, t2, t3, t4⟩ := back t ht
      have ex := (hk.1 x hx.1).2.2.2
      have hxn := (hk.1 x hx.1).2.1
      have ey := (hk.1 y hy.1).2.2.2
      have hyn := (hk.1 y hy.1).2.1
      have q1 := hPg _ o1 o2
      have q2 := hPg _ t1 t2
      rw [o3] at q1
      rw [t3] at q2
      have bx : mAb (tp nk Pk) m (ρk x) := (iso_ab hk hW hW9 hm hxn).mpr (by rw [ex]; exact hx.2)
      have by' : mAb (tp nk Pk) m (ρk y) := (iso_ab hk hW hW9 hm hyn).mpr (by rw [ey]; exact hy.2)
      refine ⟨ρg o, ρg t, ρk x, ρk y, c1, c2, ⟨o1, o2, o3⟩, ⟨t1, t2, t3⟩, fun z => hne (by rw [← o4, ← t4, z]), ⟨hxn, bx⟩, ⟨hyn, by'⟩, (ih _ q1 o2 _ hxn c1).mpr (by rw [o4, ex]; exact a1), (ih _ q2 t2 _ hyn c2).mpr (by rw [t4, ey]; exact a2), ?_⟩
      rw [e, iso_wgt hk hW hW9 hm hxn hyn bx by', ex, ey]
  · rw [AA_leaf hPg hgl hkk, AA_leaf hPg9 (hg.1 g hgl).1 (by rw [← eK]; exact hkk), eK, hk.2.2.1 m hm]

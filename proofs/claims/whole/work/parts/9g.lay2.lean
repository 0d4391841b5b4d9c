/-! Laying: the reference's rows are the least ways -/
/-- s is the least of C, or none -/
def Cd (B : Nat) (C : Nat → Prop) (s : LzP) : Prop := (s = (lzN, nI 0) ∧ ∀ c, ¬ C c) ∨ ∃ d l, s = (nI d, nI l) ∧ d ≤ B ∧ l ≤ 100 * B ∧ C (10000 * d + l) ∧ ∀ c, C c → 10000 * d + l ≤ c
theorem sum_one : ∀ n, sumU (fun _ => 1) n = n
  | 0 => rfl
  | n + 1 => by
    show sumU (fun _ => 1) n + 1 = n + 1
    rw [sum_one n]
theorem lzN_e : lzN = nI 1000000 := by decide +kernel
theorem Cd_c {B : Nat} {C C9 : Nat → Prop} {s : LzP} (e : ∀ c, C c ↔ C9 c) (h : Cd B C s) : Cd B C9 s := by
  rcases h with ⟨a, b⟩ | ⟨d, l, a, b, c, f, g⟩
  · exact Or.inl ⟨a, fun c q => b c ((e c).mpr q)⟩
  · exact Or.inr ⟨d, l, a, b, c, (e _).mp f, fun c q => g c ((e c).mpr q)⟩
theorem Cd_no {B : Nat} {C C9 : Nat → Prop} {s : LzP} (e : ∀ c, ¬ C9 c) (h : Cd B C s) : Cd B (fun c => C c ∨ C9 c) s :=
  Cd_c (fun c => ⟨fun q => Or.inl q, fun q => q.elim id (fun z => absurd z (e c))⟩) h
theorem lzM_y {d e : Int32} {s : LzP} (h : d < s.1 ∨ (d = s.1 ∧ e < s.2)) : lzM d e s = (d, e) := cI_t h
theorem lzM_n {d e : Int32} {s : LzP} (h : ¬ (d < s.1 ∨ (d = s.1 ∧ e < s.2))) : lzM d e s = s := cI_f h
theorem Cd_or {B : Nat} (hB : B ≤ 47) {C C9 : Nat → Prop} {s : LzP} {d9 l9 : Nat} (h : Cd B C s) (h1 : d9 ≤ B) (h2 : l9 ≤ 100 * B) (h3 : C9 (10000 * d9 + l9)) (h4 : ∀ c, C9 c → 10000 * d9 + l9 ≤ c) : Cd B (fun c => C c ∨ C9 c) (lzM (nI d9) (nI l9) s) := by
  rcases h with ⟨a, b⟩ | ⟨d, l, a, b, c, f, g⟩
  · have hc : nI d9 < s.1 := by
      rw [a, lzN_e]
      exact nI_lt (by omega) (by decide)
    rw [lzM_y (Or.inl hc)]
    exact Or.inr ⟨d9, l9, rfl, h1, h2, Or.inr h3, fun c q => q.elim (fun z => absurd z (b c)) (h4 c)⟩
  · have hc : (nI d9 < s.1 ∨ (nI d9 = s.1 ∧ nI l9 < s.2)) ↔ (d9 < d ∨ (d9 = d ∧ l9 < l)) := by
      rw [a]
      show (nI d9 < nI d ∨ (nI d9 = nI d ∧ nI l9 < nI l)) ↔ _
      rw [nI_ltI (by omega) (by omega), nI_eq (by omega) (by omega), nI_ltI (by omega) (by omega)]
    by_cases z : d9 < d ∨ (d9 = d ∧ l9 < l)
    · rw [lzM_y (hc.mpr z)]
      refine Or.inr ⟨d9, l9, rfl, h1, h2, Or.inr h3, fun c q => ?_⟩
      rcases q with q | q
      · have := g c q
        omega
      · exact h4 c q
    · rw [lzM_n (fun w => z (hc.mp w))]
      refine Or.inr ⟨d, l, a, b, c, Or.inl f, fun c q => ?_⟩
      rcases q with q | q
      · exact g c q
      · have := h4 c q
        omega
/-- the ways of two gene nodes told to x and y below m -/
def Cp (ng : Nat) (Pg : Nat → Nat) (Kg : Nat → Int32) (nk : Nat) (p : Nat → Nat) (Kk : Nat → Int32) (o t m x y c : Nat) : Prop := mAb p m x ∧ mAb p m y ∧ ∃ c1 c2, AA ng Pg Kg nk p Kk o x c1 ∧ AA ng Pg Kg nk p Kk t y c2 ∧ c = c1 + c2 + wgt p m x y
theorem st_pos {p : Nat → Nat} (hp : ∀ v, 0 < v → p v < v) (h0 : p 0 = 0) {m x : Nat} (h : mAb p m x) (e : ¬ x = m) : 0 < mSt p m x := by rw [mSt_s hp h0 h e]; omega
section lzr
variable {ng : Nat} {Pg : Nat → Nat} {Kg : Nat → Int32} {nk : Nat} {p : Nat → Nat} {Kk : Nat → Int32} {D L : Nat → Int32}
theorem Cd_S (hp : ∀ v, 0 < v → p v < v) (h0 : p 0 = 0) (hnk : nk ≤ 23) {o t m : Nat} {Bo Bt B : Nat} (hB : B ≤ 47) (hBB : Bo + Bt + 1 ≤ B) (ho : ∀ x, x < nk → Cd Bo (AA ng Pg Kg nk p Kk o x) (D (47 * o + x), L (47 * o + x))) (ht : ∀ y, y < nk → Cd Bt (AA ng Pg Kg nk p Kk t y) (D (47 * t + y), L (47 * t + y))) {C : Nat → Prop} {s : LzP} {x y : Nat} (hx : x < nk) (hy : y < nk) (h : Cd B C s) : Cd B (fun c => C c ∨ Cp ng Pg Kg nk p Kk o t m x y c) (lzS D L p o t m x y s) := by
  unfold lzS
  by_cases hxy : mAb p m x ∧ mAb p m y
  · rcases ho x hx with ⟨a, b⟩ | ⟨d, l, a, b, c, f, g⟩
    · rw [cI_f (fun q => by have z := q.1.1; rw [(Prod.mk.inj a).1] at z; exact absurd z (by decide +kernel))]
      exact Cd_no (fun c ⟨_, _, c1, c2, q, _⟩ => b c1 q) h
    · rcases ht y hy with ⟨a9, b9⟩ | ⟨d9, l9, a9, b9, c9, f9, g9⟩
      · rw [cI_f (fun q => by have z := q.2.1; rw [(Prod.mk.inj a9).1] at z; exact absurd z (by decide +kernel))]
        exact Cd_no (fun c ⟨_, _, c1, c2, _, q, _⟩ => b9 c2 q) h
      · have e1 := (Prod.mk.inj a).1
        have e2 := (Prod.mk.inj a).2
        have e3 := (Prod.mk.inj a9).1
        have e4 := (Prod.mk.inj a9).2
        rw [cI_t ⟨⟨by rw [e1, lzN_e]; exact nI_lt (by omega) (by decide), hxy.1⟩, by rw [e3, lzN_e]; exact nI_lt (by omega) (by decide), hxy.2⟩]
        have s1 := mSt_le2 (p := p) (a := m) (b := x)
        have s2 := mSt_le2 (p := p) (a := m) (b := y)
        unfold lzD lzL
        rw [e1, e2, e3, e4]
        by_cases e : lzI p m x y
        · have hd : nI d + nI d9 + cI (lzI p m x y) (nI 1) (nI 0) = nI (d + d9 + 1) := by rw [cI_t e, nI_add, nI_add]
          have hl : nI l + nI l9 + nI (mSt p m x - 1) + nI (mSt p m y - 1) + cI (lzI p m x y ∧ ¬ x = m) (nI 1) (nI 0) + cI (lzI p m x y ∧ ¬ y = m) (nI 1) (nI 0) = nI (l + l9 + mSt p m x + mSt p m y) := by
            by_cases z1 : x = m
            · have q1 : mSt p m x = 0 := by rw [z1, mSt_0]
              rw [cI_f (fun q => q.2 z1)]
              by_cases z2 : y = m
              · have q2 : mSt p m y = 0 := by rw [z2, mSt_0]
                rw [cI_f (fun q => q.2 z2)]
                simp only [nI_add, q1, q2]
              · have q2 := st_pos hp h0 hxy.2 z2
                rw [cI_t ⟨e, z2⟩]
                simp only [nI_add, q1]
                exact congrArg nI (by omega)
            · have q1 := st_pos hp h0 hxy.1 z1
              rw [cI_t ⟨e, z1⟩]
              by_cases z2 : y = m
              · have q2 : mSt p m y = 0 := by rw [z2, mSt_0]
                rw [cI_f (fun q => q.2 z2)]
                simp only [nI_add, q2]
                exact congrArg nI (by omega)
              · have q2 := st_pos hp h0 hxy.2 z2
                rw [cI_t ⟨e, z2⟩]
                simp only [nI_add]
                exact congrArg nI (by omega)
          have hw : wgt p m x y = 10000 + mSt p m x + mSt p m y := cI_t e
          rw [hd, hl]
          refine Cd_or hB h (by omega) (by omega) ⟨hxy.1, hxy.2, _, _, f, f9, by omega⟩ ?_
          rintro c ⟨_, _, c1, c2, a1, a2, rfl⟩
          have := g c1 a1
          have := g9 c2 a2
          omega
        · have hd : nI d + nI d9 + cI (lzI p m x y) (nI 1) (nI 0) = nI (d + d9) := by rw [cI_f e, nI_add, nI_add]; rfl
          have hl : nI l + nI l9 + nI (mSt p m x - 1) + nI (mSt p m y - 1) + cI (lzI p m x y ∧ ¬ x = m) (nI 1) (nI 0) + cI (lzI p m x y ∧ ¬ y = m) (nI 1) (nI 0) = nI (l + l9 + (mSt p m x - 1) + (mSt p m y - 1)) := by
            rw [cI_f (fun q => e q.1), cI_f (fun q => e q.1)]
            simp only [nI_add]
            exact congrArg nI (by omega)
          have hw : wgt p m x y = (mSt p m x - 1) + (mSt p m y - 1) := cI_f e
          rw [hd, hl]
          refine Cd_or hB h (by omega) (by omega) ⟨hxy.1, hxy.2, _, _, f, f9, by omega⟩ ?_
          rintro c ⟨_, _, c1, c2, a1, a2, rfl⟩
          have := g c1 a1
          have := g9 c2 a2
          omega
  · rw [cI_f (fun q => hxy ⟨q.1.2, q.2.2⟩)]
    exact Cd_no (fun c q => hxy ⟨q.1, q.2.1⟩) h
theorem Cd_1 (hp : ∀ v, 0 < v → p v < v) (h0 : p 0 = 0) (hnk : nk ≤ 23) {o t m : Nat} {Bo Bt B : Nat} (hB : B ≤ 47) (hBB : Bo + Bt + 1 ≤ B) (ho : ∀ x, x < nk → Cd Bo (AA ng Pg Kg nk p Kk o x) (D (47 * o + x), L (47 * o + x))) (ht : ∀ y, y < nk → Cd Bt (AA ng Pg Kg nk p Kk t y) (D (47 * t + y), L (47 * t + y))) {C : Nat → Prop} {s : LzP} {x : Nat} (hx : x < nk) (h : Cd B C s) : ∀ u, m + u ≤ nk → Cd B (fun c => C c ∨ ∃ y, m ≤ y ∧ y < m + u ∧ Cp ng Pg Kg nk p Kk o t m x y c) (lz1 D L p o t m x s u)
  | 0, _ => Cd_no (fun c ⟨y, a, b, _⟩ => by omega) h
  | u + 1, hu => by
    refine Cd_c ?_ (Cd_S hp h0 hnk hB hBB ho ht (m := m) hx (show m + u < nk by omega) (Cd_1 hp h0 hnk hB hBB ho ht hx h u (by omega)))
    intro c
    constructor
    · rintro ((q | ⟨y, a, b, q⟩) | q)
      · exact Or.inl q
      · exact Or.inr ⟨y, a, by omega, q⟩
      · exact Or.inr ⟨m + u, by omega, by omega, q⟩
    · rintro (q | ⟨y, a, b, q⟩)
      · exact Or.inl (Or.inl q)
      · by_cases e : y = m + u
        · subst e; exact Or.inr q
        · exact Or.inl (Or.inr ⟨y, a, by omega, q⟩)
theorem Cd_2 (hp : ∀ v, 0 < v → p v < v) (h0 : p 0 = 0) (hnk : nk ≤ 23) {o t m : Nat} {Bo Bt B : Nat} (hB : B ≤ 47) (hBB : Bo + Bt + 1 ≤ B) (ho : ∀ x, x < nk → Cd Bo (AA ng Pg Kg nk p Kk o x) (D (47 * o + x), L (47 * o + x))) (ht : ∀ y, y < nk → Cd Bt (AA ng Pg Kg nk p Kk t y) (D (47 * t + y), L (47 * t + y))) (hm : m < nk) : ∀ v, m + v ≤ nk → Cd B (fun c => ∃ x, m ≤ x ∧ x < m + v ∧ ∃ y, m ≤ y ∧ y < nk ∧ Cp ng Pg Kg nk p Kk o t m x y c) (lz2 D L p o t m nk (lzN, nI 0) v)
  | 0, _ => Or.inl ⟨rfl, fun c ⟨x, a, b, _⟩ => by omega⟩
  | v + 1, hv => by
    refine Cd_c ?_ (Cd_1 hp h0 hnk hB hBB ho ht (m := m) (show m + v < nk by omega) (Cd_2 hp h0 hnk hB hBB ho ht hm v (by omega)) (nk - m) (by omega))
    intro c
    constructor
    · rintro (⟨x, a, b, q⟩ | ⟨y, a, b, q⟩)
      · exact ⟨x, a, by omega, q⟩
      · exact ⟨m + v, by omega, by omega, y, a, by omega, q⟩
    · rintro ⟨x, a, b, q⟩
      by_cases e : x = m + v
      · subst e
        obtain ⟨y, c1, c2, q⟩ := q
        exact Or.inr ⟨y, c1, by omega, q⟩
      · exact Or.inl ⟨x, a, by omega, q⟩
end lzr
theorem wgt_cm {p : Nat → Nat} {m x y : Nat} : wgt p m x y = wgt p m y x := by
  unfold wgt
  refine cI_c ⟨?_, ?_⟩ (by omega) (by omega)
  · rintro (z | z | z)
    · exact Or.inr (Or.inl z)
    · exact Or.inl z
    · exact Or.inr (Or.inr z.symm)
  · rintro (z | z | z)
    · exact Or.inr (Or.inl z)
    · exact Or.inl z
    · exact Or.inr (Or.inr z.symm)
/-- no third child -/
theorem ch_two {n : Nat} {P : Nat → Nat} {v o t u : Nat} (hb : nCh n P v ≤ 2) (ho : 0 < o ∧ o < n ∧ P o = v) (ht : 0 < t ∧ t < n ∧ P t = v) (hu : 0 < u ∧ u < n ∧ P u = v) (hot : ¬ o = t) : u = o ∨ u = t := by
  refine Classical.byContradiction (fun z => ?_)
  have h1 : 2 ≤ cntU (fun w => (0 < w ∧ P w = v) ∧ ¬ w = u) n := by
    rcases Nat.lt_or_ge o t with q | q
    · exact cnt_two n q ht.2.1 ⟨⟨ho.1, ho.2.2⟩, by omega⟩ ⟨⟨ht.1, ht.2.2⟩, by omega⟩
    · exact cnt_two n (show t < o by omega) ho.2.1 ⟨⟨ht.1, ht.2.2⟩, by omega⟩ ⟨⟨ho.1, ho.2.2⟩, by omega⟩
  have h2 := cnt_lt (p := fun w => (0 < w ∧ P w = v) ∧ ¬ w = u) (q := fun w => 0 < w ∧ P w = v) (v := u) n (fun w _ q => q.1) hu.2.1 ⟨hu.1, hu.2.2⟩ (fun q => q.2 rfl)
  have h3 : cntU (fun w => 0 < w ∧ P w = v) n ≤ 2 := hb
  omega
/-- the ways of an inner node whose two children are known -/
theorem AA_two {ng : Nat} {Pg : Nat → Nat} {Kg : Nat → Int32} {nk : Nat} {p : Nat → Nat} {Kk : Nat → Int32} (hP : PB ng Pg) {g m c o t : Nat} (hg : g < ng) (hk : Kg g = -1) (hb : nCh ng Pg g ≤ 2) (ho : 0 < o ∧ o < ng ∧ Pg o = g) (ht : 0 < t ∧ t < ng ∧ Pg t = g) (hot : ¬ o = t) : AA ng Pg Kg nk p Kk g m c ↔ ∃ x y, x < nk ∧ y < nk ∧ Cp ng Pg Kg nk p Kk o t m x y c := by
  rw [AA_inner hP hg hk]
  constructor
  · rintro ⟨a, b, x, y, c1, c2, ha, hb9, hne, hx, hy, a1, a2, e⟩
    rcases ch_two hb ho ht ha hot with z | z
    · subst z
      rcases ch_two hb ho ht hb9 hot with z | z
      · exact absurd z.symm hne
      · subst z; exact ⟨x, y, hx.1, hy.1, hx.2, hy.2, c1, c2, a1, a2, e⟩
    · subst z
      rcases ch_two hb ho ht hb9 hot with z | z
      · subst z; exact ⟨y, x, hy.1, hx.1, hy.2, hx.2, c2, c1, a2, a1, by rw [e, wgt_cm]; omega⟩
      · exact absurd z.symm hne
  · rintro ⟨x, y, hx, hy, h1, h2, c1, c2, a1, a2, e⟩
    exact ⟨o, t, x, y, c1, c2, ho, ht, hot, ⟨hx, h1⟩, ⟨hy, h2⟩, a1, a2, e⟩
theorem nx_ch {τ : St} {i g b o : Nat} (hm : mtOk τ i) (hg : g < mN τ i) (ho : o < mN τ i) (h : nxC τ i g b (nI o)) : b < o ∧ (0 < o → mp τ i o = g) := by
  have h47 := hm.2.1
  rcases h with ⟨k, h1, h2, h3, _, h5⟩ | ⟨h1, _⟩
  · have e := (nI_eq (by omega) (by omega)).mp h5
    subst e
    refine ⟨h1, fun h0 => ?_⟩
    have hq := hm.2.2.1 o h0 h2
    rw [hq.1] at h3
    exact (nI_eq (by omega) (by omega)).mp h3
  · exact absurd h1 (nI_m1 (by omega))
/-- the reference's rows -/
theorem lz_row {τ : St} {i k : Nat} {D L : Nat → Int32} (hm : mtOk τ i) (hm9 : mtOk τ k) (hT : TV (mN τ i) (mp τ i) (mK τ i)) (hb : ∀ v, v < mN τ i → nCh (mN τ i) (mp τ i) v ≤ 2) (hk : mN τ k ≤ 23) (hE : ∀ x, x < mN τ i → ∀ m9, m9 < mN τ k → lzE τ i k D L x m9) : ∀ g, g < mN τ i → ∀ m, m < mN τ k → Cd (wS (mN τ i) (mp τ i) (fun _ => 1) g) (AA (mN τ i) (mp τ i) (mK τ i) (mN τ k) (mq τ k) (mK τ k) g m) (D (47 * g + m), L (47 * g + m)) := by
  have hP : PB (mN τ i) (mp τ i) := fun v h0 hv => (hT.2.1 v h0 hv).1
  have h0 := hT.1
  have h47 := hm.2.1
  refine down ?_
  intro g hg ih m hmm
  have hw := wS_eq (w := fun _ => 1) hP h0 g
  have hwl := wS_le (w := fun _ => 1) hP h0 g hg
  have hw47 : sumU (fun _ => 1) (mN τ i) = mN τ i := sum_one _
  rcases hE g hg m hmm with ⟨a, b, d⟩ | ⟨a, o, t, q1, q2, q3, q4, q5, q6, q7⟩
  · have hk : ¬ mK τ i g = -1 := fun z => a ((neg_m1 (hT.2.2.1 g hg)).mpr z)
    rw [b, d]
    by_cases e : mK τ k m = mK τ i g
    · rw [if_pos e]
      exact Or.inr ⟨0, 0, rfl, by omega, by omega, (AA_leaf hP hg hk).mpr ⟨e, rfl⟩, fun c q => by omega⟩
    · rw [if_neg e]
      exact Or.inl ⟨rfl, fun c q => e ((AA_leaf hP hg hk).mp q).1⟩
  · have hk9 : mK τ i g = -1 := (neg_m1 (hT.2.2.1 g hg)).mp a
    obtain ⟨_, o2⟩ := nx_ch hm hg q2 q5
    obtain ⟨t1, t2⟩ := nx_ch hm hg q4 q6
    have ho : 0 < o ∧ o < mN τ i ∧ mp τ i o = g := ⟨by omega, q2, o2 (by omega)⟩
    have ht : 0 < t ∧ t < mN τ i ∧ mp τ i t = g := ⟨by omega, q4, t2 (by omega)⟩
    have hsum : wS (mN τ i) (mp τ i) (fun _ => 1) o + wS (mN τ i) (mp τ i) (fun _ => 1) t ≤ sumU (fun u => if 0 < u ∧ mp τ i u = g then wS (mN τ i) (mp τ i) (fun _ => 1) u else 0) (mN τ i) := by
      have e1 : (if 0 < o ∧ mp τ i o = g then wS (mN τ i) (mp τ i) (fun _ => 1) o else 0) = wS (mN τ i) (mp τ i) (fun _ => 1) o := if_pos ⟨ho.1, ho.2.2⟩
      have e2 : (if 0 < t ∧ mp τ i t = g then wS (mN τ i) (mp τ i) (fun _ => 1) t else 0) = wS (mN τ i) (mp τ i) (fun _ => 1) t := if_pos ⟨ht.1, ht.2.2⟩
      have := two_le (f := fun u => if 0 < u ∧ mp τ i u = g then wS (mN τ i) (mp τ i) (fun _ => 1) u else 0) (mN τ i) t1 ht.2.1
      simp only [e1, e2] at this
      exact this
    rw [q7]
    refine Cd_c ?_ (Cd_2 (mq_lt hm9) (mq_0 hm9) hk (B := wS (mN τ i) (mp τ i) (fun _ => 1) g) (by omega) (by omega) (ih o q1 q2) (ih t q3 q4) hmm (mN τ k - m) (by omega))
    intro c
    rw [AA_two hP hg hk9 (hb g hg) ho ht (by omega)]
    constructor
    · rintro ⟨x, _, hx, y, _, hy, q⟩
      exact ⟨x, y, by omega, hy, q⟩
    · rintro ⟨x, y, hx, hy, q⟩
      exact ⟨x, ab_le (mq_lt hm9) (mq_0 hm9) q.1, by omega, y, ab_le (mq_lt hm9) (mq_0 hm9) q.2.1, hy, q⟩
/-- a least of all m, lexically -/
theorem lb_least {C : Nat → Nat → Prop} {D L : Nat → Int32} {B : Nat} (hB : B ≤ 47) : ∀ n, 0 < n → (∀ m, m < n → Cd B (C m) (D m, L m)) → Cd B (fun c => ∃ m, m < n ∧ C m c) (D (lbB D L n), L (lbB D L n))
  | 0, h, _ => absurd h (by omega)
  | 1, _, h => by
    rw [lbB_1]
    refine Cd_c (fun c => ⟨fun q => ⟨0, by omega, q⟩, ?_⟩) (h 0 (by omega))
    rintro ⟨m, hm, q⟩
    have e : m = 0 := by omega
    subst e
    exact q
  | n + 2, _, h => by
    have ih := lb_least hB (n + 1) (by omega) (fun m hm => h m (by omega))
    have hn := h (n + 1) (by omega)
    have hpair : (D (lbB D L (n + 2)), L (lbB D L (n + 2))) = lzM (D (n + 1)) (L (n + 1)) (D (lbB D L (n + 1)), L (lbB D L (n + 1))) := by
      by_cases z : D (n + 1) < D (lbB D L (n + 1)) ∨ (D (n + 1) = D (lbB D L (n + 1)) ∧ L (n + 1) < L (lbB D L (n + 1)))
      · rw [lzM_y z, show lbB D L (n + 2) = n + 1 from cI_t z]
      · rw [lzM_n z, show lbB D L (n + 2) = lbB D L (n + 1) from cI_f z]
    rw [hpair]
    have hC : ∀ c, ((∃ m, m < n + 1 ∧ C m c) ∨ C (n + 1) c) ↔ ∃ m, m < n + 2 ∧ C m c := fun c => by
      constructor
      · rintro (⟨m, hm, q⟩ | q)
        · exact ⟨m, by omega, q⟩
        · exact ⟨n + 1, by omega, q⟩
      · rintro ⟨m, hm, q⟩
        by_cases e : m = n + 1
        · subst e; exact Or.inr q
        · exact Or.inl ⟨m, by omega, q⟩
    refine Cd_c hC ?_
    rcases hn with ⟨a, b⟩ | ⟨d, l, a, b, c, f, g⟩
    · have e1 := (Prod.mk.inj a).1
      have e2 := (Prod.mk.inj a).2
      have hz : lzM (D (n + 1)) (L (n + 1)) (D (lbB D L (n + 1)), L (lbB D L (n + 1))) = (D (lbB D L (n + 1)), L (lbB D L (n + 1))) := by
        refine lzM_n ?_
        rw [e1, e2]
        rcases ih with ⟨a9, _⟩ | ⟨d9, l9, a9, b9, _⟩
        · rw [a9]
          show ¬ (lzN < lzN ∨ (lzN = lzN ∧ nI 0 < nI 0))
          decide +kernel
        · rw [a9]
          show ¬ (lzN < nI d9 ∨ (lzN = nI d9 ∧ nI 0 < nI l9))
          rw [lzN_e, nI_ltI (by omega) (by omega), nI_eq (by omega) (by omega)]
          omega
      rw [hz]
      exact Cd_no b ih
    · have e1 := (Prod.mk.inj a).1
      have e2 := (Prod.mk.inj a).2
      rw [e1, e2]
      exact Cd_or hB ih b c f g
theorem Cd_B {B B9 : Nat} {C : Nat → Prop} {s : LzP} (h : B ≤ B9) (hc : Cd B C s) : Cd B9 C s := by
  rcases hc with a | ⟨d, l, a, b, c, f⟩
  · exact Or.inl a
  · exact Or.inr ⟨d, l, a, by omega, by omega, f⟩

theorem gath_hi {P : Nat → Nat} : ∀ (m : Nat) (d : Nat → Int32) (v : Nat), (∀ u, 0 < u → u ≤ m → P u < u) → m ≤ v → gath P m d v = d v
  | 0, _, _, _, _ => rfl
  | m + 1, d, v, hP, hv => by
    show gath P m _ v = d v
    rw [gath_hi m _ v (fun u h1 h2 => hP u h1 (by omega)) (by omega)]
    have := hP (m + 1) (by omega) (Nat.le_refl _)
    exact pk_un (by omega)
theorem gath_in {P : Nat → Nat} {k : Nat} : ∀ (m : Nat) (d : Nat → Int32) (v : Nat), (∀ u, 0 < u → u ≤ m → P u < u) → (In k (gath P m d v) ↔ In k (d v) ∨ ∃ u, 0 < u ∧ u ≤ m ∧ P u = v ∧ In k (gath P m d u))
  | 0, d, v, _ => ⟨Or.inl, fun h => h.elim id (fun ⟨u, h1, h2, _⟩ => absurd h1 (by omega))⟩
  | m + 1, d, v, hP => by
    have hPm := hP (m + 1) (by omega) (Nat.le_refl _)
    have ih := gath_in (k := k) m (upd d (P (m + 1)) (d (P (m + 1)) ||| d (m + 1))) v (fun u h1 h2 => hP u h1 (by omega))
    have hhi : gath P (m + 1) d (m + 1) = d (m + 1) := gath_hi (m + 1) d (m + 1) hP (Nat.le_refl _)
    have hR : gath P (m + 1) d = gath P m (upd d (P (m + 1)) (d (P (m + 1)) ||| d (m + 1))) := rfl
    rw [← hR] at ih
    rw [ih]
    by_cases e : v = P (m + 1)
    · subst e
      rw [pk_us, In_or]
      constructor
      · rintro ((h | h) | ⟨u, h1, h2, h3, h4⟩)
        · exact Or.inl h
        · exact Or.inr ⟨m + 1, by omega, Nat.le_refl _, rfl, by rw [hhi]; exact h⟩
        · exact Or.inr ⟨u, h1, by omega, h3, h4⟩
      · rintro (h | ⟨u, h1, h2, h3, h4⟩)
        · exact Or.inl (Or.inl h)
        · by_cases q : u = m + 1
          · subst q; rw [hhi] at h4; exact Or.inl (Or.inr h4)
          · exact Or.inr ⟨u, h1, by omega, h3, h4⟩
    · rw [pk_un e]
      constructor
      · rintro (h | ⟨u, h1, h2, h3, h4⟩)
        · exact Or.inl h
        · exact Or.inr ⟨u, h1, by omega, h3, h4⟩
      · rintro (h | ⟨u, h1, h2, h3, h4⟩)
        · exact Or.inl h
        · by_cases q : u = m + 1
          · subst q; exact absurd h3.symm e
          · exact Or.inr ⟨u, h1, by omega, h3, h4⟩
/-- a tree: parents first, a leaf has a kind and no child, any other node two children at least -/
def TV (n : Nat) (P : Nat → Nat) (K : Nat → Int32) : Prop := 0 < n ∧ (∀ v, 0 < v → v < n → P v < v ∧ K (P v) = -1) ∧ (∀ v, v < n → K v = -1 ∨ ∃ q, q < 12 ∧ K v = nI q) ∧ ∀ v, v < n → K v = -1 → ∃ a b, 0 < a ∧ a < b ∧ b < n ∧ P a = v ∧ P b = v
/-- the set of the kinds below v -/
def cB (n : Nat) (P : Nat → Nat) (K : Nat → Int32) : Nat → Int32 := gath P (n - 1) (fun v => kB (K v))
theorem kB_in {k q : Nat} (h : q < 12) : In k (kB (nI q)) ↔ k = q := by
  have e : ∀ q : Fin 12, kB (nI q.val) = bitI q.val := by decide +kernel
  rw [e ⟨q, h⟩]
  exact In_bit h
theorem kB_m1 {k : Nat} : ¬ In k (kB (-1)) := by
  have e : kB (-1) = 0 := by decide
  rw [e]; exact In_0
/-- is x one kind alone -/
theorem one_cases {x : Int32} (hx : Ks x) (h0 : ¬ x = 0) : (∃ q, q < 12 ∧ x = bitI q ∧ kindUp x 12 0 = nI q) ∨ (kindUp x 12 0 = -1 ∧ ∃ a b, ¬ a = b ∧ In a x ∧ In b x) := by
  obtain ⟨a, _, ha⟩ := In_ne h0
  have ha12 := hx a ha
  by_cases e : x = bitI a
  · exact Or.inl ⟨a, ha12, e, kdU_y e 12 0 (by omega) (by omega) ha12⟩
  · right
    have : ∃ b, ¬ a = b ∧ In b x := by
      refine Classical.byContradiction (fun hc => e (In_ext (fun k _ => ?_)))
      rw [In_bit ha12]
      constructor
      · intro hk
        refine Classical.byContradiction (fun hn => hc ⟨k, fun q => hn q.symm, hk⟩)
      · intro q; rw [q]; exact ha
    obtain ⟨b, hab, hb⟩ := this
    refine ⟨kdU_n (fun k hk q => ?_) 12 0 (by omega), a, b, hab, ha, hb⟩
    rw [q, In_bit hk] at ha hb
    omega
section grow
variable {M : Int32 → Prop} {r : Int32} {g : Nat → Int32} {n : Nat}
/-- the child of x that has k -/
theorem gm_child (hG : GM M r) (hM : MemIs g n M) (hs : SL g n) {i k : Nat} (hi : i < n) (hk : In k (g i)) (hne : ¬ g i = bitI k) : ∃ c, 0 < c ∧ c < n ∧ In k (g c) ∧ PaM M (g c) (g i) := by
  have hMi : ∀ j, j < n → M (g j) := fun j hj => (hM _).mpr ⟨j, hj, rfl⟩
  have hkr : In k r := (hG.2.2.1 _ (hMi i hi)).1 k hk
  have hk12 := hG.2.1 k hkr
  -- the first one within g i, other than it, that has k
  have hex : ∃ c, c < n ∧ In k (g c) ∧ Sb (g c) (g i) ∧ ¬ g c = g i := by
    obtain ⟨c, hc, e⟩ := (hM _).mp (hG.2.2.2.2 k hkr)
    refine ⟨c, hc, ?_, ?_, ?_⟩
    · rw [e]; exact (In_bit hk12).mpr rfl
    · rw [e]; intro j hj; rw [(In_bit hk12).mp hj]; exact hk
    · rw [e]; exact fun q => hne q.symm
  have hmin : ∃ c, (c < n ∧ In k (g c) ∧ Sb (g c) (g i) ∧ ¬ g c = g i) ∧ ∀ d, d < c → ¬ (d < n ∧ In k (g d) ∧ Sb (g d) (g i) ∧ ¬ g d = g i) := by
    obtain ⟨c, hc⟩ := hex
    have key : ∀ m c, c < m → (c < n ∧ In k (g c) ∧ Sb (g c) (g i) ∧ ¬ g c = g i) → ∃ c, (c < n ∧ In k (g c) ∧ Sb (g c) (g i) ∧ ¬ g c = g i) ∧ ∀ d, d < c → ¬ (d < n ∧ In k (g d) ∧ Sb (g d) (g i) ∧ ¬ g d = g i) := by
      intro m
      induction m with
      | zero => intro c h; omega
      | succ m ih =>
        intro c h hc
        by_cases q : ∃ d, d < c ∧ (d < n ∧ In k (g d) ∧ Sb (g d) (g i) ∧ ¬ g d = g i)
        · obtain ⟨d, hd, hd2⟩ := q
          exact ih d (by omega) hd2
        · exact ⟨c, hc, fun d hd z => q ⟨d, hd, z⟩⟩
    exact key (c + 1) c (by omega) hc
  obtain ⟨c, ⟨hc, hck, hcs, hcn⟩, hcm⟩ := hmin
  have hc0 : 0 < c := by
    rcases Nat.eq_zero_or_pos c with z | z
    · subst z
      have hr := (gm_root hG hM hs).2
      exfalso
      apply hcn
      rw [hr] at hcs ⊢
      exact sb_eq hcs (hG.2.2.1 _ (hMi i hi)).1
    · exact z
  obtain ⟨u, hu, _, hpu⟩ := gm_par hG hM hs hc0 hc
  refine ⟨c, hc0, hc, hck, ?_⟩
  have h1 : Sb (g u) (g i) := hpu.2.2.2 (g i) (hMi i hi) hcs (fun e => hcn e)
  have h2 : g u = g i := by
    refine Classical.byContradiction (fun hn => ?_)
    exact hcm u hu ⟨by omega, hpu.2.1 k hck, h1, hn⟩
  rw [h2] at hpu
  exact hpu
theorem gm_uF (hG : GM M r) (hM : MemIs g n M) (hs : SL g n) (hn : n < 2 ^ 31) {i : Nat} (h0 : 0 < i) (hi : i < n) : around g (g i) i = nI (uF (n, g) i) ∧ uF (n, g) i < i ∧ PaM M (g i) (g (uF (n, g) i)) := by
  obtain ⟨u, h1, h2, h3⟩ := gm_par hG hM hs h0 hi
  have : uF (n, g) i = u := by
    show (around g (g i) i).toNatClampNeg = u
    rw [h2, nI_clamp (by omega)]
  rw [this]
  exact ⟨h2, h1, h3⟩
theorem gm_ch (hG : GM M r) (hM : MemIs g n M) (hs : SL g n) (hn : n < 2 ^ 31) {i c : Nat} (h0 : 0 < c) (hc : c < n) (hi : i < n) (h : PaM M (g c) (g i)) : uF (n, g) c = i := by
  have h2 := gm_uF hG hM hs hn h0 hc
  exact hs.2.2 _ _ (by omega) hi (PaM_u h2.2.2 h)
abbrev kU (g : Nat → Int32) : Nat → Int32 := fun i => kindUp (g i) 12 0
theorem gm_TV (hG : GM M r) (hM : MemIs g n M) (hs : SL g n) (hn : n < 2 ^ 31) : TV n (uF (n, g)) (kU g) := by
  have hMi : ∀ j, j < n → M (g j) := fun j hj => (hM _).mpr ⟨j, hj, rfl⟩
  refine ⟨(gm_root hG hM hs).1, fun v h0 hv => ?_, fun v hv => ?_, fun v hv hk => ?_⟩
  · have h := gm_uF hG hM hs hn h0 hv
    refine ⟨h.2.1, ?_⟩
    rcases one_cases (hs.1 (uF (n, g) v) (by omega)).1 (hs.1 (uF (n, g) v) (by omega)).2 with ⟨q, hq, e, _⟩ | h2
    · exfalso
      obtain ⟨k, _, hk⟩ := In_ne (hs.1 v hv).2
      have h3 := h.2.2.2.1
      rw [e] at h3
      have h4 : k = q := (In_bit hq).mp (h3 k hk)
      apply h.2.2.2.2.1
      rw [e]
      refine In_ext (fun j _ => ?_)
      rw [In_bit hq]
      exact ⟨fun z => (In_bit hq).mp (h3 j z), fun z => by rw [z, ← h4]; exact hk⟩
    · exact h2.1
  · rcases one_cases (hs.1 v hv).1 (hs.1 v hv).2 with ⟨q, hq, _, e⟩ | h2
    · exact Or.inr ⟨q, hq, e⟩
    · exact Or.inl h2.1
  · rcases one_cases (hs.1 v hv).1 (hs.1 v hv).2 with ⟨q, hq, _, e⟩ | ⟨_, a, b, hab, ha, hb⟩
    · rw [show kU g v = nI q from e] at hk
      exact absurd hk (nI_m1 (by omega))
    · have hna : ¬ g v = bitI a := fun e => by
        have := hs.1 v hv
        rw [e, In_bit (this.1 a ha)] at hb
        exact hab hb.symm
      obtain ⟨c, hc0, hc, hck, hcp⟩ := gm_child hG hM hs hv ha hna
      -- a kind of v that c has not
      have : ∃ d, In d (g v) ∧ ¬ In d (g c) := by
        refine Classical.byContradiction (fun hc2 => hcp.2.2.1 (sb_eq hcp.2.1 (fun j hj => Classical.byContradiction (fun hn2 => hc2 ⟨j, hj, hn2⟩))))
      obtain ⟨d, hd, hdc⟩ := this
      have hnd : ¬ g v = bitI d := fun e => by
        have h12 := (hs.1 v hv).1 d hd
        rw [e, In_bit h12] at ha hb
        omega
      obtain ⟨c2, h2c0, h2c, h2ck, h2cp⟩ := gm_child hG hM hs hv hd hnd
      have hne : ¬ c = c2 := fun e => hdc (by rw [e]; exact h2ck)
      have e1 := gm_ch hG hM hs hn hc0 hc hv hcp
      have e2 := gm_ch hG hM hs hn h2c0 h2c hv h2cp
      rcases Nat.lt_or_ge c c2 with q | q
      · exact ⟨c, c2, hc0, q, h2c, e1, e2⟩
      · exact ⟨c2, c, h2c0, by omega, hc, e2, e1⟩
theorem gm_cB (hG : GM M r) (hM : MemIs g n M) (hs : SL g n) (hn : n < 2 ^ 31) : ∀ v, v < n → cB n (uF (n, g)) (kU g) v = g v := by
  have hTV := gm_TV hG hM hs hn
  have hP : ∀ u, 0 < u → u ≤ n - 1 → uF (n, g) u < u := fun u h1 h2 => (hTV.2.1 u h1 (by omega)).1
  have key : ∀ m v, n - v ≤ m → v < n → cB n (uF (n, g)) (kU g) v = g v := by
    intro m
    induction m with
    | zero => intro v h1 h2; omega
    | succ m ih =>
      intro v h1 h2
      refine In_ext (fun k _ => ?_)
      unfold cB
      rw [gath_in _ _ _ hP]
      have ihc : ∀ u, 0 < u → u ≤ n - 1 → uF (n, g) u = v → gath (uF (n, g)) (n - 1) (fun v => kB (kU g v)) u = g u := by
        intro u h3 h4 h5
        have := hP u h3 h4
        exact ih u (by omega) (by omega)
      constructor
      · rintro (h | ⟨u, h3, h4, h5, h6⟩)
        · rcases one_cases (hs.1 v h2).1 (hs.1 v h2).2 with ⟨q, hq, e, e2⟩ | ⟨e2, _⟩
          · rw [show kU g v = nI q from e2, kB_in hq] at h
            rw [h, e]; exact (In_bit hq).mpr rfl
          · rw [show kU g v = -1 from e2] at h
            exact absurd h kB_m1
        · rw [ihc u h3 h4 h5] at h6
          have h7 := gm_uF hG hM hs hn h3 (show u < n by omega)
          rw [h5] at h7
          exact h7.2.2.2.1 k h6
      · intro hk
        by_cases e : g v = bitI k
        · left
          have hk12 := (hs.1 v h2).1 k hk
          rw [show kU g v = nI k from kdU_y e 12 0 (by omega) (by omega) hk12]
          exact (kB_in hk12).mpr rfl
        · right
          obtain ⟨c, hc0, hc, hck, hcp⟩ := gm_child hG hM hs h2 hk e
          have e1 := gm_ch hG hM hs hn hc0 hc h2 hcp
          exact ⟨c, hc0, by omega, e1, by rw [ihc c hc0 (by omega) e1]; exact hck⟩
  exact fun v hv => key (n - v) v (Nat.le_refl _) hv
/-- two trees alike -/
def Iso (n : Nat) (P : Nat → Nat) (K : Nat → Int32) (P9 : Nat → Nat) (K9 : Nat → Int32) (π ρ : Nat → Nat) : Prop := Bij n π ρ ∧ π 0 = 0 ∧ (∀ v, v < n → K v = K9 (π v)) ∧ ∀ v, 0 < v → v < n → π (P v) = P9 (π v)
theorem gm_iso {h : Nat → Int32} {m : Nat} (hG : GM M r) (hM : MemIs g n M) (hs : SL g n) (hM2 : MemIs h m M) (hs2 : SL h m) (hn : n < 2 ^ 31) (hm : m < 2 ^ 31) : n = m ∧ ∃ π ρ, Iso n (uF (n, g)) (kU g) (uF (m, h)) (kU h) π ρ := by
  have e1 : ∀ v, v < n → ∃ u, u < m ∧ h u = g v := fun v hv => (hM2 _).mp ((hM _).mpr ⟨v, hv, rfl⟩)
  have e2 : ∀ v, v < m → ∃ u, u < n ∧ g u = h v := fun v hv => (hM _).mp ((hM2 _).mpr ⟨v, hv, rfl⟩)
  let π : Nat → Nat := fun v => @dite Nat (v < n) (Classical.propDecidable _) (fun hv => Classical.choose (e1 v hv)) (fun _ => 0)
  let ρ : Nat → Nat := fun v => @dite Nat (v < m) (Classical.propDecidable _) (fun hv => Classical.choose (e2 v hv)) (fun _ => 0)
  have hπ : ∀ v, v < n → π v < m ∧ h (π v) = g v := fun v hv => by
    have : π v = Classical.choose (e1 v hv) := dif_pos hv
    rw [this]; exact Classical.choose_spec (e1 v hv)
  have hρ : ∀ v, v < m → ρ v < n ∧ g (ρ v) = h v := fun v hv => by
    have : ρ v = Classical.choose (e2 v hv) := dif_pos hv
    rw [this]; exact Classical.choose_spec (e2 v hv)
  have hnm : n ≤ m := inj_le m n π (fun v hv => (hπ v hv).1) (fun a b ha hb e => hs.2.2 a b ha hb (by rw [← (hπ a ha).2, ← (hπ b hb).2, e]))
  have hmn : m ≤ n := inj_le n m ρ (fun v hv => (hρ v hv).1) (fun a b ha hb e => hs2.2.2 a b ha hb (by rw [← (hρ a ha).2, ← (hρ b hb).2, e]))
  have hnm2 : n = m := Nat.le_antisymm hnm hmn
  subst hnm2
  refine ⟨rfl, π, ρ, fun v hv => ⟨(hπ v hv).1, (hρ v hv).1, ?_, ?_⟩, ?_, fun v hv => ?_, fun v h0 hv => ?_⟩
  · exact hs.2.2 _ _ (hρ _ (hπ v hv).1).1 hv (by rw [(hρ _ (hπ v hv).1).2, (hπ v hv).2])
  · exact hs2.2.2 _ _ (hπ _ (hρ v hv).1).1 hv (by rw [(hπ _ (hρ v hv).1).2, (hρ v hv).2])
  · have h1 := gm_root hG hM hs
    have h2 := gm_root hG hM2 hs2
    exact hs2.2.2 _ _ (hπ 0 h1.1).1 h1.1 (by rw [(hπ 0 h1.1).2, h1.2, h2.2])
  · show kindUp (g v) 12 0 = kindUp (h (π v)) 12 0
    rw [(hπ v hv).2]
  · have h1 := gm_uF hG hM hs hn h0 hv
    have hp0 : 0 < π v := by
      rcases Nat.eq_zero_or_pos (π v) with z | z
      · exfalso
        have h2 := gm_root hG hM hs
        have h3 := gm_root hG hM2 hs2
        have h4 := (hπ v hv).2
        rw [z, h3.2, ← h2.2] at h4
        have := hs.2.2 0 v h2.1 hv h4
        omega
      · exact z
    have hu : uF (n, g) v < n := by omega
    refine (gm_ch hG hM2 hs2 hm hp0 (hπ v hv).1 (hπ _ hu).1 ?_).symm
    rw [(hπ v hv).2, (hπ _ hu).2]
    exact h1.2.2
end grow
/-! counting a tree's nodes -/
theorem tv_cnt {n : Nat} {P : Nat → Nat} {K : Nat → Int32} (h : TV n P K) : n + 1 ≤ 2 * cntU (fun v => ¬ K v = -1) n := by
  -- every node but the root is a child of one node
  have hsum : sumU (fun v => sumU (fun u => if 0 < u ∧ P u = v then 1 else 0) n) n = n - 1 := by
    rw [sumU_swap]
    have e : ∀ u, u < n → sumU (fun v => if 0 < u ∧ P u = v then 1 else 0) n = if u = 0 then 0 else 1 := by
      intro u hu
      by_cases z : u = 0
      · rw [if_pos z, sumU_c n (g := fun _ => 0) (fun v _ => if_neg (by omega)), sumU_0]
      · rw [if_neg z]
        have hp := (h.2.1 u (by omega) hu).1
        rw [sumU_c n (g := fun v => if v = P u then 1 else 0) (fun v _ => by
          by_cases q : v = P u
          · rw [if_pos q, if_pos ⟨by omega, q.symm⟩]
          · rw [if_neg q, if_neg (fun z => q z.2.symm)])]
        exact sumU_one n (by omega)
    rw [sumU_c n e]
    have e2 : ∀ m, sumU (fun u => if u = 0 then 0 else 1) m = m - 1 := by
      intro m
      induction m with
      | zero => rfl
      | succ m ih =>
        show sumU (fun u => if u = 0 then 0 else 1) m + (if m = 0 then 0 else 1) = m + 1 - 1
        rw [ih]
        split <;> omega
    exact e2 n
  have hge : sumU (fun v => cI (K v = -1) 2 0) n ≤ sumU (fun v => sumU (fun u => if 0 < u ∧ P u = v then 1 else 0) n) n := by
    refine sumU_le n (fun v hv => ?_)
    by_cases q : K v = -1
    · rw [cI_t q]
      obtain ⟨a, b, h0, hab, hb, ha1, hb1⟩ := h.2.2.2 v hv q
      have h1 := cnt_two (q := fun u => 0 < u ∧ P u = v) n hab hb ⟨h0, ha1⟩ ⟨by omega, hb1⟩
      rw [cnt_sm] at h1
      refine Nat.le_trans h1 (Nat.le_of_eq (sumU_c n (fun u _ => ?_)))
      by_cases z : 0 < u ∧ P u = v
      · rw [cI_t z, if_pos z]
      · rw [cI_f z, if_neg z]
    · rw [cI_f q]; exact Nat.zero_le _
  have hin : sumU (fun v => cI (K v = -1) 2 0) n + 2 * cntU (fun v => ¬ K v = -1) n = 2 * n := by
    rw [cnt_sm]
    have e : ∀ m, sumU (fun v => cI (K v = -1) 2 0) m + 2 * sumU (fun v => cI (¬ K v = -1) 1 0) m = 2 * m := by
      intro m
      induction m with
      | zero => rfl
      | succ m ih =>
        show sumU (fun v => cI (K v = -1) 2 0) m + cI (K m = -1) 2 0 + 2 * (sumU (fun v => cI (¬ K v = -1) 1 0) m + cI (¬ K m = -1) 1 0) = 2 * (m + 1)
        by_cases q : K m = -1
        · rw [cI_t q, cI_f (fun z => z q)]; omega
        · rw [cI_f q, cI_t q]; omega
    exact e n
  have := h.1
  omega

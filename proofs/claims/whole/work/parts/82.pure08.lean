/-! Distances of a clock -/
theorem mx_ge {a b : Int32} : a ≤ mx a b ∧ b ≤ mx a b := by
  unfold mx
  split
  · rename_i h; exact ⟨Int32.le_of_lt h, Int32.le_refl _⟩
  · rename_i h; exact ⟨Int32.le_refl _, Int32.not_lt.mp h⟩
theorem mx_or {a b : Int32} : mx a b = a ∨ mx a b = b := by
  unfold mx
  split
  · exact Or.inr rfl
  · exact Or.inl rfl
theorem mx_l {a b : Int32} (h : b ≤ a) : mx a b = a := if_neg (Int32.not_lt.mpr h)
theorem mx_r {a b : Int32} (h : a ≤ b) : mx a b = b := by
  unfold mx
  split
  · rfl
  · rename_i q; exact Int32.le_antisymm h (Int32.not_lt.mp q)
theorem tg_it {x y z : Int32} : tgP x y z ↔ itP x y z := by
  have h1 := mx_ge (a := x) (b := mx y z)
  have h2 := mx_ge (a := y) (b := z)
  constructor
  · rintro (⟨e, h⟩ | ⟨e, h, q | q⟩)
    · exact Or.inl ⟨e, by rw [h]; exact Int32.le_trans h2.2 h1.2⟩
    · refine Or.inr (Or.inl ⟨by rw [q, ← h], ?_⟩)
      rw [q]; exact Int32.le_trans h2.1 h1.2
    · refine Or.inr (Or.inr ⟨by rw [q, ← h], ?_⟩)
      rw [q]; exact h1.1
  · rintro (⟨e, h⟩ | ⟨e, h⟩ | ⟨e, h⟩)
    · refine Or.inl ⟨e, ?_⟩
      rw [← e, mx_l h, mx_l (Int32.le_refl _)]
    · by_cases q : x = y
      · refine Or.inl ⟨q, ?_⟩
        rw [← q, ← e, mx_l (Int32.le_refl _), mx_l (Int32.le_refl _)]
      · rw [← e]
        have : mx x (mx y x) = x := by rw [mx_r h, mx_l (Int32.le_refl _)]
        exact Or.inr ⟨q, by rw [this], Or.inl (by rw [this])⟩
    · by_cases q : x = y
      · refine Or.inl ⟨q, ?_⟩
        rw [← e, ← q, mx_l (Int32.le_refl _), mx_l (Int32.le_refl _)]
      · rw [← e]
        have : mx x (mx y y) = y := by rw [mx_l (Int32.le_refl _), mx_r h]
        exact Or.inr ⟨q, by rw [this], Or.inr (by rw [this])⟩
theorem it_sw {x y z : Int32} (h : itP x y z) : itP y x z := by
  rcases h with ⟨e, h⟩ | ⟨e, h⟩ | ⟨e, h⟩
  · exact Or.inl ⟨e.symm, e ▸ h⟩
  · exact Or.inr (Or.inr ⟨e, h⟩)
  · exact Or.inr (Or.inl ⟨e, h⟩)
theorem it_rt {x y z : Int32} (h : itP x y z) : itP x z y := by
  rcases h with ⟨e, h⟩ | ⟨e, h⟩ | ⟨e, h⟩
  · exact Or.inr (Or.inl ⟨e, h⟩)
  · exact Or.inl ⟨e, h⟩
  · exact Or.inr (Or.inr ⟨e.symm, e ▸ h⟩)
theorem it_ul {x y z : Int32} (h : itP x y z) : y ≤ x ∨ y ≤ z := by
  rcases h with ⟨e, h⟩ | ⟨e, h⟩ | ⟨e, h⟩
  · exact Or.inl (by rw [e]; exact Int32.le_refl _)
  · exact Or.inl h
  · exact Or.inr (by rw [e]; exact Int32.le_refl _)
/-- distances: the same both ways, 0 to oneself, none below 0 -/
def DM (D : Nat → Nat → Int32) : Prop := (∀ i j, i < 12 → j < 12 → D i j = D j i) ∧ (∀ i, i < 12 → D i i = 0) ∧ ∀ i j, i < 12 → j < 12 → 0 ≤ D i j
section clock
variable {D : Nat → Nat → Int32} {N : Nat}
/-- the class's way and the reference's -/
theorem ck_eq (hD : DM D) (hN : N ≤ 12) : (∀ i j k, i < j → j < k → k < N → tgP (D i j) (D i k) (D j k)) ↔ (∀ i, i < N → ∀ j, j < i → ∀ k, k < j → itP (D i j) (D i k) (D j k)) := by
  constructor
  · intro h i hi j hj k hk
    have h1 := tg_it.mp (h k j i hk hj hi)
    rw [hD.1 i j (by omega) (by omega), hD.1 i k (by omega) (by omega), hD.1 j k (by omega) (by omega)]
    -- (ji) (ki) (kj) from (kj) (ki) (ji)
    exact it_rt (it_sw (it_rt h1))
  · intro h i j k h1 h2 h3
    refine tg_it.mpr ?_
    have h4 := h k h3 j h2 i h1
    rw [hD.1 k j (by omega) (by omega), hD.1 k i (by omega) (by omega), hD.1 j i (by omega) (by omega)] at h4
    exact it_rt (it_sw (it_rt h4))
theorem ck_ul (hD : DM D) (hN : N ≤ 12) (h : ∀ i j k, i < j → j < k → k < N → tgP (D i j) (D i k) (D j k)) {a b c : Nat} (ha : a < N) (hb : b < N) (hc : c < N) : D a c ≤ D a b ∨ D a c ≤ D b c := by
  have sy := hD.1
  by_cases e1 : a = c
  · rw [e1, hD.2.1 c (by omega)]; exact Or.inl (hD.2.2 c b (by omega) (by omega))
  by_cases e2 : a = b
  · rw [e2]; exact Or.inr (Int32.le_refl _)
  by_cases e3 : b = c
  · rw [e3]; exact Or.inl (Int32.le_refl _)
  have key : itP (D a b) (D a c) (D b c) := by
    rcases Nat.lt_or_ge a b with q1 | q1
    · rcases Nat.lt_or_ge b c with q2 | q2
      · exact tg_it.mp (h a b c q1 q2 hc)
      · rcases Nat.lt_or_ge a c with q3 | q3
        · have := tg_it.mp (h a c b q3 (by omega) hb)
          rw [sy c b (by omega) (by omega)] at this
          exact it_sw this
        · have := tg_it.mp (h c a b (by omega) q1 hb)
          rw [sy c a (by omega) (by omega), sy c b (by omega) (by omega)] at this
          -- (ac) (bc) (ab)
          exact it_sw (it_rt (it_sw (it_sw (it_rt this)))) |> fun z => by
            rcases this with ⟨e, g⟩ | ⟨e, g⟩ | ⟨e, g⟩
            · exact Or.inr (Or.inr ⟨e, g⟩)
            · exact Or.inl ⟨e.symm, by rw [← e]; exact g⟩
            · exact Or.inr (Or.inl ⟨e.symm, by rw [← e]; exact g⟩)
    · rcases Nat.lt_or_ge a c with q2 | q2
      · have := tg_it.mp (h b a c (by omega) q2 hc)
        rw [sy b a (by omega) (by omega)] at this
        exact it_rt this
      · rcases Nat.lt_or_ge b c with q3 | q3
        · have := tg_it.mp (h b c a q3 (by omega) ha)
          rw [sy b a (by omega) (by omega), sy c a (by omega) (by omega)] at this
          -- (bc) (ab) (ac)
          rcases this with ⟨e, g⟩ | ⟨e, g⟩ | ⟨e, g⟩
          · exact Or.inr (Or.inl ⟨e.symm, by rw [← e]; exact g⟩)
          · exact Or.inr (Or.inr ⟨e.symm, by rw [← e]; exact g⟩)
          · exact Or.inl ⟨e, g⟩
        · have := tg_it.mp (h c b a (by omega) (by omega) ha)
          rw [sy c b (by omega) (by omega), sy c a (by omega) (by omega), sy b a (by omega) (by omega)] at this
          -- (bc) (ac) (ab)
          rcases this with ⟨e, g⟩ | ⟨e, g⟩ | ⟨e, g⟩
          · exact Or.inr (Or.inr ⟨e.symm, by rw [← e]; exact g⟩)
          · exact Or.inr (Or.inl ⟨e.symm, by rw [← e]; exact g⟩)
          · exact Or.inl ⟨e.symm, by rw [← e]; exact g⟩
  exact it_ul key
/-- who is within h of i -/
def ball (D : Nat → Nat → Int32) (N i : Nat) (h : Int32) (x : Int32) : Prop := ∀ k, In k x ↔ k < N ∧ (k = i ∨ D i k ≤ h)
theorem kw_ball (hN : N ≤ 12) {i : Nat} (hi : i < N) (h : Int32) : ball D N i h (kwU (D i) h (bitI i) N) := by
  have key : ∀ m, m ≤ N → ∀ k, In k (kwU (D i) h (bitI i) m) ↔ k = i ∨ (k < m ∧ D i k ≤ h) := by
    intro m
    induction m with
    | zero => intro _ k; rw [show kwU (D i) h (bitI i) 0 = bitI i from rfl, In_bit (by omega)]; exact ⟨Or.inl, fun q => q.elim id (fun z => absurd z.1 (by omega))⟩
    | succ m ih =>
      intro hm k
      have ih := ih (by omega) k
      show In k (if h < D i m then _ else _) ↔ _
      by_cases q : h < D i m
      · rw [if_pos q, ih]
        refine or_congr Iff.rfl ⟨fun z => ⟨by omega, z.2⟩, fun z => ⟨?_, z.2⟩⟩
        by_cases e : k = m
        · rw [e] at z; exact absurd q (Int32.not_lt.mpr z.2)
        · omega
      · rw [if_neg q, In_or, ih, In_bit (by omega)]
        have hle := Int32.not_lt.mp q
        constructor
        · rintro ((e | z) | e)
          · exact Or.inl e
          · exact Or.inr ⟨by omega, z.2⟩
          · exact Or.inr ⟨by omega, by rw [e]; exact hle⟩
        · rintro (e | z)
          · exact Or.inl (Or.inl e)
          · by_cases e : k = m
            · exact Or.inr e
            · exact Or.inl (Or.inr ⟨by omega, z.2⟩)
  intro k
  rw [key N (Nat.le_refl _) k]
  constructor
  · rintro (e | z)
    · exact ⟨by omega, Or.inl e⟩
    · exact ⟨z.1, Or.inr z.2⟩
  · rintro ⟨h1, e | z⟩
    · exact Or.inl e
    · exact Or.inr ⟨h1, z⟩
theorem ball_u {i : Nat} {h : Int32} {x y : Int32} (h1 : ball D N i h x) (h2 : ball D N i h y) : x = y := In_ext (fun k _ => (h1 k).trans (h2 k).symm)
theorem allK_in (hN : N ≤ 12) {k : Nat} : In k (allK N) ↔ k < N := by
  have e : ∀ N : Fin 13, ∀ k : Fin 32, ((allK N.val).toBitVec.getLsbD k.val = true ↔ k.val < N.val) := by decide +kernel
  constructor
  · intro h
    have h32 := In_32 h
    exact (e ⟨N, by omega⟩ ⟨k, h32⟩).mp h
  · intro h
    exact (e ⟨N, by omega⟩ ⟨k, by omega⟩).mpr h
/-- the balls' family -/
abbrev ckM (D : Nat → Nat → Int32) (N : Nat) : Int32 → Prop := fun x => ∃ i, i < N ∧ (x = bitI i ∨ ∃ k, k < N ∧ ball D N i (D i k) x)
theorem ck_GM (hD : DM D) (hN : N ≤ 12) (h0 : 0 < N) (h : ∀ i j k, i < j → j < k → k < N → tgP (D i j) (D i k) (D j k)) : GM (ckM D N) (allK N) := by
  have hin : ∀ i k, i < N → k < N → ∀ x, ball D N i (D i k) x → ∀ j, In j x ↔ j < N ∧ D i j ≤ D i k := by
    intro i k hi hk x hx j
    rw [hx j]
    refine and_congr Iff.rfl ⟨fun q => q.elim (fun e => ?_) id, Or.inr⟩
    rw [e, hD.2.1 i (by omega)]
    exact hD.2.2 i k (by omega) (by omega)
  have hK : Ks (allK N) := fun k hk => by have := (allK_in hN).mp hk; omega
  refine ⟨?_, hK, ?_, ?_, fun k hk => ⟨k, (allK_in hN).mp hk, Or.inl rfl⟩⟩
  · -- the farthest one of 0
    have hmax : ∀ m, 0 < m → m ≤ N → ∃ k, k < m ∧ ∀ j, j < m → D 0 j ≤ D 0 k := by
      intro m
      induction m with
      | zero => intro h; omega
      | succ m ih =>
        intro _ hm
        rcases Nat.eq_zero_or_pos m with z | z
        · exact ⟨0, by omega, fun j hj => by rw [show j = 0 by omega]; exact Int32.le_refl _⟩
        · obtain ⟨k, hk, hmx⟩ := ih z (by omega)
          rcases Int32.le_total (D 0 m) (D 0 k) with q | q
          · refine ⟨k, by omega, fun j hj => ?_⟩
            by_cases e : j = m
            · rw [e]; exact q
            · exact hmx j (by omega)
          · refine ⟨m, by omega, fun j hj => ?_⟩
            by_cases e : j = m
            · rw [e]; exact Int32.le_refl _
            · exact Int32.le_trans (hmx j (by omega)) q
    obtain ⟨k, hk, hmx⟩ := hmax N h0 (Nat.le_refl _)
    refine ⟨0, h0, Or.inr ⟨k, hk, fun j => ?_⟩⟩
    rw [allK_in hN]
    exact ⟨fun q => ⟨q, Or.inr (hmx j q)⟩, fun q => q.1⟩
  · rintro x ⟨i, hi, rfl | ⟨k, hk, hx⟩⟩
    · refine ⟨fun j hj => by rw [(In_bit (by omega)).mp hj]; exact (allK_in hN).mpr hi, fun e => ?_⟩
      have : In i (bitI i) := (In_bit (by omega)).mpr rfl
      rw [e] at this; exact In_0 this
    · refine ⟨fun j hj => (allK_in hN).mpr ((hx j).mp hj).1, fun e => ?_⟩
      have : In i x := (hx i).mpr ⟨hi, Or.inl rfl⟩
      rw [e] at this; exact In_0 this
  · have bl : ∀ i k j m x y, i < N → k < N → j < N → m < N → ball D N i (D i k) x → ball D N j (D j m) y → D i k ≤ D j m → (∃ t, In t x ∧ In t y) → Sb x y := by
      intro i k j m x y hi hk hj hm hx hy hle ⟨t, ht1, ht2⟩ u hu
      rw [hin i k hi hk x hx] at ht1 hu
      rw [hin j m hj hm y hy] at ht2 ⊢
      refine ⟨hu.1, ?_⟩
      have h1 : D t u ≤ D i k := by
        rcases ck_ul hD hN h ht1.1 hi hu.1 with q | q
        · rw [hD.1 t i (by omega) (by omega)] at q
          exact Int32.le_trans q ht1.2
        · exact Int32.le_trans q hu.2
      rcases ck_ul hD hN h hj ht1.1 hu.1 with q | q
      · exact Int32.le_trans q ht2.2
      · exact Int32.le_trans q (Int32.le_trans h1 hle)
    have bit : ∀ i (x : Int32), i < N → Sb x (bitI i) ∨ Sb (bitI i) x ∨ ∀ t, In t x → ¬ In t (bitI i) := by
      intro i x hi
      by_cases q : In i x
      · exact Or.inr (Or.inl (fun j hj => by rw [(In_bit (by omega)).mp hj]; exact q))
      · exact Or.inr (Or.inr (fun t h1 h2 => q (by rw [← (In_bit (show i < 12 by omega)).mp h2]; exact h1)))
    rintro x y ⟨i, hi, rfl | ⟨k, hk, hx⟩⟩ ⟨j, hj, hy⟩
    · rcases bit i y hi with q | q | q
      · exact Or.inr (Or.inl q)
      · exact Or.inl q
      · exact Or.inr (Or.inr (fun t h1 h2 => q t h2 h1))
    · rcases hy with rfl | ⟨m, hm, hy⟩
      · exact bit j x hj
      · by_cases q : ∃ t, In t x ∧ In t y
        · rcases Int32.le_total (D i k) (D j m) with z | z
          · exact Or.inl (bl i k j m x y hi hk hj hm hx hy z q)
          · obtain ⟨t, t1, t2⟩ := q
            exact Or.inr (Or.inl (bl j m i k y x hj hm hi hk hy hx z ⟨t, t2, t1⟩))
        · exact Or.inr (Or.inr (fun t h1 h2 => q ⟨t, h1, h2⟩))
end clock

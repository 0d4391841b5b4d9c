/-! Reader: growing a tree of a tape without a fault -/
abbrev GT : Type := Nat × Int32 × TD
def gwS (x : Int32) (q : GT) : GT := if x = nI 40 then (q.1 + 1, nI q.1, tdA q.1 q.2.1.toNatClampNeg (-1) q.2.2) else if x = nI 41 then (q.1, q.2.2.2.1 q.2.1.toNatClampNeg, q.2.2) else if letP x then (q.1 + 1, q.2.1, tdA q.1 q.2.1.toNatClampNeg (x - nI 97) q.2.2) else q
def gwU (f : Nat → Int32) (q : GT) : Nat → GT
  | 0 => q
  | i + 1 => gwS (f i) (gwU f q i)
def rdU (f : Nat → Int32) (r : RdS) : Nat → RdS
  | 0 => r
  | i + 1 => (rdR (f i) (rdU f r i)).2
def gwOk (i : Nat) (r : RdS) (q : GT) : Prop :=
  ∃ (a cc : Nat → Nat) (br : Nat),
    (r.1 = 0 → q.2.1 = -1) ∧ (0 < r.1 → q.2.1 = nI (a (r.1 - 1)) ∧ a 0 = 0) ∧ (∀ k, k < r.1 → a k < q.1) ∧ (∀ k, k + 1 < r.1 → q.2.2.2.1 (a (k + 1)) = nI (a k)) ∧
    (0 < q.1 → q.2.2.2.1 0 = -1) ∧ (r.1 = 0 → r.2.2.1 = 0 → q.1 = 0) ∧ q.2.2.1 = r.2.1 ∧
    (∀ k, k < r.1 → r.2.2.2 k = nI (cc k) ∧ cc k ≤ i) ∧ q.1 = br + r.2.1 ∧ r.1 ≤ br ∧ (br - r.1) + smU cc r.1 + (if r.2.2.1 = 0 then 0 else 1) ≤ r.2.1 ∧ (r.2.2.1 = 2 → r.1 = 0) ∧
    ∀ v, 0 < v → v < q.1 → ∃ u, u < v ∧ q.2.2.2.1 v = nI u
theorem letP_k {x : Int32} (h : letP x) : ∃ k, k < 12 ∧ x = nI (97 + k) := by
  obtain ⟨h1, h2⟩ := h
  have h0 : ¬ x < 0 := fun q => h1 (Int32.lt_trans q (by decide))
  obtain ⟨i, hi, rfl⟩ := okI_of (n := 109) (by decide) h0 (Int32.not_le.mp h2)
  have : ¬ i < 97 := fun q => h1 (nI_lt q (by decide))
  exact ⟨i - 97, by omega, by rw [show 97 + (i - 97) = i by omega]⟩
theorem let_sub {k : Nat} (h : k < 12) : nI (97 + k) - nI 97 = nI k := by
  rw [pk_sub (by omega)]
  rw [show 97 + k - 97 = k by omega]
theorem smU_c {f g : Nat → Nat} : ∀ n, (∀ i, i < n → f i = g i) → smU f n = smU g n
  | 0, _ => rfl
  | n + 1, h => by
    show smU f n + f n = smU g n + g n
    rw [smU_c n (fun i hi => h i (by omega)), h n (by omega)]
theorem gw_skip {x : Int32} {q : GT} (h1 : ¬ x = nI 40) (h2 : ¬ x = nI 41) (h3 : ¬ letP x) : gwS x q = q := by
  unfold gwS
  rw [if_neg h1, if_neg h2, if_neg h3]
/-- what a node more changes -/
theorem gw_add {i : Nat} {r : RdS} {q : GT} {k : Int32} {u : Nat} (h : gwOk i r q) (hr : rdOk r) (h0 : r.2.2.1 = 0) (hu : u = q.2.1.toNatClampNeg) :
    (0 < q.1 → u < q.1) ∧ (q.1 = 0 ↔ r.1 = 0) ∧ (∀ v, v < q.1 → (tdA q.1 u k q.2.2).2.1 v = q.2.2.2.1 v) ∧ (0 < q.1 → (tdA q.1 u k q.2.2).2.1 q.1 = nI u) ∧ (0 < q.1 + 1 → (tdA q.1 u k q.2.2).2.1 0 = -1) ∧ (∀ v, 0 < v → v < q.1 + 1 → ∃ u9, u9 < v ∧ (tdA q.1 u k q.2.2).2.1 v = nI u9) := by
  obtain ⟨a, cc, br, i1, i2, i3, i4, i5, i6, i7, i8, i9, i10, i11, i12, i13⟩ := h
  have hb : q.1 ≤ 100 := by
    obtain ⟨r1, r2, r3⟩ := hr
    omega
  have hz : q.1 = 0 ↔ r.1 = 0 := ⟨fun z => Classical.byContradiction (fun n => by have := i3 0 (by omega); omega), fun z => i6 z h0⟩
  have hu1 : 0 < q.1 → u < q.1 := fun hp => by
    have hp1 : 0 < r.1 := Nat.pos_of_ne_zero (fun z => by have := hz.mpr z; omega)
    have := i3 (r.1 - 1) (by omega)
    rw [hu, (i2 hp1).1, nI_clamp (by omega)]
    exact this
  have hlt : ∀ v, v < q.1 → (tdA q.1 u k q.2.2).2.1 v = q.2.2.2.1 v := fun v hv => by
    show upd q.2.2.2.1 q.1 _ v = _
    rw [pk_un (by omega)]
  have hat : 0 < q.1 → (tdA q.1 u k q.2.2).2.1 q.1 = nI u := fun hp => by
    show upd q.2.2.2.1 q.1 _ q.1 = _
    rw [pk_us, if_neg (by omega)]
  refine ⟨hu1, hz, hlt, hat, fun _ => ?_, fun v h1 h2 => ?_⟩
  · rcases Nat.eq_zero_or_pos q.1 with z | z
    · show upd q.2.2.2.1 q.1 _ 0 = _
      rw [z, pk_us, if_pos rfl]
    · rw [hlt 0 z]; exact i5 z
  · by_cases hv : v = q.1
    · exact ⟨u, by have := hu1 (by omega); omega, by rw [hv]; exact hat (by omega)⟩
    · obtain ⟨u9, h3, h4⟩ := i13 v h1 (by omega)
      exact ⟨u9, h3, by rw [hlt v (by omega)]; exact h4⟩
set_option maxHeartbeats 1000000 in
theorem gwOk_step {i : Nat} {x : Int32} {r : RdS} {q : GT} (hi : i ≤ 400) (h : gwOk i r q) (hr : rdOk r) (hz : (rdR x r).1 = 0) : gwOk (i + 1) (rdR x r).2 (gwS x q) := by
  have H := h
  obtain ⟨o, lf, ph, c⟩ := r
  obtain ⟨n, ab, D⟩ := q
  obtain ⟨hr1, hr2, hr3⟩ := hr
  obtain ⟨a, cc, br, i1, i2, i3, i4, i5, i6, i7, i8, i9, i10, i11, i12, i13⟩ := h
  dsimp only at hr1 hr2 hr3 i1 i2 i3 i4 i5 i6 i7 i8 i9 i10 i11 i12 i13
  have hsame : ∀ c9 : Nat → Int32, gwOk i (o, lf, ph, c) (n, ab, D) → gwOk (i + 1) (o, lf, ph, c) (n, ab, D) := fun _ ⟨a, cc, br, j1, j2, j3, j4, j5, j6, j7, j8, j9, j10, j11, j12, j13⟩ => ⟨a, cc, br, j1, j2, j3, j4, j5, j6, j7, fun k hk => ⟨(j8 k hk).1, by have := (j8 k hk).2; omega⟩, j9, j10, j11, j12, j13⟩
  unfold rdR rdA at hz ⊢
  dsimp only at hz ⊢
  by_cases h32 : x = nI 32
  · rw [if_pos h32]
    rw [gw_skip (by rw [h32]; decide) (by rw [h32]; decide) (by rw [h32]; decide)]
    exact hsame c H
  rw [if_neg h32] at hz ⊢
  by_cases hp0 : ph = 0
  · subst hp0
    rw [if_pos rfl] at hz ⊢
    unfold rdN at hz ⊢
    by_cases h40 : x = nI 40
    · rw [if_pos h40] at hz ⊢
      by_cases ho : o < 23
      · rw [if_pos ho]
        have hA := gw_add (k := -1) (u := ab.toNatClampNeg) H ⟨hr1, hr2, hr3⟩ rfl rfl
        obtain ⟨a1, a2, a3, a4, a5, a6⟩ := hA
        dsimp only at a1 a2 a3 a4 a5 a6
        unfold gwS
        rw [if_pos h40]
        have hn : n ≤ 100 := by omega
        refine ⟨fun k => if k = o then n else a k, fun k => if k = o then 0 else cc k, br + 1, fun z => by simp at z, fun _ => ⟨?_, ?_⟩, fun k hk => ?_, fun k hk => ?_, a5, fun z => by simp at z, ?_, fun k hk => ?_, ?_, ?_, ?_, fun z => by simp at z, a6⟩
        · show nI n = nI (if o + 1 - 1 = o then n else _)
          rw [if_pos (by omega)]
        · show (if (0 : Nat) = o then n else a 0) = 0
          by_cases z : 0 = o
          · rw [if_pos z]; exact a2.mpr z.symm
          · rw [if_neg z]; exact (i2 (by omega)).2
        · show (if k = o then n else a k) < n + 1
          by_cases z : k = o
          · rw [if_pos z]; omega
          · rw [if_neg z]; have := i3 k (by dsimp only at hk; omega); omega
        · show (tdA n ab.toNatClampNeg (-1) D).2.1 (if k + 1 = o then n else a (k + 1)) = nI (if k = o then n else a k)
          dsimp only at hk
          rw [if_neg (show ¬ k = o by omega)]
          by_cases z : k + 1 = o
          · have hn0 : 0 < n := Nat.pos_of_ne_zero (fun y => by have := a2.mp y; omega)
            rw [if_pos z, a4 hn0, (i2 (by omega)).1, show o - 1 = k by omega, nI_clamp (by have := i3 k (by omega); omega)]
          · rw [if_neg z, a3 _ (i3 _ (by omega))]; exact i4 k (by omega)
        · show D.1 + kN (-1) = lf
          rw [show kN (-1) = 0 from if_pos rfl]; exact i7
        · show upd c o (nI 0) k = nI (if k = o then 0 else cc k) ∧ (if k = o then 0 else cc k) ≤ i + 1
          dsimp only at hk
          by_cases z : k = o
          · rw [if_pos z, z, pk_us]; exact ⟨rfl, by omega⟩
          · rw [if_neg z, pk_un z]; have := i8 k (by omega); exact ⟨this.1, by omega⟩
        · show n + 1 = br + 1 + lf
          omega
        · show o + 1 ≤ br + 1
          omega
        · show br + 1 - (o + 1) + smU (fun k => if k = o then 0 else cc k) (o + 1) + _ ≤ lf
          have e1 : smU (fun k => if k = o then 0 else cc k) (o + 1) = smU cc o := by
            show smU (fun k => if k = o then 0 else cc k) o + (if o = o then 0 else cc o) = _
            rw [if_pos rfl, smU_c o (g := cc) (fun k hk => if_neg (by omega))]; omega
          rw [e1]; dsimp only at i11 ⊢; omega
      · rw [if_neg ho] at hz; first | exact absurd (show nI 1 = 0 from hz) (by decide) | exact absurd (show nI 2 = 0 from hz) (by decide)
    · rw [if_neg h40] at hz ⊢
      by_cases hl : letP x
      · rw [if_pos hl] at hz ⊢
        by_cases h24 : lf < 24
        · rw [if_pos h24]
          obtain ⟨k0, hk0, hx0⟩ := letP_k hl
          have h41 : ¬ x = nI 41 := by
            rw [hx0]; intro y
            have := (nI_eq (by omega) (by decide)).mp y; omega
          have hA := gw_add (k := x - nI 97) (u := ab.toNatClampNeg) H ⟨hr1, hr2, hr3⟩ rfl rfl
          obtain ⟨a1, a2, a3, a4, a5, a6⟩ := hA
          dsimp only at a1 a2 a3 a4 a5 a6
          unfold gwS
          rw [if_neg h40, if_neg h41, if_pos hl]
          refine ⟨a, cc, br, i1, i2, fun k hk => ?_, fun k hk => ?_, a5, fun _ z => by simp at z, ?_, fun k hk => ⟨(i8 k hk).1, by have := (i8 k hk).2; omega⟩, ?_, i10, ?_, fun z => by simp at z, a6⟩
          · have := i3 k hk; show a k < n + 1; omega
          · show (tdA n ab.toNatClampNeg (x - nI 97) D).2.1 _ = _
            rw [a3 _ (i3 _ hk)]; exact i4 k hk
          · show D.1 + kN (x - nI 97) = lf + 1
            rw [hx0, let_sub hk0, show kN (nI k0) = 1 from if_neg (nI_m1 (by omega)), i7]
          · show n + 1 = br + (lf + 1)
            omega
          · dsimp only at i11 ⊢
            rw [if_pos rfl] at i11
            rw [if_neg (by decide)]
            omega
        · rw [if_neg h24] at hz; first | exact absurd (show nI 1 = 0 from hz) (by decide) | exact absurd (show nI 2 = 0 from hz) (by decide)
      · rw [if_neg hl] at hz; first | exact absurd (show nI 1 = 0 from hz) (by decide) | exact absurd (show nI 2 = 0 from hz) (by decide)
  rw [if_neg hp0] at hz ⊢
  by_cases hp1 : ph = 1
  · subst hp1
    rw [if_pos rfl] at hz ⊢
    by_cases ho : o = 0
    · subst ho
      rw [if_pos rfl] at hz ⊢
      unfold rdE at hz ⊢
      by_cases h59 : x = nI 59
      · rw [if_pos h59] at hz ⊢
        rw [gw_skip (by rw [h59]; decide) (by rw [h59]; decide) (by rw [h59]; decide)]
        refine ⟨a, cc, br, i1, i2, i3, i4, i5, fun _ z => by simp at z, i7, fun k hk => absurd hk (by simp), i9, i10, ?_, fun _ => rfl, i13⟩
        dsimp only at i11 ⊢
        rw [if_neg (by decide)] at i11 ⊢
        exact i11
      · rw [if_neg h59] at hz; first | exact absurd (show nI 1 = 0 from hz) (by decide) | exact absurd (show nI 2 = 0 from hz) (by decide)
    · rw [if_neg ho] at hz ⊢
      unfold rdB at hz ⊢
      by_cases h44 : x = nI 44
      · rw [if_pos h44] at hz ⊢
        rw [gw_skip (by rw [h44]; decide) (by rw [h44]; decide) (by rw [h44]; decide)]
        refine ⟨a, fun k => if k = o - 1 then cc k + 1 else cc k, br, i1, i2, i3, i4, i5, fun z => absurd z ho, i7, fun k hk => ?_, i9, i10, ?_, fun z => by simp at z, i13⟩
        · show upd c (o - 1) (c (o - 1) + nI 1) k = nI (if k = o - 1 then cc k + 1 else cc k) ∧ (if k = o - 1 then cc k + 1 else cc k) ≤ i + 1
          dsimp only at hk
          by_cases z : k = o - 1
          · rw [if_pos z, z, pk_us, (i8 (o - 1) (by omega)).1]
            exact ⟨nI_add _ 1, by have := (i8 (o - 1) (by omega)).2; omega⟩
          · rw [if_neg z, pk_un z]; have := i8 k hk; exact ⟨this.1, by omega⟩
        · show br - o + smU (fun k => if k = o - 1 then cc k + 1 else cc k) o + _ ≤ lf
          have e1 : smU (fun k => if k = o - 1 then cc k + 1 else cc k) o = smU cc o + 1 := by
            obtain ⟨o9, rfl⟩ : ∃ z, o = z + 1 := ⟨o - 1, by omega⟩
            show smU (fun k => if k = o9 + 1 - 1 then cc k + 1 else cc k) o9 + (if o9 = o9 + 1 - 1 then cc o9 + 1 else cc o9) = smU cc o9 + cc o9 + 1
            rw [if_pos (by omega), smU_c o9 (g := cc) (fun k hk => if_neg (by omega))]; omega
          rw [e1]
          rw [if_neg (by decide)] at i11
          show _ + (if (0 : Nat) = 0 then 0 else 1) ≤ lf
          rw [if_pos rfl]; omega
      · rw [if_neg h44] at hz ⊢
        by_cases h41 : x = nI 41
        · rw [if_pos h41] at hz ⊢
          by_cases hc : c (o - 1) ≤ 0
          · rw [if_pos hc] at hz; first | exact absurd (show nI 1 = 0 from hz) (by decide) | exact absurd (show nI 2 = 0 from hz) (by decide)
          · rw [if_neg hc] at hz ⊢
            have hc1 : 0 < cc (o - 1) := Nat.pos_of_ne_zero (fun z => hc (by rw [(i8 (o - 1) (by omega)).1, z]; decide))
            unfold gwS
            rw [if_neg (by rw [h41]; decide), if_pos h41]
            have hab : ab.toNatClampNeg = a (o - 1) := by
              rw [(i2 (by omega)).1, nI_clamp (by have := i3 (o - 1) (by omega); omega)]
            refine ⟨a, cc, br, fun z => ?_, fun z => ⟨?_, (i2 (by omega)).2⟩, fun k hk => i3 k (by dsimp only at hk; omega), fun k hk => i4 k (by dsimp only at hk; omega), i5, fun _ z => by simp at z, i7, fun k hk => ?_, i9, ?_, ?_, fun z => by simp at z, i13⟩
            · show D.2.1 ab.toNatClampNeg = -1
              dsimp only at z
              rw [hab, show o - 1 = 0 from z, (i2 (by omega)).2]
              exact i5 (by have := i3 0 (by omega); omega)
            · show D.2.1 ab.toNatClampNeg = nI (a (o - 1 - 1))
              dsimp only at z
              rw [hab, show o - 1 = (o - 1 - 1) + 1 by omega]
              exact i4 _ (by omega)
            · dsimp only at hk
              have := i8 k (by omega); exact ⟨this.1, by omega⟩
            · show o - 1 ≤ br
              omega
            · show br - (o - 1) + smU cc (o - 1) + _ ≤ lf
              rw [if_neg (by decide)] at i11
              have e1 : smU cc o = smU cc (o - 1) + cc (o - 1) := by
                obtain ⟨o9, rfl⟩ : ∃ z, o = z + 1 := ⟨o - 1, by omega⟩
                rfl
              show _ + (if (1 : Nat) = 0 then 0 else 1) ≤ lf
              rw [if_neg (by decide)]; omega
        · rw [if_neg h41] at hz; first | exact absurd (show nI 1 = 0 from hz) (by decide) | exact absurd (show nI 2 = 0 from hz) (by decide)
  · rw [if_neg hp1] at hz; first | exact absurd (show nI 1 = 0 from hz) (by decide) | exact absurd (show nI 2 = 0 from hz) (by decide)
theorem rdU_ok {f : Nat → Int32} {r : RdS} (h : rdOk r) : ∀ i, rdOk (rdU f r i)
  | 0 => h
  | i + 1 => rdR_ok (rdU_ok h i)
/-- no fault among the first L bytes, and a whole text -/
def noF (f : Nat → Int32) (r : RdS) (L : Nat) : Prop := (∀ i, i < L → (rdR (f i) (rdU f r i)).1 = 0) ∧ (rdU f r L).2.2.1 = 2
theorem gw_all {f : Nat → Int32} {c : Nat → Int32} {q : GT} {L : Nat} (hL : L ≤ 400) (h0 : q.1 = 0 ∧ q.2.1 = -1 ∧ q.2.2.1 = 0) (h : noF f (0, 0, 0, c) L) : ∀ i, i ≤ L → gwOk i (rdU f (0, 0, 0, c) i) (gwU f q i)
  | 0, _ => ⟨fun _ => 0, fun _ => 0, 0, fun _ => h0.2.1, fun z => absurd (show 0 < 0 from z) (by decide), fun k hk => absurd hk (by show ¬ k < 0; omega), fun k hk => absurd hk (by show ¬ k + 1 < 0; omega), fun z => absurd z (by show ¬ 0 < q.1; omega), fun _ _ => h0.1, h0.2.2, fun k hk => absurd hk (by show ¬ k < 0; omega), h0.1, Nat.le_refl _, Nat.le_refl _, fun _ => rfl, fun v h1 h2 => absurd h2 (by show ¬ v < q.1; omega)⟩
  | i + 1, hi => gwOk_step (by omega) (gw_all hL h0 h i (by omega)) (rdU_ok ⟨Nat.zero_le _, Nat.zero_le _, Nat.zero_le _⟩ i) (h.1 i (by omega))
theorem gwS_le {x : Int32} {q : GT} : q.1 ≤ (gwS x q).1 := by
  unfold gwS
  repeat' split
  all_goals (first | exact Nat.le_succ _ | exact Nat.le_refl _)
theorem gwU_le {f : Nat → Int32} {q : GT} {i L : Nat} (h : i ≤ L) : (gwU f q i).1 ≤ (gwU f q L).1 := by
  induction L with
  | zero => rw [show i = 0 by omega]; exact Nat.le_refl _
  | succ L ih =>
    by_cases hi : i = L + 1
    · rw [hi]; exact Nat.le_refl _
    · exact Nat.le_trans (ih (by omega)) gwS_le
theorem gw_47 {f : Nat → Int32} {c : Nat → Int32} {q : GT} {L : Nat} (hL : L ≤ 400) (h0 : q.1 = 0 ∧ q.2.1 = -1 ∧ q.2.2.1 = 0) (h : noF f (0, 0, 0, c) L) : 0 < (gwU f q L).1 ∧ (gwU f q L).1 ≤ 47 := by
  have hk := rdU_ok (f := f) (r := (0, 0, 0, c)) ⟨Nat.zero_le _, Nat.zero_le _, Nat.zero_le _⟩ L
  obtain ⟨a, cc, br, i1, i2, i3, i4, i5, i6, i7, i8, i9, i10, i11, i12, i13⟩ := gw_all hL h0 h L (Nat.le_refl _)
  rw [h.2, if_neg (by decide)] at i11
  have := i12 h.2
  have := hk.2.1
  omega

/-! strict, most -/
theorem bt_In {x : Int32} {s : Nat} (h : s < 12) : bt x s ↔ In s x := by
  show ¬ _ ↔ _
  rw [bt_in h]
  exact Classical.not_not
/-- both in S, more than S has: one in both -/
theorem cnt_meet {S p q : Nat → Prop} : ∀ n, (∀ s, s < n → p s → S s) → (∀ s, s < n → q s → S s) → cntU S n < cntU p n + cntU q n → ∃ s, s < n ∧ p s ∧ q s
  | 0, _, _, h => absurd h (by simp [cntU])
  | n + 1, hp, hq, h => by
    by_cases e : p n ∧ q n
    · exact ⟨n, by omega, e.1, e.2⟩
    · have ih := cnt_meet n (fun s hs => hp s (by omega)) (fun s hs => hq s (by omega))
      have key : cntU S n < cntU p n + cntU q n := by
        by_cases h1 : p n
        · have h2 : ¬ q n := fun z => e ⟨h1, z⟩
          rw [cntU_y h1, cntU_n h2, cntU_y (hp n (by omega) h1)] at h
          omega
        · by_cases h2 : q n
          · rw [cntU_n h1, cntU_y h2, cntU_y (hq n (by omega) h2)] at h
            omega
          · rw [cntU_n h1, cntU_n h2] at h
            by_cases h3 : S n
            · rw [cntU_y h3] at h; omega
            · rw [cntU_n h3] at h; exact h
      obtain ⟨s, hs, a, b⟩ := ih key
      exact ⟨s, by omega, a, b⟩
theorem cnt_ex {q : Nat → Prop} : ∀ n, 0 < cntU q n → ∃ s, s < n ∧ q s
  | 0, h => absurd h (by simp [cntU])
  | n + 1, h => by
    by_cases e : q n
    · exact ⟨n, by omega, e⟩
    · rw [cntU_n e] at h
      obtain ⟨s, hs, a⟩ := cnt_ex n h
      exact ⟨s, by omega, a⟩
theorem okR_255 {x : Int32} (h : okR 1 255 x) : Ks x ∧ bC x = nI (cntU (fun s => bt x s) 8) ∧ 0 < cntU (fun s => bt x s) 8 ∧ cntU (fun s => bt x s) 8 ≤ 8 := by
  have h0 : ¬ x < 0 := fun q => h.1 (Int32.lt_trans q (by decide))
  obtain ⟨m, hm, rfl⟩ := okI_le (n := 255) (by decide) h0 (Int32.not_lt.mp h.2)
  have hK : Ks (nI m) := n_Ks (by omega)
  have h8 : ∀ k, In k (nI m) → k < 8 := by
    intro k hk
    have : ∀ (m : Fin 256) (k : Fin 12), (nI m.val).toBitVec.getLsbD k.val = true → k.val < 8 := by decide +kernel
    exact this ⟨m, by omega⟩ ⟨k, hK k hk⟩ hk
  have e1 : pcn (nI m) = cntU (fun s => bt (nI m) s) 8 := by
    show pcF (nI m) 12 = _
    rw [pcn_sum 12, ← cnt_sm 12]
    have e2 : cntU (fun k => In k (nI m)) 12 = cntU (fun k => In k (nI m)) 8 := by
      rw [cntU_n (q := fun k => In k (nI m)) (fun z => absurd (h8 _ z) (by omega)), cntU_n (q := fun k => In k (nI m)) (fun z => absurd (h8 _ z) (by omega)), cntU_n (q := fun k => In k (nI m)) (fun z => absurd (h8 _ z) (by omega)), cntU_n (q := fun k => In k (nI m)) (fun z => absurd (h8 _ z) (by omega))]
    rw [e2]
    exact cnt_c 8 (fun s hs => (bt_In (by omega)).symm)
  refine ⟨hK, by rw [bC_pc hK, e1], ?_, cntU_le 8⟩
  have hne : ¬ nI m = 0 := fun e => h.1 (by rw [e]; decide)
  obtain ⟨k, _, hk⟩ := In_ne hne
  exact cnt_pos 8 (h8 k hk) ((bt_In (hK k hk)).mpr hk)
/-- the trees asked for are plain, with the same kinds -/
def agA (σ τ : St) (x : Int32) (n : Nat) : Prop := (∀ s, s < n → bt x s → mPl τ s) ∧ ∀ s t, s < n → t < n → bt x s → bt x t → cR σ (tS σ s) = cR σ (tS σ t)
theorem cR_ne {σ τ : St} {i : Nat} (hf : SF σ τ i) : ¬ cR σ (tS σ i) = 0 := cB_ne hf.2.2.1 hf.2.2.2.1 hf.1
theorem skR_i {σ τ : St} (h : RX σ τ) {x : Int32} : ∀ k s d, s + k ≤ 8 → (skR σ x k s d ↔ (∀ t, s ≤ t → t < s + k → bt x t → mPl τ t) ∧ (∀ t, s ≤ t → t < s + k → bt x t → ¬ d = 0 → cR σ (tS σ t) = d) ∧ ∀ t t9, s ≤ t → t < s + k → s ≤ t9 → t9 < s + k → bt x t → bt x t9 → cR σ (tS σ t) = cR σ (tS σ t9))
  | 0, s, d, _ => ⟨fun _ => ⟨fun t h1 h2 => absurd h2 (by omega), fun t h1 h2 => absurd h2 (by omega), fun t _ h1 h2 => absurd h2 (by omega)⟩, fun _ => trivial⟩
  | k + 1, s, d, hk => by
    have ih := fun d => skR_i h (x := x) k (s + 1) d (by omega)
    show ((bt x s → okP σ s ∧ ¬ (¬ d = 0 ∧ ¬ d = aK σ (tS σ s)) ∧ skR σ x k (s + 1) (aK σ (tS σ s))) ∧ (¬ bt x s → skR σ x k (s + 1) d)) ↔ _
    rw [ih, ih]
    by_cases hb : bt x s
    · constructor
      · rintro ⟨q, -⟩
        obtain ⟨q1, q2, q3, q4, q5⟩ := q hb
        have hp := (pl_eq (h.sh (show s < 8 by omega))).mp q1
        have hf := pl_SF (h.sh (show s < 8 by omega)) hp
        rw [sh_aK (h.sh (show s < 8 by omega)) hf] at q2 q4
        have hne := cR_ne hf
        have all : ∀ t, s ≤ t → t < s + (k + 1) → bt x t → cR σ (tS σ t) = cR σ (tS σ s) := fun t h1 h2 h3 => by
          by_cases e : t = s
          · rw [e]
          · exact q4 t (by omega) (by omega) h3 hne
        refine ⟨fun t h1 h2 h3 => ?_, fun t h1 h2 h3 h4 => ?_, fun t t9 h1 h2 h3 h4 h5 h6 => ?_⟩
        · by_cases e : t = s
          · rw [e]; exact hp
          · exact q3 t (by omega) (by omega) h3
        · rw [all t h1 h2 h3]
          exact Classical.byContradiction (fun z => q2 ⟨h4, fun e => z e.symm⟩)
        · rw [all t h1 h2 h5, all t9 h3 h4 h6]
      · intro ⟨q1, q2, q3⟩
        have hp := q1 s (Nat.le_refl _) (by omega) hb
        have hf := pl_SF (h.sh (show s < 8 by omega)) hp
        refine ⟨fun _ => ⟨(pl_eq (h.sh (show s < 8 by omega))).mpr hp, ?_, fun t h1 h2 h3 => q1 t (by omega) (by omega) h3, fun t h1 h2 h3 h4 => ?_, fun t t9 h1 h2 h3 h4 h5 h6 => q3 t t9 (by omega) (by omega) (by omega) (by omega) h5 h6⟩, fun z => absurd hb z⟩
        · rw [sh_aK (h.sh (show s < 8 by omega)) hf]
          intro ⟨z1, z2⟩
          exact z2 (q2 s (Nat.le_refl _) (by omega) hb z1).symm
        · rw [sh_aK (h.sh (show s < 8 by omega)) hf]
          exact q3 t s (by omega) (by omega) (Nat.le_refl _) (by omega) h3 hb
    · constructor
      · rintro ⟨-, q⟩
        obtain ⟨q1, q2, q3⟩ := q hb
        have hne : ∀ t, bt x t → ¬ t = s := fun t h1 e => hb (by rw [← e]; exact h1)
        refine ⟨fun t h1 h2 h3 => q1 t (by have := hne t h3; omega) (by omega) h3, fun t h1 h2 h3 => q2 t (by have := hne t h3; omega) (by omega) h3, fun t t9 h1 h2 h3 h4 h5 h6 => q3 t t9 (by have := hne t h5; omega) (by omega) (by have := hne t9 h6; omega) (by omega) h5 h6⟩
      · intro ⟨q1, q2, q3⟩
        exact ⟨fun z => absurd z hb, fun _ => ⟨fun t h1 h2 h3 => q1 t (by omega) (by omega) h3, fun t h1 h2 h3 => q2 t (by omega) (by omega) h3, fun t t9 h1 h2 h3 h4 h5 h6 => q3 t t9 (by omega) (by omega) (by omega) (by omega) h5 h6⟩⟩
theorem sk_ag {σ τ : St} (h : RX σ τ) {x : Int32} : skA σ x ↔ agA σ τ x 8 := by
  show skR σ x 8 0 (nI 0) ↔ _
  rw [skR_i h 8 0 (nI 0) (by omega)]
  constructor
  · intro ⟨a, _, c⟩
    exact ⟨fun s hs => a s (by omega) (by omega), fun s t hs ht => c s t (by omega) (by omega) (by omega) (by omega)⟩
  · intro ⟨a, c⟩
    exact ⟨fun s _ hs => a s (by omega), fun _ _ _ _ z => absurd rfl z, fun s t _ hs _ ht => c s t (by omega) (by omega)⟩
theorem mskS_i {σ τ : St} (h : RX σ τ) {x : Int32} : ∀ n, n ≤ 8 → agA σ τ x n → (∀ s, s < n → bt x s → mskS τ x n = cR σ (tS σ s)) ∧ ((∀ s, s < n → ¬ bt x s) → mskS τ x n = 0)
  | 0, _, _ => ⟨fun s hs => absurd hs (by omega), fun _ => rfl⟩
  | n + 1, hn, hA => by
    obtain ⟨a, b⟩ := mskS_i h (x := x) n (by omega) ⟨fun s hs => hA.1 s (by omega), fun s t hs ht => hA.2 s t (by omega) (by omega)⟩
    have e : mskS τ x (n + 1) = if bt x n then mKs τ n else mskS τ x n := rfl
    rw [e]
    by_cases hb : bt x n
    · rw [if_pos hb, sh_mKs (h.sh (show n < 8 by omega)) (pl_SF (h.sh (show n < 8 by omega)) (hA.1 n (by omega) hb))]
      exact ⟨fun s hs hs2 => hA.2 n s (by omega) hs hb hs2, fun z => absurd hb (z n (by omega))⟩
    · rw [if_neg hb]
      refine ⟨fun s hs hs2 => a s ?_ hs2, fun z => b (fun s hs => z s (by omega))⟩
      have : ¬ s = n := fun e => hb (by rw [← e]; exact hs2)
      omega
theorem msk_ag {σ τ : St} (h : RX σ τ) {x : Int32} : ∀ n, n ≤ 8 → (mskG τ x n ↔ agA σ τ x n)
  | 0, _ => ⟨fun _ => ⟨fun s hs => absurd hs (by omega), fun s t hs => absurd hs (by omega)⟩, fun _ => trivial⟩
  | n + 1, hn => by
    have ih := msk_ag h (x := x) n (by omega)
    show ((bt x n → mskG τ x n ∧ mPl τ n ∧ (mskS τ x n = 0 ∨ mKs τ n = mskS τ x n)) ∧ (¬ bt x n → mskG τ x n)) ↔ _
    rw [ih]
    by_cases hb : bt x n
    · constructor
      · rintro ⟨q, -⟩
        obtain ⟨q1, q2, q3⟩ := q hb
        have hf := pl_SF (h.sh (show n < 8 by omega)) q2
        obtain ⟨a, b⟩ := mskS_i h n (by omega) q1
        rw [sh_mKs (h.sh (show n < 8 by omega)) hf] at q3
        have all : ∀ s, s < n → bt x s → cR σ (tS σ s) = cR σ (tS σ n) := fun s hs hs2 => by
          have e := a s hs hs2
          rcases q3 with z | z
          · rw [z] at e
            exact absurd e.symm (cR_ne (pl_SF (h.sh (show s < 8 by omega)) (q1.1 s hs hs2)))
          · rw [z, e]
        refine ⟨fun s hs hs2 => ?_, fun s t hs ht hs2 ht2 => ?_⟩
        · by_cases e : s = n
          · rw [e]; exact q2
          · exact q1.1 s (by omega) hs2
        · have : ∀ s, s < n + 1 → bt x s → cR σ (tS σ s) = cR σ (tS σ n) := fun s hs hs2 => by
            by_cases e : s = n
            · rw [e]
            · exact all s (by omega) hs2
          rw [this s hs hs2, this t ht ht2]
      · intro q
        have q1 : agA σ τ x n := ⟨fun s hs => q.1 s (by omega), fun s t hs ht => q.2 s t (by omega) (by omega)⟩
        have q2 := q.1 n (by omega) hb
        refine ⟨fun _ => ⟨q1, q2, ?_⟩, fun z => absurd hb z⟩
        obtain ⟨a, b⟩ := mskS_i h n (by omega) q1
        rw [sh_mKs (h.sh (show n < 8 by omega)) (pl_SF (h.sh (show n < 8 by omega)) q2)]
        by_cases z : ∃ s, s < n ∧ bt x s
        · obtain ⟨s, hs, hs2⟩ := z
          right
          rw [a s hs hs2]
          exact q.2 n s (by omega) (by omega) hb hs2
        · left
          exact b (fun s hs hs2 => z ⟨s, hs, hs2⟩)
    · constructor
      · rintro ⟨-, q⟩
        have q1 := q hb
        have hne : ∀ t, bt x t → ¬ t = n := fun t h1 e => hb (by rw [← e]; exact h1)
        exact ⟨fun s hs hs2 => q1.1 s (by have := hne s hs2; omega) hs2, fun s t hs ht hs2 ht2 => q1.2 s t (by have := hne s hs2; omega) (by have := hne t ht2; omega) hs2 ht2⟩
      · intro q
        exact ⟨fun z => absurd z hb, fun _ => ⟨fun s hs => q.1 s (by omega), fun s t hs ht => q.2 s t (by omega) (by omega)⟩⟩
/-- how many of the trees asked for have y -/
noncomputable abbrev hoC (σ : St) (x y : Int32) : Nat := cntU (fun s => bt x s ∧ CMs σ (tS σ s) y) 8
theorem ho_c {σ τ : St} (h : RX σ τ) {x y : Int32} : hoN σ x y = hoC σ x y := cnt_c 8 (fun s hs => and_congr Iff.rfl ((sh_mem (h.sh hs) y).symm))
theorem ho_m {σ τ : St} (h : RX σ τ) {x y : Int32} (hA : agA σ τ x 8) : mhoN τ x y = hoC σ x y := cnt_c 8 (fun s hs => by
  constructor
  · intro ⟨a, b⟩; exact ⟨a, (sh_mem9 (h.sh hs) (pl_SF (h.sh hs) (hA.1 s hs a)) y).mpr b⟩
  · intro ⟨a, b⟩; exact ⟨a, (sh_mem9 (h.sh hs) (pl_SF (h.sh hs) (hA.1 s hs a)) y).mp b⟩)
/-- the sets that q of the trees have -/
abbrev agM (σ : St) (x : Int32) (q : Nat) : Int32 → Prop := fun y => q ≤ hoC σ x y
theorem gsI_sp {σ : St} {x q : Int32} {s : Nat} {M : Int32 → Prop} (hF : Few M) {F : Fam} (h0 : FI M F) : ∀ v, (∀ u, u < v → Ks (tC σ (tS σ s) u) ∧ (q ≤ nI (hoN σ x (tC σ (tS σ s) u)) → M (tC σ (tS σ s) u))) → FI M (gsI σ x q s F v) ∧ ∀ y, Mem (gsI σ x q s F v).2 (gsI σ x q s F v).1 y ↔ Mem F.2 F.1 y ∨ ∃ u, u < v ∧ y = tC σ (tS σ s) u ∧ q ≤ nI (hoN σ x y) ∧ ¬ y = 0
  | 0, _ => ⟨h0, fun y => ⟨Or.inl, fun z => z.elim id (fun ⟨u, h, _⟩ => absurd h (by omega))⟩⟩
  | v + 1, h => by
    obtain ⟨a, b⟩ := gsI_sp (x := x) (q := q) (s := s) hF h0 v (fun u hu => h u (by omega))
    have e : gsI σ x q s F (v + 1) = cI (q ≤ nI (hoN σ x (tC σ (tS σ s) v))) (addF (gsI σ x q s F v) (tC σ (tS σ s) v)) (gsI σ x q s F v) := rfl
    by_cases hc : q ≤ nI (hoN σ x (tC σ (tS σ s) v))
    · rw [e, cI_t hc]
      obtain ⟨a2, b2⟩ := FI_add hF a (h v (by omega)).1 (fun _ => (h v (by omega)).2 hc)
      refine ⟨a2, fun y => ?_⟩
      rw [b2 y, b y]
      constructor
      · rintro ((z | ⟨u, hu, q1⟩) | ⟨rfl, hn⟩)
        · exact Or.inl z
        · exact Or.inr ⟨u, by omega, q1⟩
        · exact Or.inr ⟨v, by omega, rfl, hc, hn⟩
      · rintro (z | ⟨u, hu, q1, q2, q3⟩)
        · exact Or.inl (Or.inl z)
        · by_cases e2 : u = v
          · subst e2; exact Or.inr ⟨q1, by rw [← q1]; exact q3⟩
          · exact Or.inl (Or.inr ⟨u, by omega, q1, q2, q3⟩)
    · rw [e, cI_f hc]
      refine ⟨a, fun y => ?_⟩
      rw [b y]
      constructor
      · rintro (z | ⟨u, hu, q1⟩)
        · exact Or.inl z
        · exact Or.inr ⟨u, by omega, q1⟩
      · rintro (z | ⟨u, hu, q1, q2, q3⟩)
        · exact Or.inl z
        · by_cases e2 : u = v
          · subst e2; rw [q1] at q2; exact absurd q2 hc
          · exact Or.inr ⟨u, by omega, q1, q2, q3⟩
theorem gsO_sp {σ : St} {x q : Int32} {M : Int32 → Prop} (hF : Few M) {F : Fam} (h0 : FI M F) : ∀ n, (∀ s u, s < n → bt x s → u < nn σ (tS σ s) → Ks (tC σ (tS σ s) u) ∧ (q ≤ nI (hoN σ x (tC σ (tS σ s) u)) → M (tC σ (tS σ s) u))) → FI M (gsO σ x q F n) ∧ ∀ y, Mem (gsO σ x q F n).2 (gsO σ x q F n).1 y ↔ Mem F.2 F.1 y ∨ ∃ s u, s < n ∧ bt x s ∧ u < nn σ (tS σ s) ∧ y = tC σ (tS σ s) u ∧ q ≤ nI (hoN σ x y) ∧ ¬ y = 0
  | 0, _ => ⟨h0, fun y => ⟨Or.inl, fun z => z.elim id (fun ⟨s, _, h, _⟩ => absurd h (by omega))⟩⟩
  | n + 1, h => by
    obtain ⟨a, b⟩ := gsO_sp (x := x) (q := q) hF h0 n (fun s u hs => h s u (by omega))
    have e : gsO σ x q F (n + 1) = cI (bt x n) (gsI σ x q n (gsO σ x q F n) (nn σ (tS σ n))) (gsO σ x q F n) := rfl
    by_cases hb : bt x n
    · rw [e, cI_t hb]
      obtain ⟨a2, b2⟩ := gsI_sp (x := x) (q := q) (s := n) hF a (nn σ (tS σ n)) (fun u hu => h n u (by omega) hb hu)
      refine ⟨a2, fun y => ?_⟩
      rw [b2 y, b y]
      constructor
      · rintro ((z | ⟨s, u, hs, q1⟩) | ⟨u, hu, q1⟩)
        · exact Or.inl z
        · exact Or.inr ⟨s, u, by omega, q1⟩
        · exact Or.inr ⟨n, u, by omega, hb, hu, q1⟩
      · rintro (z | ⟨s, u, hs, q1, q2, q3⟩)
        · exact Or.inl (Or.inl z)
        · by_cases e2 : s = n
          · subst e2; exact Or.inr ⟨u, q2, q3⟩
          · exact Or.inl (Or.inr ⟨s, u, by omega, q1, q2, q3⟩)
    · rw [e, cI_f hb]
      refine ⟨a, fun y => ?_⟩
      rw [b y]
      constructor
      · rintro (z | ⟨s, u, hs, q1⟩)
        · exact Or.inl z
        · exact Or.inr ⟨s, u, by omega, q1⟩
      · rintro (z | ⟨s, u, hs, q1, q2⟩)
        · exact Or.inl z
        · have : ¬ s = n := fun e => hb (by rw [← e]; exact q1)
          exact Or.inr ⟨s, u, by omega, q1, q2⟩
theorem magF_sp {τ : St} {x : Int32} {al : Nat} : ∀ v, v ≤ 4095 → UL (magF τ x al v).2 (magF τ x al v).1 ∧ ∀ y, Mem (magF τ x al v).2 (magF τ x al v).1 y ↔ ∃ w, 0 < w ∧ w ≤ v ∧ y = nI w ∧ magQ τ x al w
  | 0, _ => ⟨UL_0 _, fun y => ⟨fun z => absurd z mem_0, fun ⟨w, h1, h2, _⟩ => absurd h2 (by omega)⟩⟩
  | v + 1, hv => by
    obtain ⟨a, b⟩ := magF_sp (τ := τ) (x := x) (al := al) v (by omega)
    have e : magF τ x al (v + 1) = cI (magQ τ x al (v + 1)) (maA (magF τ x al v) (nI (v + 1))) (magF τ x al v) := rfl
    by_cases hc : magQ τ x al (v + 1)
    · rw [e, cI_t hc]
      refine ⟨UL_maA a (n_Ks (by omega)), fun y => ?_⟩
      rw [mem_maA, b y]
      constructor
      · rintro (⟨w, h1, h2, q⟩ | ⟨rfl, _⟩)
        · exact ⟨w, h1, by omega, q⟩
        · exact ⟨v + 1, by omega, Nat.le_refl _, rfl, hc⟩
      · rintro ⟨w, h1, h2, q1, q2⟩
        by_cases e2 : w = v + 1
        · subst e2; exact Or.inr ⟨q1, fun z => by have := (z_eq (by omega)).mp z; omega⟩
        · exact Or.inl ⟨w, h1, by omega, q1, q2⟩
    · rw [e, cI_f hc]
      refine ⟨a, fun y => ?_⟩
      rw [b y]
      constructor
      · rintro ⟨w, h1, h2, q⟩; exact ⟨w, h1, by omega, q⟩
      · rintro ⟨w, h1, h2, q1, q2⟩
        by_cases e2 : w = v + 1
        · subst e2; exact absurd q2 hc
        · exact ⟨w, h1, by omega, q1, q2⟩
/-- q: how many are asked for; the reference's al -/
theorem ag_sp {σ τ : St} (h : RX σ τ) {x : Int32} (hx : okR 1 255 x) (hA : agA σ τ x 8) {q al : Nat} (hq : q ≤ cntU (fun s => bt x s) 8) (hq2 : cntU (fun s => bt x s) 8 < 2 * q)
    (hal : ∀ n, n ≤ 8 → ((if al = 1 then nI n = bC x else bC x < nI (2 * n)) ↔ q ≤ n) ∨ cntU (fun s => bt x s) 8 < n) :
    ∃ r, GM (agM σ x q) r ∧ (MemIs (smF σ x (nI q)).2 (smF σ x (nI q)).1 (agM σ x q) ∧ SL (smF σ x (nI q)).2 (smF σ x (nI q)).1) ∧ MemIs (magF τ x al 4095).2 (magF τ x al 4095).1 (agM σ x q) ∧ UL (magF τ x al 4095).2 (magF τ x al 4095).1 ∧ ∀ v, v < 4096 → (magF τ x al v).1 ≤ 23 := by
  obtain ⟨hK, hbc, hpos, h8⟩ := okR_255 hx
  obtain ⟨s0, hs0, hb0⟩ := cnt_ex 8 hpos
  have hp0 := hA.1 s0 hs0 hb0
  have hgs : ∀ s, s < 8 → bt x s → GM (CMs σ (tS σ s)) (cR σ (tS σ s0)) := fun s hs hb => by
    rw [hA.2 s0 s hs0 hs hb0 hb]
    exact pl_gm (h.sh hs) (hA.1 s hs hb)
  have hle : ∀ y, hoC σ x y ≤ cntU (fun s => bt x s) 8 := fun y => cnt_mono 8 (fun s _ z => z.1)
  have hgm : GM (agM σ x q) (cR σ (tS σ s0)) := by
    refine GM_sub (S := fun s => s < 8 ∧ bt x s) (M := fun s => CMs σ (tS σ s)) ⟨s0, hs0, hb0⟩ (fun s hs => hgs s hs.1 hs.2) (fun y hy => ?_) (fun y y9 hy hy9 => ?_)
    · show q ≤ hoC σ x y
      have : hoC σ x y = cntU (fun s => bt x s) 8 := cnt_c 8 (fun s hs => ⟨fun z => z.1, fun z => ⟨z, hy s ⟨hs, z⟩⟩⟩)
      omega
    · have h1 : q ≤ hoC σ x y := hy
      have h2 : q ≤ hoC σ x y9 := hy9
      obtain ⟨s, hs, a, b⟩ := cnt_meet (S := fun s => bt x s) (p := fun s => bt x s ∧ CMs σ (tS σ s) y) (q := fun s => bt x s ∧ CMs σ (tS σ s) y9) 8 (fun s _ z => z.1) (fun s _ z => z.1) (by show _ < hoC σ x y + hoC σ x y9; omega)
      exact ⟨s, ⟨hs, a.1⟩, a.2, b.2⟩
  have hsomeone : ∀ y, agM σ x q y → ∃ s, s < 8 ∧ bt x s ∧ CMs σ (tS σ s) y := fun y hy => by
    have h1 : q ≤ hoC σ x y := hy
    obtain ⟨s, hs, a⟩ := cnt_ex 8 (show 0 < hoC σ x y by omega)
    exact ⟨s, hs, a⟩
  have hS8 : mskS τ x 8 = cR σ (tS σ s0) := (mskS_i h 8 (Nat.le_refl _) hA).1 s0 hs0 hb0
  have hmag : ∀ w, magQ τ x al w ↔ Sb (nI w) (cR σ (tS σ s0)) ∧ agM σ x q (nI w) := fun w => by
    show (nI w &&& (mskS τ x 8 ^^^ (-1)) = 0 ∧ (if al = 1 then nI (mhoN τ x (nI w)) = bC x else bC x < nI (2 * mhoN τ x (nI w)))) ↔ _
    rw [hS8, sb_not, ho_m h hA]
    have h1 := hle (nI w)
    rcases hal (hoC σ x (nI w)) (by omega) with z | z
    · rw [z]
    · omega
  obtain ⟨u1, u2⟩ := magF_sp (τ := τ) (x := x) (al := al) 4095 (by omega)
  have m9 : MemIs (magF τ x al 4095).2 (magF τ x al 4095).1 (agM σ x q) := fun y => by
    rw [u2 y]
    constructor
    · intro hy
      have hyr := hgm.2.2.1 y hy
      obtain ⟨w, hw, e⟩ := Ks_n (GM_K hgm hy)
      refine ⟨w, ?_, by omega, e, (hmag w).mpr ⟨by rw [← e]; exact hyr.1, by rw [← e]; exact hy⟩⟩
      rcases Nat.eq_zero_or_pos w with z | z
      · exact absurd (by rw [e, z]; rfl) hyr.2
      · exact z
    · rintro ⟨w, _, _, e, hm⟩
      rw [e]; exact ((hmag w).mp hm).2
  have hfew : Few (agM σ x q) := ⟨_, _, (ul_few hgm m9 u1).1, m9⟩
  have hKt : ∀ s u, s < 8 → bt x s → u < nn σ (tS σ s) → CMs σ (tS σ s) (tC σ (tS σ s) u) := fun s u hs hb hu => (sh_mem (h.sh hs) _).mpr ⟨u, hu, rfl⟩
  have hqn : ∀ y, nI q ≤ nI (hoN σ x y) ↔ agM σ x q y := fun y => by
    have h1 := hle y
    rw [ho_c h, nI_leI (by omega) (by omega)]
  obtain ⟨v1, v2⟩ := gsO_sp (x := x) (q := nI q) hfew (F := (0, iA σ 42)) (FI_0 _) 8 (fun s u hs hb hu => ⟨GM_K (hgs s hs hb) (hKt s u hs hb hu), fun z => (hqn _).mp z⟩)
  refine ⟨cR σ (tS σ s0), hgm, ⟨fun y => ?_, v1.1⟩, m9, u1, fun v hv => ?_⟩
  · rw [v2 y]
    constructor
    · intro hy
      obtain ⟨s, hs, hb, hc⟩ := hsomeone y hy
      obtain ⟨u, hu, e⟩ := (sh_mem (h.sh hs) y).mp hc
      exact Or.inr ⟨s, u, hs, hb, hu, e.symm, (hqn y).mpr hy, (hgm.2.2.1 y hy).2⟩
    · rintro (z | ⟨s, u, hs, hb, hu, e, hy, _⟩)
      · exact absurd z mem_0
      · exact (hqn y).mp hy
  · obtain ⟨w1, w2⟩ := magF_sp (τ := τ) (x := x) (al := al) v (by omega)
    refine few_le hfew w1.2 (fun y hy => ?_)
    obtain ⟨w, _, _, e, hm⟩ := (w2 y).mp hy
    rw [e]; exact ((hmag w).mp hm).2
theorem al_1 {x : Int32} (hx : okR 1 255 x) : ∀ n, n ≤ 8 → ((if (1 : Nat) = 1 then nI n = bC x else bC x < nI (2 * n)) ↔ cntU (fun s => bt x s) 8 ≤ n) ∨ cntU (fun s => bt x s) 8 < n := by
  obtain ⟨hK, hbc, hpos, h8⟩ := okR_255 hx
  intro n hn
  by_cases z : cntU (fun s => bt x s) 8 < n
  · exact Or.inr z
  · left
    rw [if_pos rfl, hbc, nI_eq (by omega) (by omega)]
    constructor <;> intro _ <;> omega
theorem al_0 {x : Int32} (hx : okR 1 255 x) : ∀ n, n ≤ 8 → ((if (0 : Nat) = 1 then nI n = bC x else bC x < nI (2 * n)) ↔ cntU (fun s => bt x s) 8 / 2 + 1 ≤ n) ∨ cntU (fun s => bt x s) 8 < n := by
  obtain ⟨hK, hbc, hpos, h8⟩ := okR_255 hx
  intro n hn
  left
  rw [if_neg (by decide), hbc, nI_ltI (by omega) (by omega)]
  constructor <;> intro _ <;> omega
theorem half8 : ∀ n : Fin 9, nI n.val / nI 2 + nI 1 = nI (n.val / 2 + 1) := by decide +kernel
theorem st_sp {σ τ : St} (h : RX σ τ) {x : Int32} (hx : okR 1 255 x) (hA : agA σ τ x 8) : ∃ M r, GM M r ∧ (MemIs (smF σ x (bC x)).2 (smF σ x (bC x)).1 M ∧ SL (smF σ x (bC x)).2 (smF σ x (bC x)).1) ∧ MemIs (magF τ x 1 4095).2 (magF τ x 1 4095).1 M ∧ UL (magF τ x 1 4095).2 (magF τ x 1 4095).1 ∧ ∀ v, v < 4096 → (magF τ x 1 v).1 ≤ 23 := by
  obtain ⟨hK, hbc, hpos, h8⟩ := okR_255 hx
  obtain ⟨r, z⟩ := ag_sp h hx hA (q := cntU (fun s => bt x s) 8) (al := 1) (Nat.le_refl _) (by omega) (al_1 hx)
  rw [← hbc] at z
  exact ⟨_, r, z⟩
theorem mo_sp {σ τ : St} (h : RX σ τ) {x : Int32} (hx : okR 1 255 x) (hA : agA σ τ x 8) : ∃ M r, GM M r ∧ (MemIs (smF σ x (bC x / nI 2 + nI 1)).2 (smF σ x (bC x / nI 2 + nI 1)).1 M ∧ SL (smF σ x (bC x / nI 2 + nI 1)).2 (smF σ x (bC x / nI 2 + nI 1)).1) ∧ MemIs (magF τ x 0 4095).2 (magF τ x 0 4095).1 M ∧ UL (magF τ x 0 4095).2 (magF τ x 0 4095).1 ∧ ∀ v, v < 4096 → (magF τ x 0 v).1 ≤ 23 := by
  obtain ⟨hK, hbc, hpos, h8⟩ := okR_255 hx
  obtain ⟨r, z⟩ := ag_sp h hx hA (q := cntU (fun s => bt x s) 8 / 2 + 1) (al := 0) (by omega) (by omega) (al_0 hx)
  rw [← half8 ⟨cntU (fun s => bt x s) 8, by omega⟩, ← hbc] at z
  exact ⟨_, r, z⟩
abbrev exMost : List (String × Nat) := [(xIOB, 1), (xIAE, 2), (xISE, 3)]
theorem s_agree {σ τ : St} (h : RX σ τ) (x u q : Int32) (al : Nat) (hsp : okR 1 255 x → agA σ τ x 8 → ∃ M r, GM M r ∧ (MemIs (smF σ x q).2 (smF σ x q).1 M ∧ SL (smF σ x q).2 (smF σ x q).1) ∧ MemIs (magF τ x al 4095).2 (magF τ x al 4095).1 M ∧ UL (magF τ x al 4095).2 (magF τ x al 4095).1 ∧ ∀ v, v < 4096 → (magF τ x al v).1 ≤ 23) :
    ((okR 1 255 x → skA σ x → famG (smF σ x q)) ∧ (∀ v, v < 4096 → okR 1 255 x → mskG τ x 8 → (magF τ x al v).1 < 400) ∧ (okR 1 255 x → mskG τ x 8 → 0 < (magF τ x al 4095).1 ∧ (magF τ x al 4095).1 ≤ 47)) ∧
    SX exMost (fun r σ9 => ∃ k, k < 8 ∧ u = nI k ∧ okR 1 255 x ∧ skA σ x ∧ σ9 = sfS σ (smF σ x q) k ∧ r = tN σ9 (tS σ9 k)) (fun E σ9 => σ9 = σ ∧ smX σ x u E) (magP τ x u al) σ τ := by
  refine ⟨⟨fun hx hs => ?_, fun v hv hx hs => ?_, fun hx hs => ?_⟩, ?_, ?_⟩
  · obtain ⟨M, r, a, ⟨b1, b2⟩, c1, c2, -⟩ := hsp hx ((sk_ag h).mp hs)
    exact (grow_fam h.tre a b1 b2 c1 c2).1
  · obtain ⟨M, r, a, ⟨b1, b2⟩, c1, c2, d⟩ := hsp hx ((msk_ag h 8 (Nat.le_refl _)).mp hs)
    have := d v hv
    omega
  · obtain ⟨M, r, a, ⟨b1, b2⟩, c1, c2, d⟩ := hsp hx ((msk_ag h 8 (Nat.le_refl _)).mp hs)
    have := grow_fam h.tre a b1 b2 c1 c2
    exact ⟨this.2.1, by omega⟩
  · rintro r σ8 ⟨k, hk, rfl, hx, hs, rfl, rfl⟩
    have hA := (sk_ag h).mp hs
    obtain ⟨M, r, a, ⟨b1, b2⟩, c1, c2, -⟩ := hsp hx hA
    obtain ⟨-, -, -, hnn, hgr⟩ := grow_fam h.tre a b1 b2 c1 c2
    refine ⟨(hgr k hk σ τ tAg.rf rfl rfl rfl).2.2.2, ?_⟩
    rintro b τ9 (⟨hn, -⟩ | ⟨-, hn, -⟩ | ⟨k9, hk9, e, -, (⟨hn, -⟩ | ⟨-, ⟨g, rfl⟩, rfl⟩)⟩)
    · exact absurd ⟨k, hk, rfl⟩ hn
    · exact absurd hx hn
    · exact absurd ((msk_ag h 8 (Nat.le_refl _)).mpr hA) hn
    · have := (nI8 hk hk9).mp e
      subst this
      have hgr2 := hgr k hk σ (sI (mT τ 0) 12 g) tAg.rf rfl rfl rfl
      refine ⟨puS_c (cAg_t.I (by omega)), mT_t (τ := τ), ?_, RX_fam h (RX_7 (RX_12 h)) hk hgr2.1⟩
      rw [hgr2.2.1, hnn]
  · rintro E σ8 ⟨rfl, (⟨rfl, hn⟩ | ⟨rfl, ho, hn⟩ | ⟨rfl, ho, hx, hn⟩)⟩
    · refine SX_no h (c := 1) (by decide) ?_
      rintro b τ9 (⟨-, rfl⟩ | ⟨ho, -⟩ | ⟨k9, hk9, e, -⟩)
      · rfl
      · exact absurd ho hn
      · exact absurd ⟨k9, hk9, e⟩ hn
    · refine SX_no h (c := 2) (by decide) ?_
      rintro b τ9 (⟨hn9, -⟩ | ⟨-, -, rfl⟩ | ⟨k9, hk9, e, hx, -⟩)
      · exact absurd ho hn9
      · rfl
      · exact absurd hx hn
    · refine SX_no h (c := 3) (by decide) ?_
      rintro b τ9 (⟨hn9, -⟩ | ⟨-, hn9, -⟩ | ⟨k9, hk9, e, -, (⟨-, rfl⟩ | ⟨hm, -⟩)⟩)
      · exact absurd ho hn9
      · exact absurd hx hn9
      · rfl
      · exact absurd ((sk_ag h).mpr ((msk_ag h 8 (Nat.le_refl _)).mp hm)) hn
theorem s_strict {σ τ : St} (h : RX σ τ) (x u : Int32) : ((okR 1 255 x → skA σ x → famG (smF σ x (bC x))) ∧ (∀ v, v < 4096 → okR 1 255 x → mskG τ x 8 → (magF τ x 1 v).1 < 400) ∧ (okR 1 255 x → mskG τ x 8 → 0 < (magF τ x 1 4095).1 ∧ (magF τ x 1 4095).1 ≤ 47)) ∧
    SX exMost (fun r σ9 => ∃ k, k < 8 ∧ u = nI k ∧ okR 1 255 x ∧ skA σ x ∧ σ9 = sfS σ (smF σ x (bC x)) k ∧ r = tN σ9 (tS σ9 k)) (fun E σ9 => σ9 = σ ∧ smX σ x u E) (magP τ x u 1) σ τ := s_agree h x u (bC x) 1 (fun hx hA => st_sp h hx hA)
theorem s_most {σ τ : St} (h : RX σ τ) (x u : Int32) : ((okR 1 255 x → skA σ x → famG (smF σ x (bC x / nI 2 + nI 1))) ∧ (∀ v, v < 4096 → okR 1 255 x → mskG τ x 8 → (magF τ x 0 v).1 < 400) ∧ (okR 1 255 x → mskG τ x 8 → 0 < (magF τ x 0 4095).1 ∧ (magF τ x 0 4095).1 ≤ 47)) ∧
    SX exMost (fun r σ9 => ∃ k, k < 8 ∧ u = nI k ∧ okR 1 255 x ∧ skA σ x ∧ σ9 = sfS σ (smF σ x (bC x / nI 2 + nI 1)) k ∧ r = tN σ9 (tS σ9 k)) (fun E σ9 => σ9 = σ ∧ smX σ x u E) (magP τ x u 0) σ τ := s_agree h x u (bC x / nI 2 + nI 1) 0 (fun hx hA => mo_sp h hx hA)

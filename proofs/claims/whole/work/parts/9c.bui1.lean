/-! Joining triples: parts -/
theorem pc_split {x y : Int32} (h : Sb x y) : pcn y = pcn x + pcn (y &&& (x ^^^ (-1))) := by
  show pcF y 12 = pcF x 12 + pcF (y &&& (x ^^^ (-1))) 12
  rw [pcn_sum 12, pcn_sum 12, pcn_sum 12, ← sumU_add]
  refine sumU_c 12 (fun k hk => ?_)
  by_cases h1 : In k x
  · rw [cI_t (h k h1), cI_t h1, cI_f (fun z => (In_not.mp (In_and.mp z).2).2 h1)]
  · by_cases h2 : In k y
    · rw [cI_t h2, cI_f h1, cI_t (In_and.mpr ⟨h2, In_not.mpr ⟨In_32 h2, h1⟩⟩)]
    · rw [cI_f h2, cI_f h1, cI_f (fun z => h2 (In_and.mp z).1)]
theorem pc_pos {x : Int32} (hK : Ks x) (h : ¬ x = 0) : 0 < pcn x := by
  obtain ⟨k, _, hk⟩ := In_ne h
  show 0 < pcF x 12
  rw [pcn_sum 12, ← cnt_sm 12]
  exact cnt_pos 12 (hK k hk) hk
theorem pc_1 {x : Int32} (hK : Ks x) (h : pcn x = 1) : ∃ k, k < 12 ∧ x = bitI k := by
  have hn : ¬ x = 0 := fun e => by rw [e] at h; exact absurd h (by decide)
  obtain ⟨k, _, hk⟩ := In_ne hn
  have hk12 := hK k hk
  refine ⟨k, hk12, (pc_eq hK (x := bitI k) (fun j hj => by rw [(In_bit hk12).mp hj]; exact hk) ?_).symm⟩
  have : ∀ k : Fin 12, pcn (bitI k.val) = 1 := by
    intro k
    show pcF (bitI k.val) 12 = 1
    rw [pcn_sum 12]
    have e : sumU (fun j => cI (In j (bitI k.val)) 1 0) 12 = sumU (fun j => if j = k.val then 1 else 0) 12 := sumU_c 12 (fun j _ => by
      by_cases z : j = k.val
      · rw [cI_t ((In_bit k.isLt).mpr z), if_pos z]
      · rw [cI_f (fun w => z ((In_bit k.isLt).mp w)), if_neg z])
    rw [e]; exact sumU_one 12 k.isLt
  rw [h]; exact this ⟨k, hk12⟩
theorem pc_bit {k : Nat} (hk : k < 12) : pcn (bitI k) = 1 := by
  have hK : Ks (bitI k) := fun j hj => by rw [(In_bit hk).mp hj]; exact hk
  have h1 : 0 < pcn (bitI k) := pc_pos hK (fun e => by have := (In_bit (j := k) hk).mpr rfl; rw [e] at this; exact In_0 this)
  have h2 : pcn (bitI k) ≤ 1 := by
    show pcF (bitI k) 12 ≤ 1
    rw [pcn_sum 12]
    have e : sumU (fun j => cI (In j (bitI k)) 1 0) 12 = sumU (fun j => if j = k then 1 else 0) 12 := sumU_c 12 (fun j _ => by
      by_cases z : j = k
      · rw [cI_t ((In_bit hk).mpr z), if_pos z]
      · rw [cI_f (fun w => z ((In_bit hk).mp w)), if_neg z])
    rw [e, sumU_one 12 hk]; exact Nat.le_refl _
  omega
section parts
variable {τ : St} {z : Nat}
/-- a triple with its pair in A has all of it there -/
def clo (τ : St) (z : Nat) (s A : Int32) : Prop := ∀ t, t < z → Sb (mp3 τ t) s → (∃ k, In k (mp2 τ t) ∧ In k A) → Sb (mp2 τ t) A
theorem mp23 {t : Nat} : Sb (mp2 τ t) (mp3 τ t) := fun _ h => In_or.mpr (Or.inl h)
theorem mpS_y {x q : Int32} {t : Nat} (h : Sb (mp3 τ t) x) (h2 : ∃ k, In k (mp2 τ t) ∧ In k q) : mpS τ x t q = q ||| mp2 τ t := if_pos ⟨sb_not.mpr h, fun e => by obtain ⟨k, a, b⟩ := h2; exact dj_and.mp e k a b⟩
theorem mpS_n {x q : Int32} {t : Nat} (h : ¬ (Sb (mp3 τ t) x ∧ ∃ k, In k (mp2 τ t) ∧ In k q)) : mpS τ x t q = q := if_neg (fun e => h ⟨sb_not.mp e.1, Classical.byContradiction (fun h2 => e.2 (dj_and.mpr (fun k a b => h2 ⟨k, a, b⟩)))⟩)
theorem U_up {x q : Int32} : ∀ t, Sb q (mpU τ x q t)
  | 0 => fun _ h => h
  | t + 1 => fun k h => by
    have ih := U_up (x := x) (q := q) t k h
    show In k (mpS τ x t (mpU τ x q t))
    by_cases c : Sb (mp3 τ t) x ∧ ∃ k, In k (mp2 τ t) ∧ In k (mpU τ x q t)
    · rw [mpS_y c.1 c.2]; exact In_or.mpr (Or.inl ih)
    · rw [mpS_n c]; exact ih
theorem U_in {x q : Int32} (h : Sb q x) : ∀ t, Sb (mpU τ x q t) x
  | 0 => h
  | t + 1 => fun k hk => by
    have ih := U_in h t
    have hk : In k (mpS τ x t (mpU τ x q t)) := hk
    by_cases c : Sb (mp3 τ t) x ∧ ∃ k, In k (mp2 τ t) ∧ In k (mpU τ x q t)
    · rw [mpS_y c.1 c.2] at hk
      rcases In_or.mp hk with hk | hk
      · exact ih k hk
      · exact c.1 k (mp23 k hk)
    · rw [mpS_n c] at hk; exact ih k hk
theorem U_dj {x q A : Int32} (hA : clo τ z x A) (h : ∀ k, In k q → ¬ In k A) : ∀ t, t ≤ z → ∀ k, In k (mpU τ x q t) → ¬ In k A
  | 0, _ => h
  | t + 1, ht => fun k hk hkA => by
    have ih := U_dj hA h t (by omega)
    have hk : In k (mpS τ x t (mpU τ x q t)) := hk
    by_cases c : Sb (mp3 τ t) x ∧ ∃ k, In k (mp2 τ t) ∧ In k (mpU τ x q t)
    · rw [mpS_y c.1 c.2] at hk
      rcases In_or.mp hk with hk | hk
      · exact ih k hk hkA
      · obtain ⟨j, hj, hj2⟩ := c.2
        exact ih j hj2 (hA t (by omega) c.1 ⟨k, hk, hkA⟩ j hj)
    · rw [mpS_n c] at hk; exact ih k hk hkA
theorem U_mono {x q : Int32} : ∀ t m, t ≤ m → Sb (mpU τ x q t) (mpU τ x q m)
  | t, 0, h => by rw [show t = 0 by omega]; exact fun _ h => h
  | t, m + 1, h => by
    by_cases e : t = m + 1
    · rw [e]; exact fun _ h => h
    · have ih := U_mono (x := x) (q := q) t m (by omega)
      intro k hk
      have hk := ih k hk
      show In k (mpS τ x m (mpU τ x q m))
      by_cases c : Sb (mp3 τ m) x ∧ ∃ k, In k (mp2 τ m) ∧ In k (mpU τ x q m)
      · rw [mpS_y c.1 c.2]; exact In_or.mpr (Or.inl hk)
      · rw [mpS_n c]; exact hk
theorem U_clo {x q : Int32} (h : mpU τ x q z = q) : clo τ z x q := by
  have hall : ∀ t, t ≤ z → mpU τ x q t = q := fun t ht => sb_eq (fun k hk => by rw [← h]; exact U_mono t z ht k hk) (U_up t)
  intro t ht h3 hk
  have e := hall (t + 1) (by omega)
  have e2 : mpS τ x t (mpU τ x q t) = q := e
  rw [hall t (by omega), mpS_y h3 hk] at e2
  intro j hj
  rw [← e2]; exact In_or.mpr (Or.inr hj)
theorem clo_or {s A B : Int32} (hA : clo τ z s A) (hB : clo τ z s B) : clo τ z s (A ||| B) := by
  intro t ht h3 ⟨k, h1, h2⟩ j hj
  rcases In_or.mp h2 with h2 | h2
  · exact In_or.mpr (Or.inl (hA t ht h3 ⟨k, h1, h2⟩ j hj))
  · exact In_or.mpr (Or.inr (hB t ht h3 ⟨k, h1, h2⟩ j hj))
/-- the class's way to the part -/
theorem pwF_sp {s : Int32} (hs : Ks s) : ∀ k q, Sb q s → 13 ≤ k + pcn q → mpU τ s (pwF (fun q => mpU τ s q z) k q) z = pwF (fun q => mpU τ s q z) k q ∧ ∀ k0 i, q = mpI τ z s k0 i → ∃ j, pwF (fun q => mpU τ s q z) k q = mpI τ z s k0 j
  | 0, q, _, h => by have := pc_12 q; omega
  | k + 1, q, hq, h => by
    unfold pwF
    by_cases e : mpU τ s q z = q
    · rw [if_pos e]
      exact ⟨e, fun k0 i hi => ⟨i, hi⟩⟩
    · rw [if_neg e]
      have h1 : Sb (mpU τ s q z) s := U_in hq z
      have h2 : pcn q < pcn (mpU τ s q z) := pc_lt (fun k hk => hs k (h1 k hk)) (U_up z) (fun z => e z.symm)
      obtain ⟨a, b⟩ := pwF_sp hs k (mpU τ s q z) h1 (by omega)
      exact ⟨a, fun k0 i hi => b k0 (i + 1) (by show _ = mpU τ s (mpI τ z s k0 i) z; rw [← hi])⟩
/-- the part of s that has the least of y -/
noncomputable abbrev pt (τ : St) (z : Nat) (s y : Int32) : Int32 := mpa τ z s (ntz y).toNatClampNeg
theorem low_all : ∀ a b : Fin 64, nI (64 * a.val + b.val) &&& -nI (64 * a.val + b.val) = 0 ∧ 64 * a.val + b.val = 0 ∨ (∃ k : Fin 12, nI (64 * a.val + b.val) &&& -nI (64 * a.val + b.val) = bitI k.val ∧ ntz (nI (64 * a.val + b.val)) = nI k.val) := by decide +kernel
theorem low_bit {y : Int32} (hK : Ks y) (h0 : ¬ y = 0) : ∃ k, k < 12 ∧ ntz y = nI k ∧ In k y ∧ y &&& -y = bitI k := by
  obtain ⟨k, hk, e1, e2, _⟩ := ntz_ls hK h0
  refine ⟨k, hk, e1, e2, ?_⟩
  obtain ⟨n, hn, rfl⟩ := Ks_n hK
  have h := fin4096 (P := fun n => nI n &&& -nI n = 0 ∧ n = 0 ∨ (∃ k : Fin 12, nI n &&& -nI n = bitI k.val ∧ ntz (nI n) = nI k.val)) low_all n hn
  rcases h with ⟨_, z⟩ | ⟨k9, h1, h2⟩
  · exact absurd (by rw [z]; rfl) h0
  · have : k = k9.val := nI_inj12 hk k9.isLt (by rw [← e1, h2])
    rw [h1, this]
theorem pt_sp {s y : Int32} (hs : Ks s) (hy : Sb y s) (h0 : ¬ y = 0) (hc : clo τ z s (s &&& (y ^^^ (-1)))) : pwF (fun q => mpU τ s q z) 12 (y &&& -y) = pt τ z s y ∧ ¬ pt τ z s y = 0 ∧ Sb (pt τ z s y) y ∧ clo τ z s (pt τ z s y) ∧ (∃ k, k < 12 ∧ ntz y = nI k) := by
  obtain ⟨k, hk, e1, e2, e3⟩ := low_bit (fun k hk => hs k (hy k hk)) h0
  have hb : Sb (bitI k) s := fun j hj => by rw [(In_bit hk).mp hj]; exact hy k e2
  obtain ⟨a, b⟩ := pwF_sp (τ := τ) (z := z) hs 12 (bitI k) hb (by rw [pc_bit hk]; omega)
  obtain ⟨j, hj⟩ := b k 0 rfl
  have hR : mpaR τ z s k (pwF (fun q => mpU τ s q z) 12 (bitI k)) := ⟨j, hj, a⟩
  have hp : pwF (fun q => mpU τ s q z) 12 (bitI k) = pt τ z s y := by
    show _ = mpa τ z s (ntz y).toNatClampNeg
    rw [e1, nI_clamp (by omega)]
    exact mpa_e hR
  rw [e3, hp]
  rw [hp] at a hj
  have hin : ∀ j, In k (mpI τ z s k j) ∧ Sb (mpI τ z s k j) s ∧ ∀ i, In i (mpI τ z s k j) → ¬ In i (s &&& (y ^^^ (-1))) := by
    intro j
    induction j with
    | zero =>
      refine ⟨(In_bit hk).mpr rfl, hb, fun i hi z => ?_⟩
      rw [(In_bit hk).mp hi] at z
      exact (In_not.mp (In_and.mp z).2).2 e2
    | succ j ih =>
      refine ⟨U_up z k ih.1, U_in ih.2.1 z, U_dj hc ih.2.2 z (Nat.le_refl _)⟩
  rw [hj]
  have h1 := hin j
  refine ⟨rfl, fun e => ?_, fun i hi => ?_, ?_, k, hk, e1⟩
  · have := h1.1
    rw [e] at this; exact In_0 this
  · exact Classical.byContradiction (fun hn => h1.2.2 i hi (In_and.mpr ⟨h1.2.1 i hi, In_not.mpr ⟨In_32 hi, hn⟩⟩))
  · rw [← hj]; exact U_clo a
/-- the parts, in their order -/
noncomputable def pl (τ : St) (z : Nat) (s : Int32) : Nat → Int32 → List Int32
  | 0, _ => []
  | k + 1, y => cI (y = 0) [] (pt τ z s y :: pl τ z s k (y &&& (pt τ z s y ^^^ (-1))))
theorem pl_0 {s : Int32} {k : Nat} {y : Int32} (h : y = 0) : pl τ z s k y = [] := by
  cases k with
  | zero => rfl
  | succ k => exact cI_t h
theorem pl_s {s : Int32} {k : Nat} {y : Int32} (h : ¬ y = 0) : pl τ z s (k + 1) y = pt τ z s y :: pl τ z s k (y &&& (pt τ z s y ^^^ (-1))) := cI_f h
theorem clo_left {s y p : Int32} (hy : Sb y s) (hc : clo τ z s (s &&& (y ^^^ (-1)))) (hp : clo τ z s p) (hps : Sb p y) : clo τ z s (s &&& ((y &&& (p ^^^ (-1))) ^^^ (-1))) := by
  have e : s &&& ((y &&& (p ^^^ (-1))) ^^^ (-1)) = (s &&& (y ^^^ (-1))) ||| p := by
    refine In_ext (fun k hk => ?_)
    rw [In_and, In_not, In_and, In_not, In_or, In_and, In_not]
    constructor
    · rintro ⟨h1, _, h2⟩
      by_cases h3 : In k p
      · exact Or.inr h3
      · refine Or.inl ⟨h1, hk, fun h4 => h2 ⟨h4, hk, h3⟩⟩
    · rintro (⟨h1, _, h2⟩ | h)
      · exact ⟨h1, hk, fun h3 => h2 h3.1⟩
      · exact ⟨hy k (hps k h), hk, fun h3 => h3.2.2 h⟩
  rw [e]; exact clo_or hc hp
theorem pl_sp {s : Int32} (hs : Ks s) : ∀ k y, Sb y s → clo τ z s (s &&& (y ^^^ (-1))) → pcn y ≤ k → (∀ p, p ∈ pl τ z s k y → ¬ p = 0 ∧ Sb p y) ∧ (pl τ z s k y).Pairwise (fun p q => ∀ j, In j p → ¬ In j q) ∧ (∀ j, In j y → ∃ p, p ∈ pl τ z s k y ∧ In j p) ∧ ((pl τ z s k y).map (fun p => 2 * pcn p - 1)).sum + (pl τ z s k y).length = 2 * pcn y
  | 0, y, hy, _, h => by
    have h0 : y = 0 := Classical.byContradiction (fun e => by have := pc_pos (fun k hk => hs k (hy k hk)) e; omega)
    refine ⟨fun p hp => absurd hp List.not_mem_nil, List.Pairwise.nil, fun j hj => ?_, ?_⟩
    · rw [h0] at hj; exact absurd hj In_0
    · rw [show pcn y = 0 by omega]; rfl
  | k + 1, y, hy, hc, h => by
    by_cases h0 : y = 0
    · rw [pl_0 h0]
      refine ⟨fun p hp => absurd hp List.not_mem_nil, List.Pairwise.nil, fun j hj => ?_, ?_⟩
      · rw [h0] at hj; exact absurd hj In_0
      · rw [h0]; decide
    · rw [pl_s h0]
      obtain ⟨_, q1, q2, q3, _⟩ := pt_sp hs hy h0 hc
      generalize pt τ z s y = p at q1 q2 q3 ⊢
      have hKp : Ks p := fun k hk => hs k (hy k (q2 k hk))
      have hsp := pc_split q2
      have hpp := pc_pos hKp q1
      obtain ⟨a, b, c, d⟩ := pl_sp hs k (y &&& (p ^^^ (-1))) (fun j hj => hy j (In_and.mp hj).1) (clo_left hy hc q3 q2) (by omega)
      refine ⟨fun r hr => ?_, List.pairwise_cons.mpr ⟨fun r hr j hj hj2 => ?_, b⟩, fun j hj => ?_, ?_⟩
      · rcases List.mem_cons.mp hr with rfl | hr
        · exact ⟨q1, q2⟩
        · exact ⟨(a r hr).1, fun j hj => (In_and.mp ((a r hr).2 j hj)).1⟩
      · exact (In_not.mp (In_and.mp ((a r hr).2 j hj2)).2).2 hj
      · by_cases e : In j p
        · exact ⟨p, List.mem_cons_self, e⟩
        · obtain ⟨r, hr, hj2⟩ := c j (In_and.mpr ⟨hj, In_not.mpr ⟨In_32 hj, e⟩⟩)
          exact ⟨r, List.mem_cons_of_mem _ hr, hj2⟩
      · simp only [List.map_cons, List.sum_cons, List.length_cons]
        omega
theorem clo_0 {s : Int32} : clo τ z s (s &&& (s ^^^ (-1))) := fun t _ _ ⟨k, _, h⟩ => absurd (In_and.mp h).1 (In_not.mp (In_and.mp h).2).2
/-- the reference's list of parts -/
theorem mjP_pl {s : Int32} : ∀ u, u ≤ 12 → (mjP τ z s u).2 ++ pl τ z s (12 - u) (mjP τ z s u).1 = pl τ z s 12 s
  | 0, _ => rfl
  | u + 1, hu => by
    have ih := mjP_pl (s := s) u (by omega)
    by_cases e : (mjP τ z s u).1 = 0
    · rw [show mjP τ z s (u + 1) = mjP τ z s u from cI_t e, pl_0 e]
      rw [pl_0 e] at ih
      exact ih
    · rw [show mjP τ z s (u + 1) = _ from cI_f e]
      rw [show 12 - u = (12 - (u + 1)) + 1 by omega, pl_s e] at ih
      rw [← ih, List.append_assoc]
      rfl
theorem mjP_left {s : Int32} (hs : Ks s) : ∀ u, u ≤ 12 → Sb (mjP τ z s u).1 s ∧ clo τ z s (s &&& ((mjP τ z s u).1 ^^^ (-1))) ∧ (pcn (mjP τ z s u).1 + u ≤ 12 ∨ (mjP τ z s u).1 = 0)
  | 0, _ => ⟨fun _ h => h, clo_0, Or.inl (by show pcn s + 0 ≤ 12; have := pc_12 s; omega)⟩
  | u + 1, hu => by
    obtain ⟨a, b, c⟩ := mjP_left (s := s) hs u (by omega)
    by_cases e : (mjP τ z s u).1 = 0
    · rw [show mjP τ z s (u + 1) = mjP τ z s u from cI_t e]
      exact ⟨a, b, Or.inr e⟩
    · rw [show mjP τ z s (u + 1) = _ from cI_f e]
      obtain ⟨_, q1, q2, q3, _⟩ := pt_sp hs a e b
      refine ⟨fun j hj => a j (In_and.mp hj).1, clo_left a b q3 q2, ?_⟩
      have hsp := pc_split q2
      have hpp := pc_pos (fun k hk => hs k (a k (q2 k hk))) q1
      rcases c with c | c
      · left
        show pcn ((mjP τ z s u).1 &&& (pt τ z s (mjP τ z s u).1 ^^^ (-1))) + (u + 1) ≤ 12
        omega
      · exact absurd c e
theorem mjP_12 {s : Int32} (hs : Ks s) : (mjP τ z s 12).1 = 0 ∧ (mjP τ z s 12).2 = pl τ z s 12 s ∧ ∀ u, u < 12 → ¬ (mjP τ z s u).1 = 0 → ∃ k, k < 12 ∧ ntz (mjP τ z s u).1 = nI k := by
  obtain ⟨a, b, c⟩ := mjP_left (τ := τ) (z := z) hs 12 (Nat.le_refl _)
  have h0 : (mjP τ z s 12).1 = 0 := by
    rcases c with c | c
    · exact Classical.byContradiction (fun e => by have := pc_pos (fun k hk => hs k (a k hk)) e; omega)
    · exact c
  refine ⟨h0, ?_, fun u hu hn => ?_⟩
  · have := mjP_pl (τ := τ) (z := z) (s := s) 12 (Nat.le_refl _)
    rw [pl_0 h0, List.append_nil] at this
    exact this
  · obtain ⟨a, b, _⟩ := mjP_left (τ := τ) (z := z) hs u (by omega)
    exact (pt_sp hs a hn b).2.2.2.2
end parts

/-! How many sets; families with the same members -/
theorem gm_le23 {M : Int32 → Prop} {r : Int32} {g : Nat → Int32} {n : Nat} (hG : GM M r) (hM : MemIs g n M) (hs : SL g n) : n ≤ 23 ∧ cntU (fun v => ¬ kU g v = -1) n ≤ 12 := by
  have hn : n ≤ 4096 := by
    refine inj_le 4096 n (fun v => (g v).toBitVec.toNat) (fun v hv => ?_) (fun a b ha hb e => ?_)
    · obtain ⟨m, hm, e⟩ := Ks_n (hs.1 v hv).1
      show (g v).toBitVec.toNat < 4096
      rw [e, show (nI m).toBitVec = BitVec.ofNat 32 m from rfl, BitVec.toNat_ofNat]
      exact Nat.lt_of_le_of_lt (Nat.mod_le _ _) hm
    · exact hs.2.2 a b ha hb (Int32.toBitVec_inj.mp (BitVec.eq_of_toNat_eq e))
  have hT := gm_TV hG hM hs (by omega)
  have hl : cntU (fun v => ¬ kU g v = -1) n ≤ 12 := by
    rw [lv_sum hT.2.2.1]
    have h1 : sumU (fun k => cntU (fun v => kU g v = nI k) n) 12 ≤ sumU (fun _ => 1) 12 := by
      refine sumU_le 12 (fun k hk => ?_)
      have hone : ∀ v, v < n → kU g v = nI k → g v = bitI k := fun v hv e => by
        rcases one_cases (hs.1 v hv).1 (hs.1 v hv).2 with ⟨q, hq, e1, e2⟩ | ⟨e2, _⟩
        · have : q = k := nI_inj12 hq hk (by rw [← e2]; exact e)
          rw [e1, this]
        · rw [show kU g v = -1 from e2] at e
          exact absurd e.symm (nI_m1 (by omega))
      refine Classical.byContradiction (fun hc => ?_)
      -- two places
      have h2 : ∀ m, m ≤ n → 2 ≤ cntU (fun v => kU g v = nI k) m → ∃ a b, a < b ∧ b < m ∧ kU g a = nI k ∧ kU g b = nI k := by
        intro m
        induction m with
        | zero => intro _ h; exact absurd h (by simp [cntU])
        | succ m ih =>
          intro hm h
          by_cases q : kU g m = nI k
          · rw [cntU_y (q := fun v => kU g v = nI k) q] at h
            have h3 : 0 < cntU (fun v => kU g v = nI k) m := by omega
            have h4 : ∀ m, 0 < cntU (fun v => kU g v = nI k) m → ∃ a, a < m ∧ kU g a = nI k := by
              intro m
              induction m with
              | zero => intro h; exact absurd h (by simp [cntU])
              | succ m ih2 =>
                intro h
                by_cases z : kU g m = nI k
                · exact ⟨m, by omega, z⟩
                · rw [cntU_n (q := fun v => kU g v = nI k) z] at h
                  obtain ⟨a, ha, e⟩ := ih2 h
                  exact ⟨a, by omega, e⟩
            obtain ⟨a, ha, e⟩ := h4 m h3
            exact ⟨a, m, ha, by omega, e, q⟩
          · rw [cntU_n (q := fun v => kU g v = nI k) q] at h
            obtain ⟨a, b, h5, h6, h7⟩ := ih (by omega) h
            exact ⟨a, b, h5, by omega, h7⟩
      obtain ⟨a, b, hab, hb, ea, eb⟩ := h2 n (Nat.le_refl _) (by omega)
      have := hs.2.2 a b (by omega) hb (by rw [hone a (by omega) ea, hone b hb eb])
      omega
    have h2 : sumU (fun _ => 1) 12 = 12 := rfl
    omega
  have := tv_cnt hT
  exact ⟨by omega, hl⟩
/-- M has no more than m -/
def Few (M : Int32 → Prop) : Prop := ∃ g m, m ≤ 23 ∧ MemIs g m M
theorem ul_few {M : Int32 → Prop} {r : Int32} {f : Nat → Int32} {n : Nat} (hG : GM M r) (hM : MemIs f n M) (hu : UL f n) : n ≤ 23 ∧ SL (srt f n) n ∧ MemIs (srt f n) n M := by
  have h1 := srt_SL n hu
  have h2 : MemIs (srt f n) n M := fun x => (hM x).trans (srt_mem n).symm
  exact ⟨(gm_le23 hG h2 h1).1, h1, h2⟩
theorem few_le {M : Int32 → Prop} {f : Nat → Int32} {n : Nat} (hF : Few M) (hd : Dst f n) (hM : ∀ x, Mem f n x → M x) : n ≤ 23 := by
  obtain ⟨g, m, hm, hg⟩ := hF
  have e : ∀ v, v < n → ∃ u, u < m ∧ g u = f v := fun v hv => (hg _).mp (hM _ ⟨v, hv, rfl⟩)
  let φ : Nat → Nat := fun v => @dite Nat (v < n) (Classical.propDecidable _) (fun hv => Classical.choose (e v hv)) (fun _ => 0)
  have hφ : ∀ v, v < n → φ v < m ∧ g (φ v) = f v := fun v hv => by
    have : φ v = Classical.choose (e v hv) := dif_pos hv
    rw [this]; exact Classical.choose_spec (e v hv)
  have := inj_le m n φ (fun v hv => (hφ v hv).1) (fun a b ha hb z => hd a b ha hb (by rw [← (hφ a ha).2, ← (hφ b hb).2, z]))
  omega
/-- the class's family on its way to M -/
def FI (M : Int32 → Prop) (F : Fam) : Prop := SL F.2 F.1 ∧ ∀ x, Mem F.2 F.1 x → M x
theorem FI_0 {M : Int32 → Prop} (f : Nat → Int32) : FI M (0, f) := ⟨SL_0 f, fun x ⟨v, hv, _⟩ => absurd hv (by show ¬ v < 0; omega)⟩
theorem FI_add {M : Int32 → Prop} {F : Fam} {x : Int32} (hF : Few M) (h : FI M F) (hK : Ks x) (hx : ¬ x = 0 → M x) : FI M (addF F x) ∧ ∀ y, Mem (addF F x).2 (addF F x).1 y ↔ Mem F.2 F.1 y ∨ (y = x ∧ ¬ x = 0) := by
  have h23 := few_le hF h.1.2.2 h.2
  have hm := fun y => mem_addF (F := F) (x := x) (y := y) (by omega)
  refine ⟨⟨SL_addF h.1 hK, fun y hy => ?_⟩, hm⟩
  rcases (hm y).mp hy with q | q
  · exact h.2 y q
  · rw [q.1]; exact hx q.2
/-! new families out of old ones -/
theorem GM_K {M : Int32 → Prop} {r x : Int32} (hG : GM M r) (hx : M x) : Ks x := fun k hk => hG.2.1 k ((hG.2.2.1 x hx).1 k hk)
theorem GM_c {M M9 : Int32 → Prop} {r : Int32} (hG : GM M r) (h : ∀ x, M x ↔ M9 x) : GM M9 r := by
  have e : M = M9 := funext (fun x => propext (h x))
  rw [← e]; exact hG
theorem GM_cut {M : Int32 → Prop} {r y : Int32} (hG : GM M r) (hy : ¬ r &&& y = 0) : GM (fun x => ∃ z, M z ∧ x = z &&& y ∧ ¬ x = 0) (r &&& y) := by
  refine ⟨⟨r, hG.1, rfl, hy⟩, fun k hk => hG.2.1 k (In_and.mp hk).1, ?_, ?_, ?_⟩
  · rintro x ⟨z, hz, rfl, h0⟩
    exact ⟨fun k hk => In_and.mpr ⟨(hG.2.2.1 z hz).1 k (In_and.mp hk).1, (In_and.mp hk).2⟩, h0⟩
  · rintro a b ⟨x, hx, rfl, _⟩ ⟨z, hz, rfl, _⟩
    rcases hG.2.2.2.1 x z hx hz with q | q | q
    · exact Or.inl (fun k hk => In_and.mpr ⟨q k (In_and.mp hk).1, (In_and.mp hk).2⟩)
    · exact Or.inr (Or.inl (fun k hk => In_and.mpr ⟨q k (In_and.mp hk).1, (In_and.mp hk).2⟩))
    · exact Or.inr (Or.inr (fun k h1 h2 => q k (In_and.mp h1).1 (In_and.mp h2).1))
  · intro k hk
    obtain ⟨h1, h2⟩ := In_and.mp hk
    have h12 := hG.2.1 k h1
    refine ⟨bitI k, hG.2.2.2.2 k h1, ?_, ?_⟩
    · refine In_ext (fun j _ => ?_)
      rw [In_and, In_bit h12]
      exact ⟨fun e => ⟨e, by rw [e]; exact h2⟩, fun e => e.1⟩
    · intro e
      have : In k (bitI k) := (In_bit h12).mpr rfl
      rw [e] at this; exact In_0 this
theorem GM_sub {S : Nat → Prop} {M : Nat → Int32 → Prop} {M9 : Int32 → Prop} {r : Int32} (hS : ∃ s, S s) (hG : ∀ s, S s → GM (M s) r) (h1 : ∀ x, (∀ s, S s → M s x) → M9 x) (h2 : ∀ x y, M9 x → M9 y → ∃ s, S s ∧ M s x ∧ M s y) : GM M9 r := by
  obtain ⟨s0, hs0⟩ := hS
  refine ⟨h1 r (fun s hs => (hG s hs).1), (hG s0 hs0).2.1, fun x hx => ?_, fun x y hx hy => ?_, fun k hk => h1 _ (fun s hs => (hG s hs).2.2.2.2 k hk)⟩
  · obtain ⟨s, hs, h, _⟩ := h2 x x hx hx
    exact (hG s hs).2.2.1 x h
  · obtain ⟨s, hs, ha, hb⟩ := h2 x y hx hy
    exact (hG s hs).2.2.2.1 x y ha hb
/-- a set, its kinds, and others that don't cross -/
theorem GM_perf {r : Int32} {A : Int32 → Prop} (hr : Ks r) (h0 : ¬ r = 0) (hA : ∀ x, A x → Sb x r ∧ ¬ x = 0) (hl : ∀ x y, A x → A y → Sb x y ∨ Sb y x ∨ ∀ k, In k x → ¬ In k y) : GM (fun x => x = r ∨ (∃ k, In k r ∧ x = bitI k) ∨ A x) r := by
  have hbit : ∀ k x, In k r → Sb x (bitI k) ∨ Sb (bitI k) x ∨ ∀ j, In j x → ¬ In j (bitI k) := by
    intro k x hk
    have h12 := hr k hk
    by_cases q : In k x
    · exact Or.inr (Or.inl (fun j hj => by rw [(In_bit h12).mp hj]; exact q))
    · exact Or.inr (Or.inr (fun j hj hj2 => q (by rw [← (In_bit h12).mp hj2]; exact hj)))
  refine ⟨Or.inl rfl, hr, ?_, ?_, fun k hk => Or.inr (Or.inl ⟨k, hk, rfl⟩)⟩
  · rintro x (rfl | ⟨k, hk, rfl⟩ | hx)
    · exact ⟨fun _ h => h, h0⟩
    · have h12 := hr k hk
      refine ⟨fun j hj => by rw [(In_bit h12).mp hj]; exact hk, fun e => ?_⟩
      have : In k (bitI k) := (In_bit h12).mpr rfl
      rw [e] at this; exact In_0 this
    · exact hA x hx
  · intro x y hx hy
    rcases hx with rfl | ⟨k, hk, rfl⟩ | hx
    · have hy2 : Sb y x := by
        rcases hy with rfl | ⟨j, hj, rfl⟩ | hy
        · exact fun _ h => h
        · intro i hi; rw [(In_bit (hr j hj)).mp hi]; exact hj
        · exact (hA y hy).1
      exact Or.inr (Or.inl hy2)
    · rcases hbit k y hk with q | q | q
      · exact Or.inr (Or.inl q)
      · exact Or.inl q
      · exact Or.inr (Or.inr (fun j h1 h2 => q j h2 h1))
    · rcases hy with rfl | ⟨j, hj, rfl⟩ | hy
      · exact Or.inl (hA x hx).1
      · exact hbit j x hj
      · exact hl x y hx hy

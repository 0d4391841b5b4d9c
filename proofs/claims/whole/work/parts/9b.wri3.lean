/-! write -/
theorem sum_f {q : Nat → Prop} {p : Nat → Bool} (hp : ∀ u, p u = true ↔ q u) {F : Nat → Nat} : ∀ n, (((List.range n).filter p).map F).sum = sumU (fun u => cI (q u) (F u) 0) n
  | 0 => rfl
  | n + 1 => by
    rw [List.range_succ, List.filter_append, List.map_append, List.sum_append_nat, sum_f hp n]
    show _ = sumU (fun u => cI (q u) (F u) 0) n + cI (q n) (F n) 0
    by_cases h : q n
    · rw [cI_t h]; simp [(hp n).mpr h]
    · rw [cI_f h]; simp [show p n = false from Bool.eq_false_iff.mpr (fun z => h ((hp n).mp z))]
theorem sum_l {q : Nat → Prop} {n : Nat} {l : List Nat} (hd : l.Nodup) (hl : ∀ x, x ∈ l ↔ q x ∧ x < n) (F : Nat → Nat) : (l.map F).sum = sumU (fun u => cI (q u) (F u) 0) n := by
  have hp : l.Perm ((List.range n).filter (fun u => @decide (q u) (Classical.propDecidable _))) := by
    refine (List.perm_ext_iff_of_nodup hd (List.Pairwise.filter _ List.nodup_range)).mpr (fun x => ?_)
    rw [hl x, List.mem_filter, List.mem_range]
    constructor
    · intro ⟨a, b⟩; exact ⟨b, @decide_eq_true _ (Classical.propDecidable _) a⟩
    · intro ⟨a, b⟩; exact ⟨@of_decide_eq_true _ (Classical.propDecidable _) b, a⟩
  rw [(hp.map F).sum_nat]
  exact sum_f (fun u => @decide_eq_true_iff _ (Classical.propDecidable _)) n
theorem sumU_2 {f : Nat → Nat} (n : Nat) : sumU (fun u => 2 * f u) n = 2 * sumU f n := by
  have e : sumU (fun u => 2 * f u) n = sumU (fun u => f u + f u) n := sumU_c n (fun u _ => by omega)
  rw [e, sumU_add]; omega
section wr
variable {σ τ : St} {i : Nat}
theorem kid_i (h : rSh σ τ i) (hf : SF σ τ i) {v : Nat} (hv : v < nn σ (tS σ i)) (x : Nat) : x ∈ kidsL τ i v ↔ (0 < x ∧ mp τ i x = v) ∧ x < nn σ (tS σ i) := by
  rw [kids_m, hf.2.1]
  constructor
  · intro ⟨a, b, c⟩; exact ⟨(mCq_i h hf hv b).mp ⟨a, c⟩, b⟩
  · intro ⟨a, b⟩
    have := (mCq_i h hf hv b).mpr a
    exact ⟨this.1, b, this.2⟩
theorem wr_len (h : rSh σ τ i) (hf : SF σ τ i) : twL τ i (fun v => 2 * wS (nn σ (tS σ i)) (mp τ i) (fun _ => 1) v - 1) ∧ ∀ v, v < nn σ (tS σ i) → 2 * wS (nn σ (tS σ i)) (mp τ i) (fun _ => 1) v - 1 ≤ 2 * nn σ (tS σ i) - 1 := by
  have hP9 := hf.2.2.2.2.2.1
  have hT9 := hf.2.2.2.2.1
  have h47 := sh_47 h
  have hpos : ∀ v, 0 < wS (nn σ (tS σ i)) (mp τ i) (fun _ => 1) v := fun v => by rw [wS_eq hP9 hf.1 v]; omega
  constructor
  · intro v hv
    rw [hf.2.1] at hv
    have hs : ((kidsL τ i v).map (fun u => (2 * wS (nn σ (tS σ i)) (mp τ i) (fun _ => 1) u - 1) + 1)).sum = 2 * (wS (nn σ (tS σ i)) (mp τ i) (fun _ => 1) v - 1) := by
      rw [sum_l kids_d (kid_i h hf hv)]
      have e : sumU (fun u => cI (0 < u ∧ mp τ i u = v) ((2 * wS (nn σ (tS σ i)) (mp τ i) (fun _ => 1) u - 1) + 1) 0) (nn σ (tS σ i)) = sumU (fun u => 2 * (if 0 < u ∧ mp τ i u = v then wS (nn σ (tS σ i)) (mp τ i) (fun _ => 1) u else 0)) (nn σ (tS σ i)) := sumU_c _ (fun u _ => by
        have := hpos u
        by_cases z : 0 < u ∧ mp τ i u = v
        · rw [cI_t z, if_pos z]; omega
        · rw [cI_f z, if_neg z])
      rw [e, sumU_2]
      have h2 := wS_eq (w := fun _ => 1) hP9 hf.1 v
      rw [h2]
      show 2 * _ = 2 * (1 + _ - 1)
      rw [Nat.add_comm 1, Nat.add_sub_cancel]
    have hk := neg_m1 (hT9.2.2.1 v hv)
    have := hpos v
    by_cases e : mK τ i v = -1
    · rw [if_pos (hk.mpr e), hs]
      show 2 * wS _ _ _ v - 1 = _
      omega
    · rw [if_neg (fun z => e (hk.mp z))]
      have h2 := wS_eq (w := fun _ => 1) hP9 hf.1 v
      have h3 : sumU (fun u => if 0 < u ∧ mp τ i u = v then wS (nn σ (tS σ i)) (mp τ i) (fun _ => 1) u else 0) (nn σ (tS σ i)) = 0 := by
        rw [sumU_c _ (g := fun _ => 0) (fun u hu => if_neg (fun z => e ?_)), sumU_0]
        have := (hT9.2.1 u z.1 hu).2
        rw [z.2] at this
        exact this
      rw [h3] at h2
      show 2 * wS _ _ _ v - 1 = 1
      rw [h2]
  · intro v hv
    have h1 := wS_le (w := fun _ => 1) hP9 hf.1 v hv
    rw [sumU_k] at h1
    omega
theorem wr_pre (h : RX σ τ) : ∀ i, i < 8 → ¬ mN τ i = 0 → ∃ Λ, twL τ i Λ ∧ ∀ v, v < mN τ i → Λ v ≤ 98 := by
  intro i hi h0
  have hs := h.sh hi
  have hf := sh_SF hs h0
  have h47 := sh_47 hs
  obtain ⟨a, b⟩ := wr_len hs hf
  refine ⟨_, a, fun v hv => ?_⟩
  rw [hf.2.1] at hv
  have := b v hv
  show 2 * wS _ _ _ v - 1 ≤ 98
  omega
theorem wr_T0 (h : rSh σ τ i) (hf : SF σ τ i) {T : Nat → List Int32} (hA : txA τ i T 0) : ∀ v, v < nn σ (tS σ i) → (T v).length = 2 * wS (nn σ (tS σ i)) (mp τ i) (fun _ => 1) v - 1 := by
  refine down ?_
  intro v hv ih
  exact txE_l (Λ := fun v => 2 * wS (nn σ (tS σ i)) (mp τ i) (fun _ => 1) v - 1) (v := v) (T := T) (by rw [hf.2.1]; exact hv) (wr_len h hf).1 (fun u h1 h2 => ih u h1 (by rw [← hf.2.1]; exact h2)) (hA v (by omega) (by rw [hf.2.1]; exact hv))
/-- the reference's texts, for the class's nodes -/
theorem wr_txC (h : rSh σ τ i) (hf : SF σ τ i) {π ρ : Nat → Nat} (hI : Iso (nn σ (tS σ i)) (pp σ (tS σ i)) (tK σ (tS σ i)) (mp τ i) (mK τ i) π ρ) {T : Nat → List Int32} (hA : txA τ i T 0) : txC (nn σ (tS σ i)) (pp σ (tS σ i)) (tK σ (tS σ i)) (fun v => T (π v)) := by
  intro v hv
  have hpv := (hI.1 v hv).1
  have hk := neg_m1 (hf.2.2.2.2.1.2.2.1 (π v) hpv)
  have eK := hI.2.2.1 v hv
  rcases hA (π v) (by omega) (by rw [hf.2.1]; exact hpv) with ⟨a, b⟩ | ⟨a, os, h1, h2, h3⟩
  · refine Or.inl ⟨fun z => a (hk.mpr (by rw [← eK]; exact z)), ?_⟩
    show T (π v) = _
    rw [b, eK]
  · refine Or.inr ⟨by rw [eK]; exact hk.mp a, os.map ρ, ?_, ?_, ?_, ?_⟩
    · intro x
      have hos : ∀ y, y ∈ os ↔ (0 < y ∧ mp τ i y = π v) ∧ y < nn σ (tS σ i) := fun y => (h1.mem_iff).trans (kid_i h hf hpv y)
      rw [List.mem_map]
      constructor
      · rintro ⟨y, hy, rfl⟩
        have hy := (hos y).mp hy
        have hr := (hI.1 y hy.2).2.1
        have e2 := (hI.1 y hy.2).2.2.2
        have hr0 : 0 < ρ y := by
          rcases Nat.eq_zero_or_pos (ρ y) with z | z
          · rw [z, hI.2.1] at e2; omega
          · exact z
        exact ⟨hr0, hr, (iso_ch hI hf.2.2.2.1.1 hr0 hr hv).mpr (by rw [e2]; exact hy.1.2)⟩
      · rintro ⟨z1, z2, z3⟩
        refine ⟨π x, (hos _).mpr ⟨⟨iso_pos hI z1 z2, (iso_ch hI hf.2.2.2.1.1 z1 z2 hv).mp z3⟩, (hI.1 x z2).1⟩, (hI.1 x z2).2.2.1⟩
    · refine List.pairwise_map.mpr ?_
      have hnd : os.Nodup := h1.symm.nodup kids_d
      refine List.Pairwise.imp_of_mem ?_ hnd
      intro a b ha hb hne e
      have ha := ((h1.mem_iff).trans (kid_i h hf hpv a)).mp ha
      have hb := ((h1.mem_iff).trans (kid_i h hf hpv b)).mp hb
      exact hne (by rw [← (hI.1 a ha.2).2.2.2, e, (hI.1 b hb.2).2.2.2])
    · refine List.pairwise_map.mpr (List.Pairwise.imp_of_mem ?_ h2)
      intro a b ha hb hne
      have ha := ((h1.mem_iff).trans (kid_i h hf hpv a)).mp ha
      have hb := ((h1.mem_iff).trans (kid_i h hf hpv b)).mp hb
      show ¬ ltL (T (π (ρ b))) (T (π (ρ a)))
      rw [(hI.1 a ha.2).2.2.2, (hI.1 b hb.2).2.2.2]
      exact hne
    · show T (π v) = _
      rw [h3, List.map_map]
      congr 2
      refine List.map_congr_left (fun a ha => ?_)
      have ha := ((h1.mem_iff).trans (kid_i h hf hpv a)).mp ha
      show T a = T (π (ρ a))
      rw [(hI.1 a ha.2).2.2.2]
end wr
theorem Wt_mem {T : Nat → List Int32} {y : Int32} : ∀ l : List Nat, y ∈ Wt T l → y = nI 41 ∨ y = nI 44 ∨ ∃ x, x ∈ l ∧ y ∈ T x
  | [], h => Or.inl (List.mem_singleton.mp h)
  | x :: xs, h => by
    rcases List.mem_cons.mp h with h | h
    · exact Or.inr (Or.inl h)
    · rcases List.mem_append.mp h with h | h
      · exact Or.inr (Or.inr ⟨x, List.mem_cons_self, h⟩)
      · rcases Wt_mem xs h with q | q | ⟨z, hz, q⟩
        · exact Or.inl q
        · exact Or.inr (Or.inl q)
        · exact Or.inr (Or.inr ⟨z, List.mem_cons_of_mem _ hz, q⟩)
theorem tx_asc {n : Nat} {P : Nat → Nat} {K : Nat → Int32} {T : Nat → List Int32} (h : txC n P K T) (hT : TV n P K) : ∀ v, v < n → ∀ y, y ∈ T v → ∃ m, m < 128 ∧ y = nI m := by
  refine down ?_
  intro v hv ih y hy
  rcases h v hv with ⟨hk, e⟩ | ⟨hk, os, h1, h2, h3, h4⟩
  · rcases hT.2.2.1 v hv with z | ⟨q, hq, z⟩
    · exact absurd z hk
    · rw [e, z, nI_add] at hy
      exact ⟨97 + q, by omega, List.mem_singleton.mp hy⟩
  · have hne := tx_kid hT hv hk h1
    cases os with
    | nil => exact absurd rfl hne
    | cons x xs =>
      rw [h4, preT_W] at hy
      have hkid : ∀ z, z ∈ x :: xs → ∀ y, y ∈ T z → ∃ m, m < 128 ∧ y = nI m := fun z hz => by
        have hz := (h1 z).mp hz
        have := (hT.2.1 z hz.1 hz.2.1).1
        exact ih z (by omega) hz.2.1
      rcases List.mem_cons.mp hy with hy | hy
      · exact ⟨40, by omega, hy⟩
      · rcases List.mem_append.mp hy with hy | hy
        · exact hkid x List.mem_cons_self y hy
        · rcases Wt_mem xs hy with q | q | ⟨z, hz, q⟩
          · exact ⟨41, by omega, q⟩
          · exact ⟨44, by omega, q⟩
          · exact hkid z (List.mem_cons_of_mem _ hz) y q
theorem wrB_eq {σ τ : St} {i : Nat} (h : rSh σ τ i) (hf : SF σ τ i) {T : Nat → List Int32} (hA : txA τ i T 0) : wrB σ (tS σ i) = apT (0, iA σ 37) (T 0 ++ [nI 59]) ∧ (T 0).length ≤ 93 ∧ ∀ y, y ∈ T 0 → ∃ m, m < 128 ∧ y = nI m := by
  obtain ⟨π, ρ, hI⟩ := h.2.2.2
  have hc := wr_txC h hf hI hA
  have h47 := sh_47 h
  have hT := hf.2.2.1
  have hS := stg_all hc hT h47 (nn σ (tS σ i) - 1) _ _ (by have := hf.1; omega) (stg_0 (P := pp σ (tS σ i)) (T := fun v => T (π v)) hf.1 (iA σ 38) (iA σ 39))
  have hp := pnT_sp hc hT h47 hS 24 0 hf.1 (by have := inC_0 hT h47 0; omega) (0, iA σ 37)
  have e0 : T (π 0) = T 0 := by rw [hI.2.1]
  refine ⟨?_, ?_, ?_⟩
  · show pb (pnT (tK σ (tS σ i)) _ _ 24 0 (0, iA σ 37)) (nI 59) = _
    rw [hp, apT_a]
    show _ = apT (apT (0, iA σ 37) (T 0)) [nI 59]
    rw [← e0]
    rfl
  · have h1 := wr_T0 h hf hA 0 hf.1
    have h2 := (wr_len h hf).2 0 hf.1
    omega
  · intro y hy
    refine tx_asc hc hT 0 hf.1 y ?_
    show y ∈ T (π 0)
    rw [e0]; exact hy
theorem s_write {σ τ : St} (h : RX σ τ) (x : Int32) : SX exHas (fun r σ9 => ∃ i, i < 8 ∧ x = nI i ∧ ¬ tN σ (tS σ i) = 0 ∧ σ9 = wrS σ (tS σ i) ∧ r = nI (wrB σ (tS σ i)).1) (fun E σ9 => σ9 = σ ∧ t1X σ x E) (mwrP τ x) σ τ := by
  constructor
  · rintro r σ8 ⟨i, hi, rfl, ho, rfl, rfl⟩
    have hm : mAg σ (wrS σ (tS σ i)) := by
      unfold wrS
      exact (((mAg.rf.I (by omega)).I (by omega)).I (by omega)).N (by omega)
    refine ⟨hm, ?_⟩
    rintro b τ9 (h2 | ⟨k, T, tx, sz, td, w9, hk, e, hn, hA, -, hw1, hw2, rfl, rfl⟩)
    · exact absurd h2 (mt1_no h hi ho)
    · have z1 := (nI8 hi hk).mp e
      subst z1
      have hs := h.sh hi
      have hf := sh_SF hs hn
      have h47 := sh_47 hs
      obtain ⟨eB, hl, hch⟩ := wrB_eq hs hf hA
      obtain ⟨a1, a2, a3⟩ := apT_n (T 0 ++ [nI 59]) (0, iA σ 37) (by rw [List.length_append]; show 0 + ((T 0).length + 1) ≤ 94; omega)
      rw [← eB] at a1 a3
      have a1 : (wrB σ (tS σ i)).1 = (T 0).length + 1 := by rw [a1, List.length_append]; show 0 + ((T 0).length + 1) = _; omega
      have a3 : ∀ k, k < (T 0).length + 1 → (wrB σ (tS σ i)).2 k = (T 0 ++ [nI 59]).getD k 0 := fun k hk => by
        have := a3 k (by rw [List.length_append]; exact hk)
        rw [show ((0, iA σ 37) : WB).1 + k = k from Nat.zero_add k] at this
        exact this
      have hix := inD_ix (K := tK σ (tS σ i)) (P := pp σ (tS σ i)) (n := nn σ (tS σ i)) hf.2.2.2.1.1 h47 (nn σ (tS σ i) - 1) (filF (iA σ 38) (nn σ (tS σ i))) (filF (iA σ 39) (nn σ (tS σ i))) (by have := hf.1; omega) (filF_ix h.wri.2.1) (filF_ix h.wri.2.2)
      refine ⟨((((cAg_t.I (by omega)).I (by omega)).I (by omega)).I (by omega)).N (by omega), mT_t (τ := τ), by rw [a1], h.tape, h.fau, ⟨⟨(T 0).length + 1, by omega, ?_, nF_s, fun k hk => ?_⟩, hix⟩, h.tri, h.sig, h.sta, h.dis, rTre_c ?_ (rTre_m rfl rfl rfl h.tre)⟩
      · rw [← a1]; exact wrS_L
      · have r1 : iA (wrS σ (tS σ i)) 37 k = (wrB σ (tS σ i)).2 k := rfl
        have r2 : iA (sN (sI (sI (sI (sI (mT τ 0) 16 tx) 17 sz) 18 td) 11 w9) 0 18 (nI ((T 0).length + 1))) 11 k = w9 k := rfl
        rw [r1, r2, a3 k hk]
        by_cases e : k = (T 0).length
        · subst e
          have e2 : (T 0 ++ [nI 59]).getD (T 0).length 0 = nI 59 := by simp
          rw [e2, hw2]
          exact ⟨rfl, 59, by omega, rfl⟩
        · have hk2 : k < (T 0).length := by omega
          have e2 : (T 0 ++ [nI 59]).getD k 0 = (T 0).getD k 0 := by
            rw [List.getD_eq_getElem?_getD, List.getD_eq_getElem?_getD, List.getElem?_append_left hk2]
          rw [e2, hw1 k hk2]
          refine ⟨rfl, hch _ ?_⟩
          rw [List.getD_eq_getElem?_getD, List.getElem?_eq_getElem hk2]
          exact List.getElem_mem hk2
      · unfold wrS
        exact (((tAg.rf.I (by omega)).I (by omega)).I (by omega)).N (by omega)
  · rintro E σ8 ⟨rfl, hx⟩
    refine t1_thr h (by decide) (by decide) (fun b τ9 h2 => ?_) hx
    rcases h2 with h2 | ⟨k, T, tx, sz, td, w9, hk, e, hn, -⟩
    · exact Or.inl h2
    · exact Or.inr ⟨k, hk, e, hn⟩

/-! changes, orders, fourPoints -/
theorem chg_eq {σ τ : St} (h : RX σ τ) {i w : Nat} (hi : i < 8) (hw : w < 8) (h0 : ¬ mN τ i = 0) {g : Nat → Int32} (hE : mcE τ i w g 0) : lcC (fcR (tK σ (tS σ i)) (iA σ 48) (w * 12) (pp σ (tS σ i)) (nn σ (tS σ i)) (iA σ 50)) 0 = mn (mn (mn (g 0) (g 1)) (g 2)) (g 3) := by
  have hs := h.sh hi
  have hf := sh_SF hs h0
  have h47 := sh_47 hs
  obtain ⟨π, ρ, hI⟩ := hs.2.2.2
  have hP := hf.2.2.2.1.1
  have key := ch_eq (R := fcR (tK σ (tS σ i)) (iA σ 48) (w * 12) (pp σ (tS σ i)) (nn σ (tS σ i)) (iA σ 50)) (g := g) (I := fun v s => ini (tK σ (tS σ i)) (iA σ 48) (w * 12) (v * 4 + s)) (I9 := fun v s => mcI τ i w v s) (q9 := fun v => mCq τ i v) hI hP hf.2.2.2.2.2.1 h47 hf.1 ?_ ?_ (fun v u hv hu => mCq_i hs hf hv hu) ?_
  · have e : ∀ s, s < 4 → fcR (tK σ (tS σ i)) (iA σ 48) (w * 12) (pp σ (tS σ i)) (nn σ (tS σ i)) (iA σ 50) (0 * 4 + s) = g s := fun s hs4 => by
      have := key 0 hf.1 s hs4
      rw [hI.2.1] at this
      rw [this]
      congr 1
      omega
    have e0 := e 0 (by omega)
    have e1 := e 1 (by omega)
    have e2 := e 2 (by omega)
    have e3 := e 3 (by omega)
    unfold lcC
    rw [show 0 * 4 = 0 * 4 + 0 from rfl, e0, show 0 * 4 + 0 + 1 = 0 * 4 + 1 from rfl, show 0 * 4 + 0 + 2 = 0 * 4 + 2 from rfl, show 0 * 4 + 0 + 3 = 0 * 4 + 3 from rfl, e1, e2, e3]
  · intro v s hv hs4
    have e := fcD_eq (P := pp σ (tS σ i)) hs4 (nn σ (tS σ i) - 1) (fillG (ini (tK σ (tS σ i)) (iA σ 48) (w * 12)) (iA σ 50) (nn σ (tS σ i) * 4)) v (fun u q1 q2 => hP u q1 (by omega))
    rw [show nn σ (tS σ i) - 1 + 1 = nn σ (tS σ i) by omega] at e
    have e2 : fillG (ini (tK σ (tS σ i)) (iA σ 48) (w * 12)) (iA σ 50) (nn σ (tS σ i) * 4) (v * 4 + s) = ini (tK σ (tS σ i)) (iA σ 48) (w * 12) (v * 4 + s) := if_pos (by omega)
    rw [e2] at e
    exact e
  · intro v s hv hs4
    have e := hE v (by omega) (by rw [hf.2.1]; exact hv) s hs4
    rw [e]
    unfold mcR
    rw [hf.2.1]
  · intro v s hv hs4
    have eK := hI.2.2.1 v hv
    have hk9 := hf.2.2.2.2.1.2.2.1 (π v) (hI.1 v hv).1
    show ini (tK σ (tS σ i)) (iA σ 48) (w * 12) (v * 4 + s) = mcI τ i w (π v) s ∧ ∃ c, c ≤ 1000 ∧ ini (tK σ (tS σ i)) (iA σ 48) (w * 12) (v * 4 + s) = nI c
    unfold ini mcI
    rw [show (v * 4 + s) / 4 = v by omega, show (v * 4 + s) % 4 = s by omega, eK]
    rcases hk9 with e | ⟨q, hq, e⟩
    · rw [e, if_pos rfl, if_pos (by decide)]
      exact ⟨rfl, 0, by omega, rfl⟩
    · rw [e, if_neg (nI_m1 (by omega)), if_neg (fun z => (z_lt (by omega)).mp z), nI_clamp (by omega), h.sta _ (by omega), show w * 12 + q = 12 * w + q by omega]
      refine ⟨rfl, ?_⟩
      split
      · exact ⟨0, by omega, rfl⟩
      · exact ⟨1000, by omega, rfl⟩
theorem s_changes {σ τ : St} (h : RX σ τ) (x y : Int32) : SX exCut (fun r σ9 => ∃ i, i < 8 ∧ x = nI i ∧ ¬ tN σ (tS σ i) = 0 ∧ ∃ q, q < 8 ∧ y = nI q ∧ σ9 = sI σ 50 (fcR (tK σ (tS σ i)) (iA σ 48) (q * 12) (pp σ (tS σ i)) (nn σ (tS σ i)) (iA σ 50)) ∧ r = lcC (fcR (tK σ (tS σ i)) (iA σ 48) (q * 12) (pp σ (tS σ i)) (nn σ (tS σ i)) (iA σ 50)) 0) (fun E σ9 => σ9 = σ ∧ (t1X σ x E ∨ (E = xIAE ∧ (∃ i, i < 8 ∧ x = nI i ∧ ¬ tN σ (tS σ i) = 0) ∧ ¬ okI 8 y))) (mchP τ x y) σ τ := by
  constructor
  · rintro r σ8 ⟨i, hi, rfl, ho, q, hq, rfl, rfl, rfl⟩
    refine ⟨mAg.rf.I (by omega), ?_⟩
    rintro b τ9 (h2 | ⟨k, hk, e, hn, (⟨hny, -⟩ | ⟨w, g, hw, e2, hE, rfl, rfl⟩)⟩)
    · exact absurd h2 (mt1_no h hi ho)
    · exact absurd ⟨q, hq, rfl⟩ hny
    · have z1 := (nI8 hi hk).mp e
      have z2 := (nI8 hq hw).mp e2
      subst z1; subst z2
      exact ⟨cAg_t.I (by omega), mT_t (τ := τ), (chg_eq h hi hq hn hE).symm, h.tape, h.fau, h.wri, h.tri, h.sig, h.sta, h.dis, rTre_c (tAg.rf.I (by omega)) (rTre_m rfl rfl rfl h.tre)⟩
  · rintro E σ8 ⟨rfl, (hx | ⟨rfl, ⟨i, hi, rfl, hn⟩, hny⟩)⟩
    · refine t1_thr h (by decide) (by decide) (fun b τ9 h2 => ?_) hx
      rcases h2 with h2 | ⟨k, hk, e, hn, -⟩
      · exact Or.inl h2
      · exact Or.inr ⟨k, hk, e, hn⟩
    · refine SX_no h (c := 3) (by decide) ?_
      rintro b τ9 (h2 | ⟨k, hk, e, -, (⟨-, rfl⟩ | ⟨w, g, hw, e2, -⟩)⟩)
      · exact absurd h2 (mt1_no h hi hn)
      · rfl
      · exact absurd ⟨w, hw, e2⟩ hny
/-! orders -/
theorem cfo_sum {q : Nat → Prop} {f : Nat → Nat} : ∀ n, cfo q (fun u a => a + f u) 0 n = sumU (fun u => cI (q u) (f u) 0) n
  | 0 => rfl
  | n + 1 => by
    show _ = sumU (fun u => cI (q u) (f u) 0) n + cI (q n) (f n) 0
    by_cases e : q n
    · rw [cfo_y e, cI_t e, cfo_sum n]
    · rw [cfo_n e, cI_f e, cfo_sum n]; rfl
theorem cfo_snd {q : Nat → Prop} {g : Nat → Int64} {I : Nat → Nat} : ∀ n, (cfo q (fun u a => (a.1 * (g u * cho (a.2 + I u) (I u)), a.2 + I u)) ((1 : Int64), 0) n).2 = cfo q (fun u a => a + I u) 0 n
  | 0 => rfl
  | n + 1 => by
    by_cases e : q n
    · rw [cfo_y e, cfo_y e, ← cfo_snd (g := g) n]
    · rw [cfo_n e, cfo_n e, cfo_snd n]
theorem in_cnt {n : Nat} {K : Nat → Int32} : ∀ m, sumU (fun v => oN (K v)) m + cntU (fun v => ¬ K v = -1) m = m
  | 0 => rfl
  | m + 1 => by
    have ih := in_cnt (n := n) (K := K) m
    show sumU (fun v => oN (K v)) m + oN (K m) + _ = _
    by_cases e : K m = -1
    · rw [cntU_n (q := fun v => ¬ K v = -1) (fun z => z e), show oN (K m) = 1 from if_pos e]; omega
    · rw [cntU_y (q := fun v => ¬ K v = -1) e, show oN (K m) = 0 from if_neg e]; omega
theorem in_23 {n : Nat} {P : Nat → Nat} {K : Nat → Int32} (hT : TV n P K) (h47 : n ≤ 47) : sumU (fun v => oN (K v)) n ≤ 23 := by
  have h1 := tv_cnt hT
  have h2 := in_cnt (n := n) (K := K) n
  omega
theorem or_pre {σ τ : St} (h : RX σ τ) : ∀ i, i < 8 → ¬ mN τ i = 0 → ∃ I, moI τ i I ∧ ∀ v, v < mN τ i → I v ≤ 29 := by
  intro i hi h0
  have hs := h.sh hi
  have hf := sh_SF hs h0
  have h47 := sh_47 hs
  have hP9 := hf.2.2.2.2.2.1
  refine ⟨wS (nn σ (tS σ i)) (mp τ i) (fun v => oN (mK τ i v)), fun v hv => ?_, fun v hv => ?_⟩
  · rw [hf.2.1] at hv ⊢
    rw [cfo_sum, wS_eq hP9 hf.1 v, Nat.add_comm]
    congr 1
    · refine sumU_c _ (fun u hu => ?_)
      by_cases e : mCq τ i v u
      · rw [cI_t e, if_pos ((mCq_i hs hf hv hu).mp e)]
      · rw [cI_f e, if_neg (fun z => e ((mCq_i hs hf hv hu).mpr z))]
    · show oN (mK τ i v) = if mK τ i v < 0 then 1 else 0
      have hk := neg_m1 (hf.2.2.2.2.1.2.2.1 v hv)
      unfold oN
      by_cases e : mK τ i v = -1
      · rw [if_pos e, if_pos (hk.mpr e)]
      · rw [if_neg e, if_neg (fun z => e (hk.mp z))]
  · rw [hf.2.1] at hv
    have h1 := wS_le (w := fun v => oN (mK τ i v)) hP9 hf.1 v hv
    have h2 := in_23 hf.2.2.2.2.1 h47
    omega
theorem ord_eq {σ τ : St} (h : RX σ τ) {i : Nat} (hi : i < 8) (h0 : ¬ mN τ i = 0) {g : Nat → Int64} {I : Nat → Nat} (hI : moI τ i I) (hE : moE τ i g I 0) : orD (pp σ (tS σ i)) (tK σ (tS σ i)) (nn σ (tS σ i) - 1) (fillJ (fun _ => 1) (jA σ 51) (nn σ (tS σ i))) (fun _ => 0) 0 = g 0 := by
  have hs := h.sh hi
  have hf := sh_SF hs h0
  have h47 := sh_47 hs
  obtain ⟨π, ρ, hIso⟩ := hs.2.2.2
  have hP := hf.2.2.2.1.1
  have hPm : ∀ u, 0 < u → u ≤ nn σ (tS σ i) - 1 → pp σ (tS σ i) u < u := fun u q1 q2 => hP u q1 (by have := hf.1; omega)
  have hn1 : nn σ (tS σ i) - 1 + 1 = nn σ (tS σ i) := by have := hf.1; omega
  have hsum : sumU (fun u => (fun _ => 0) u + oN (tK σ (tS σ i) u)) (nn σ (tS σ i) - 1 + 1) ≤ 29 := by
    rw [hn1]
    have h2 := in_23 hf.2.2.1 h47
    have e : sumU (fun u => (fun _ => 0) u + oN (tK σ (tS σ i) u)) (nn σ (tS σ i)) = sumU (fun v => oN (tK σ (tS σ i) v)) (nn σ (tS σ i)) := sumU_c _ (fun u _ => Nat.zero_add _)
    omega
  rw [orD_E _ _ _ hPm hsum]
  have key := or_eq (y := (orE (pp σ (tS σ i)) (tK σ (tS σ i)) (nn σ (tS σ i) - 1) (fillJ (fun _ => 1) (jA σ 51) (nn σ (tS σ i))) (fun _ => 0)).1) (B := (orE (pp σ (tS σ i)) (tK σ (tS σ i)) (nn σ (tS σ i) - 1) (fillJ (fun _ => 1) (jA σ 51) (nn σ (tS σ i))) (fun _ => 0)).2) (g := g) (I := I) (q9 := fun v => mCq τ i v) hIso hP ?_ ?_ ?_ (fun v u hv hu => mCq_i hs hf hv hu)
  · have := (key 0 hf.1).1
    rw [hIso.2.1] at this
    exact this
  · intro v hv
    have e := orE_eq (P := pp σ (tS σ i)) (K := tK σ (tS σ i)) (nn σ (tS σ i) - 1) (fillJ (fun _ => 1) (jA σ 51) (nn σ (tS σ i))) (fun _ => 0) v hPm
    rw [hn1] at e
    have e2 : fillJ (fun _ => 1) (jA σ 51) (nn σ (tS σ i)) v = 1 := if_pos hv
    rw [e2] at e
    exact e
  · intro v hv
    have e := hE v (by omega) (by rw [hf.2.1]; exact hv)
    unfold moR at e
    rw [hf.2.1] at e
    exact e
  · intro v hv
    have e := hI v (by rw [hf.2.1]; exact hv)
    rw [hf.2.1] at e
    rw [cfo_snd]
    have hk := neg_m1 (hf.2.2.2.2.1.2.2.1 v hv)
    have e3 : (if mK τ i v < 0 then 1 else 0) = oN (mK τ i v) := by
      unfold oN
      by_cases z : mK τ i v = -1
      · rw [if_pos z, if_pos (hk.mpr z)]
      · rw [if_neg z, if_neg (fun q => z (hk.mp q))]
    rw [e3] at e
    exact e
theorem s_orders {σ τ : St} (h : RX σ τ) (x : Int32) : SX (α := Int64) exHas (fun r σ9 => ∃ i, i < 8 ∧ x = nI i ∧ ¬ tN σ (tS σ i) = 0 ∧ ∃ y g, σ9 = sI (sJ σ 51 y) 52 g ∧ r = orD (pp σ (tS σ i)) (tK σ (tS σ i)) (nn σ (tS σ i) - 1) (fillJ (fun _ => 1) (jA σ 51) (nn σ (tS σ i))) (fun _ => 0) 0) (fun E σ9 => σ9 = σ ∧ t1X σ x E) (morP τ x) σ τ := by
  constructor
  · rintro r σ8 ⟨i, hi, rfl, ho, y, g, rfl, rfl⟩
    refine ⟨(mAg.rf.J (by omega)).I (by omega), ?_⟩
    rintro b τ9 (h2 | ⟨k, g9, I, hh, d, hk, e, hn, hI, hE, rfl, rfl⟩)
    · exact absurd h2 (mt1_no h hi ho)
    · have z1 := (nI8 hi hk).mp e
      subst z1
      exact ⟨((cAg_t.J (by omega)).I (by omega)).J (by omega), mT_t (τ := τ), (ord_eq h hi hn hI hE).symm, h.tape, h.fau, h.wri, h.tri, h.sig, h.sta, h.dis, rTre_c (tAg.rf.J.I (by omega)) (rTre_m rfl rfl rfl h.tre)⟩
  · rintro E σ8 ⟨rfl, hx⟩
    refine t1_thr h (by decide) (by decide) (fun b τ9 h2 => ?_) hx
    rcases h2 with h2 | ⟨k, g9, I, hh, d, hk, e, hn, -⟩
    · exact Or.inl h2
    · exact Or.inr ⟨k, hk, e, hn⟩
/-! fourPoints -/
theorem s_fourPoints {σ τ : St} (h : RX σ τ) (N : Nat) (hN : N ≤ 12) : SN (fun r σ9 => σ9 = σ ∧ r = pI (∀ i j k t, i ≤ j → j ≤ k → k ≤ t → t < N → fpP σ i j k t)) (fun r σ9 => σ9 = mT τ 0 ∧ r = pI (mf4 τ N N)) σ τ := by
  rintro r σ8 ⟨e, rfl⟩
  rw [e]
  refine ⟨mAg.rf, ?_⟩
  rintro b τ9 ⟨rfl, rfl⟩
  refine ⟨cAg_t, pI_c ?_, RX_t h⟩
  obtain ⟨N9, _, _, _, _, _, _, _, hD, _⟩ := h.dis
  have hQ : ∀ i j k t, i < N → j < N → k < N → t < N → (mfQ τ i j k t ↔ fpP σ i j k t) := by
    intro i j k t hi hj hk ht
    show itP (mD τ i j + mD τ k t) (mD τ i k + mD τ j t) (mD τ i t + mD τ j k) ↔ tgP (dS σ i j + dS σ k t) (dS σ i k + dS σ j t) (dS σ i t + dS σ j k)
    rw [tg_it, mD_dS h (show i < 12 by omega) (show j < 12 by omega), mD_dS h (show k < 12 by omega) (show t < 12 by omega), mD_dS h (show i < 12 by omega) (show k < 12 by omega), mD_dS h (show j < 12 by omega) (show t < 12 by omega), mD_dS h (show i < 12 by omega) (show t < 12 by omega), mD_dS h (show j < 12 by omega) (show k < 12 by omega)]
  have sy : ∀ a b, a < N → b < N → dS σ a b = dS σ b a := fun a b ha hb => hD.1 a b (by omega) (by omega)
  -- two neighbours change places
  have w12 : ∀ i j k t, i < N → j < N → k < N → t < N → fpP σ i j k t → fpP σ j i k t := by
    intro i j k t hi hj hk ht q
    have q2 : tgP (dS σ i j + dS σ k t) (dS σ i k + dS σ j t) (dS σ i t + dS σ j k) := q
    show tgP (dS σ j i + dS σ k t) (dS σ j k + dS σ i t) (dS σ j t + dS σ i k)
    rw [sy j i hj hi, Int32.add_comm (dS σ j k), Int32.add_comm (dS σ j t)]
    exact tg_it.mpr (it_rt (tg_it.mp q2))
  have w23 : ∀ i j k t, i < N → j < N → k < N → t < N → fpP σ i j k t → fpP σ i k j t := by
    intro i j k t hi hj hk ht q
    have q2 : tgP (dS σ i j + dS σ k t) (dS σ i k + dS σ j t) (dS σ i t + dS σ j k) := q
    show tgP (dS σ i k + dS σ j t) (dS σ i j + dS σ k t) (dS σ i t + dS σ k j)
    rw [sy k j hk hj]
    exact tg_it.mpr (it_sw (tg_it.mp q2))
  have w34 : ∀ i j k t, i < N → j < N → k < N → t < N → fpP σ i j k t → fpP σ i j t k := by
    intro i j k t hi hj hk ht q
    have q2 : tgP (dS σ i j + dS σ k t) (dS σ i k + dS σ j t) (dS σ i t + dS σ j k) := q
    show tgP (dS σ i j + dS σ t k) (dS σ i t + dS σ j k) (dS σ i k + dS σ j t)
    rw [sy t k ht hk]
    exact tg_it.mpr (it_rt (tg_it.mp q2))
  constructor
  · intro q i j k t h1 h2 h3 h4
    exact (hQ i j k t (by omega) (by omega) (by omega) h4).mp (q i (by omega) j (by omega) k (by omega) t h4)
  · intro q
    have l1 : ∀ i j k t, i < N → j ≤ k → k ≤ t → t < N → fpP σ i j k t := by
      intro i j k t hi h1 h2 h3
      rcases Nat.lt_or_ge j i with z | z
      · rcases Nat.lt_or_ge k i with z2 | z2
        · rcases Nat.lt_or_ge t i with z3 | z3
          · exact w12 j i k t (by omega) hi (by omega) h3 (w23 j k i t (by omega) (by omega) hi h3 (w34 j k t i (by omega) (by omega) h3 hi (q j k t i h1 h2 (by omega) hi)))
          · exact w12 j i k t (by omega) hi (by omega) h3 (w23 j k i t (by omega) (by omega) hi h3 (q j k i t h1 (by omega) z3 h3))
        · exact w12 j i k t (by omega) hi (by omega) h3 (q j i k t (by omega) z2 h2 h3)
      · exact q i j k t z h1 h2 h3
    have l2 : ∀ i j k t, i < N → j < N → k ≤ t → t < N → fpP σ i j k t := by
      intro i j k t hi hj h2 h3
      rcases Nat.lt_or_ge k j with z | z
      · rcases Nat.lt_or_ge t j with z2 | z2
        · exact w23 i k j t hi (by omega) hj h3 (w34 i k t j hi (by omega) h3 hj (l1 i k t j hi h2 (by omega) hj))
        · exact w23 i k j t hi (by omega) hj h3 (l1 i k j t hi (by omega) z2 h3)
      · exact l1 i j k t hi z h2 h3
    intro i hi j hj k hk t ht
    refine (hQ i j k t hi hj hk ht).mpr ?_
    rcases Nat.lt_or_ge t k with z | z
    · exact w34 i j t k hi hj ht hk (l2 i j t k hi hj (by omega) hk)
    · exact l2 i j k t hi hj z ht

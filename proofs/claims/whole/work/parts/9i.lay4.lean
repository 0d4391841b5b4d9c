/-! doublings, losses -/
theorem least_ex {q : Nat → Prop} (n : Nat) : q n → ∃ m, m ≤ n ∧ q m ∧ ∀ u, u < m → ¬ q u := by
  induction n using Nat.strongRecOn with
  | ind n ih =>
    intro h
    by_cases z : ∃ u, u < n ∧ q u
    · obtain ⟨u, hu, hq⟩ := z
      obtain ⟨m, h1, h2, h3⟩ := ih u hu hq
      exact ⟨m, by omega, h2, h3⟩
    · exact ⟨n, Nat.le_refl _, h, fun u hu hq => z ⟨u, hu, hq⟩⟩
theorem mtT_of {σ τ : St} {i : Nat} (h : rSh σ τ i) : mtT τ i := by
  intro g hg hk
  have hf := sh_SF h (by omega)
  have hm := h.2.1
  have hT := hf.2.2.2.2.1
  rw [hf.2.1] at hg
  have h47 := sh_47 h
  obtain ⟨a, b, a0, ab, hb, ea, eb⟩ := hT.2.2.2 g hg ((neg_m1 (hT.2.2.1 g hg)).mp hk)
  have hPP : ∀ u, 0 < u → u < mN τ i → mp τ i u = g → mP τ i u = nI g ∧ g < u := fun u h0 hu e => by
    have := hm.2.2.1 u h0 hu
    rw [e] at this
    exact this
  have hn := hf.2.1
  obtain ⟨o, o1, ⟨o2, o3, o4⟩, o5⟩ := least_ex (q := fun u => g < u ∧ u < mN τ i ∧ mP τ i u = nI g) a ⟨(hPP a a0 (by omega) ea).2, by omega, (hPP a a0 (by omega) ea).1⟩
  obtain ⟨t, t1, ⟨t2, t3, t4⟩, t5⟩ := least_ex (q := fun u => o < u ∧ u < mN τ i ∧ mP τ i u = nI g) b ⟨by omega, by omega, (hPP b (by omega) (by omega) eb).1⟩
  exact ⟨o, t, o2, o3, by omega, t3, Or.inl ⟨o, o2, o3, o4, fun u u1 u2 e => o5 u u2 ⟨u1, by omega, e⟩, rfl⟩, Or.inl ⟨t, t2, t3, t4, fun u u1 u2 e => t5 u u2 ⟨u1, by omega, e⟩, rfl⟩⟩
theorem pl_23 {σ τ : St} {i : Nat} (h : rSh σ τ i) (hp : mPl τ i) : nn σ (tS σ i) ≤ 23 := by
  have hf := pl_SF h hp
  have h1 := tv_cnt hf.2.2.1
  have h2 := (plain_iff hf.2.2.1 hf.2.2.2.1).mpr ((pl_m h hf).mp hp)
  have h3 := pc_12 (cB (nn σ (tS σ i)) (pp σ (tS σ i)) (tK σ (tS σ i)) 0)
  omega
theorem lyH_of {σ τ : St} (h : RX σ τ) : lyH σ := by
  constructor
  · intro j hj _ i hi
    have ht := h.tre.1.2 j hj
    exact ft_two (ft_O ht.2.1 (fun v h0 hv => (ht.2.2.1 v h0 hv).2) i hi) ht.2.1
  · intro i hi ho _
    have ht := h.tre.1.2 (tS σ i) (h.tre.1.1 i (by omega))
    have h23 := pl_23 (h.sh hi) ((pl_eq (h.sh hi)).mp ho)
    exact ⟨h23, fun v hv => ft_two (ft_O ht.2.1 (fun v h0 hv => (ht.2.2.1 v h0 hv).2) v hv) h23⟩
theorem tp_root {n : Nat} {P : Nat → Nat} (hW : PW n P) : ∀ k v, v < k → mAb (tp n P) 0 v
  | 0, _, h => absurd h (by omega)
  | k + 1, v, h => by
    rcases Nat.eq_zero_or_pos v with z | z
    · rw [z]; exact mAb_r
    · have := tp_lt hW v z
      exact (mAb_s (by omega)).mpr (tp_root hW k _ (by omega))
/-- the class's value: the least of all ways -/
theorem ly_val {ng nk : Nat} {Pg Pk : Nat → Nat} {Kg Kk f1 f2 f3 f4 f : Nat → Int32} (hTg : TV ng Pg Kg) (hTk : TV nk Pk Kk) (hWk : PW nk Pk) (hng : ng ≤ 47) (hnk : nk ≤ 23) (hbg : ∀ v, v < ng → nCh ng Pg v ≤ 2) (hbk : ∀ v, v < nk → nCh nk Pk v ≤ 2) : Uv (fun c => ∃ m, m < nk ∧ AA ng Pg Kg nk (tp nk Pk) Kk 0 m c) (lyD (ftO Pg ng f1 f2).1 (ftO Pg ng f1 f2).2 (ftO Pk nk f3 f4).1 (ftO Pk nk f3 f4).2 Kg Kk nk ng f NEV).2 := by
  have hPg : PB ng Pg := fun v h0 hv => (hTg.2.1 v h0 hv).1
  have hPk : PB nk Pk := fun v h0 hv => (hTk.2.1 v h0 hv).1
  refine ly_sp (tp_lt hWk) (tp_0 hWk) hnk hng ?_ ?_ ?_ hTg.1 ng f NEV (Nat.le_refl _) (fun y h1 h2 => absurd h2 (by omega)) (Or.inl hTg.1)
  · intro g m c hg hA
    have h1 := AA_le hPg hTg.1 hnk g hg m c hA
    have h2 := wS_le (w := fun _ => 1) hPg hTg.1 g hg
    rw [sum_one] at h2
    omega
  · intro g hg
    rcases ft_K hTg hg (ft_O (f := f1) (g := f2) hng hPg g hg) with ⟨k, e, _⟩ | ⟨k, a, b, ha, hb, hab, e1, e2⟩
    · refine Or.inl ⟨e, fun m hm c => ?_⟩
      rw [AA_leaf hPg hg k]
      exact ⟨fun q => ⟨q.1.symm, q.2⟩, fun q => ⟨q.1.symm, q.2⟩⟩
    · have q1 := hPg a ha.1 ha.2.1
      have q2 := hPg b hb.1 hb.2.1
      rw [ha.2.2] at q1
      rw [hb.2.2] at q2
      exact Or.inr ⟨a, b, q1, ha.2.1, q2, hb.2.1, e1, e2, fun m c => AA_two hPg hg k (hbg g hg) ha hb hab⟩
  · intro i hi
    rcases ft_K hTk hi (ft_O (f := f3) (g := f4) (by omega) hPk i hi) with ⟨k, e, hno⟩ | ⟨k, a, b, ha, hb, hab, e1, e2⟩
    · refine Or.inl ⟨e, fun u hu hA => ?_⟩
      refine Classical.byContradiction (fun z => ?_)
      obtain ⟨s1, _, _, s4, s5⟩ := ab_side (tp_lt hWk) (tp_0 hWk) (u + 1) u (by omega) hA z
      rw [tp_in (by omega)] at s1
      exact hno _ s4 (by omega) s1
    · have q1 := hPk a ha.1 ha.2.1
      have q2 := hPk b hb.1 hb.2.1
      rw [ha.2.2] at q1
      rw [hb.2.2] at q2
      refine Or.inr ⟨a, b, q1, ha.2.1, q2, hb.2.1, hab, (tp_in ha.2.1).trans ha.2.2, (tp_in hb.2.1).trans hb.2.2, e1, e2, fun u u1 u2 u3 => ?_⟩
      rw [tp_in u2] at u3
      exact ch_two (hbk i hi) ha hb ⟨u1, u2, u3⟩ hab
/-- both values -/
theorem ly_eq {σ τ : St} {i k : Nat} (h : rSh σ τ i) (h2 : rSh σ τ k) (ho : lyOk σ i k) {D L : Nat → Int32} (hE : ∀ x, x < mN τ i → ∀ m9, m9 < mN τ k → lzE τ i k D L x m9) : ∃ d l, l < 10000 ∧ d ≤ 47 ∧ lyV σ (tS σ i) (tS σ k) = nI (10000 * d + l) ∧ D (lbB D L (mN τ k)) = nI d ∧ L (lbB D L (mN τ k)) = nI l := by
  obtain ⟨o1, o2, o3, o4, o5⟩ := ho
  have hf := sh_SF h (fun z => o1 ((sh_z h).mpr z))
  have hp2 := (pl_eq h2).mp o2
  have hf2 := pl_SF h2 hp2
  have h23 := pl_23 h2 hp2
  have h47 := sh_47 h
  have b1 := (bi_c h).mp o3
  have b2 := (bi_c h2).mp o4
  obtain ⟨πg, ρg, hIg, _⟩ := sh_iso h hf
  obtain ⟨πk, ρk, hIk, _⟩ := sh_iso h2 hf2
  have hPg : PB (nn σ (tS σ i)) (pp σ (tS σ i)) := hf.2.2.2.1.1
  have hPg9 : PB (nn σ (tS σ i)) (mp τ i) := hf.2.2.2.2.2.1
  have hU : Uv _ (lyV σ (tS σ i) (tS σ k)) := ly_val (f1 := iA σ 60) (f2 := iA σ 61) (f3 := iA σ 62) (f4 := iA σ 63) (f := iA σ 59) hf.2.2.1 hf2.2.2.1 hf2.2.2.2.1 h47 h23 b1 b2
  have e1 := hf.2.1
  have e2 := hf2.2.1
  have hb9 : ∀ v, v < mN τ i → nCh (mN τ i) (mp τ i) v ≤ 2 := by
    rw [e1]
    intro v hv
    have q := (hIg.1 v hv).2
    have := iso_nCh hIg hPg q.1
    rw [q.2.2] at this
    rw [← this]
    exact b1 _ q.1
  have hrow := lz_row h.2.1 h2.2.1 (by rw [e1]; exact hf.2.2.2.2.1) hb9 (by rw [e2]; exact h23) hE 0 (by rw [e1]; exact hf.1)
  have hw : wS (mN τ i) (mp τ i) (fun _ => 1) 0 ≤ 47 := by
    have q : PB (mN τ i) (mp τ i) := by rw [e1]; exact hPg9
    have := wS_le (w := fun _ => 1) q (by rw [e1]; exact hf.1) 0 (by rw [e1]; exact hf.1)
    rw [sum_one] at this
    omega
  have hC := lb_least (B := 47) (D := D) (L := L) (C := fun m c => AA (mN τ i) (mp τ i) (mK τ i) (mN τ k) (mq τ k) (mK τ k) 0 m c) (by omega) (mN τ k) (by rw [e2]; exact hf2.1) (fun m hm => by
    have := Cd_B hw (hrow m hm)
    rw [show 47 * 0 + m = m by omega] at this
    exact this)
  have hq : mq τ k = tp (nn σ (tS σ k)) (mp τ k) := by rw [← e2]; rfl
  have hset : ∀ c, (∃ m, m < mN τ k ∧ AA (mN τ i) (mp τ i) (mK τ i) (mN τ k) (mq τ k) (mK τ k) 0 m c) ↔ ∃ m, m < nn σ (tS σ k) ∧ AA (nn σ (tS σ i)) (pp σ (tS σ i)) (tK σ (tS σ i)) (nn σ (tS σ k)) (tp (nn σ (tS σ k)) (pp σ (tS σ k))) (tK σ (tS σ k)) 0 m c := by
    intro c
    rw [hq, e1, e2]
    have hiso := iso_AA hIg hPg hPg9 hIk hf2.2.2.2.1 hf2.2.2.2.2.2 0 hf.1
    rw [hIg.2.1] at hiso
    constructor
    · rintro ⟨m, hm, q⟩
      have r := (hIk.1 m hm).2
      exact ⟨ρk m, r.1, (hiso _ r.1 c).mpr (by rw [r.2.2]; exact q)⟩
    · rintro ⟨m, hm, q⟩
      exact ⟨πk m, (hIk.1 m hm).1, (hiso m hm c).mp q⟩
  have hC := Cd_c hset hC
  have hsub : Sb (cR σ (tS σ i)) (cR σ (tS σ k)) := by
    have := o5
    rw [sb_not, sh_aK h hf, sh_aK h2 hf2] at this
    exact this
  obtain ⟨m0, c0, hm0, hA0⟩ := AA_ex (Kk := tK σ (tS σ k)) hf.2.2.1 (tp_lt hf2.2.2.2.1) (tp_0 hf2.2.2.2.1) (fun v _ => tp_root hf2.2.2.2.1 (v + 1) v (by omega)) hf2.1 (fun g hg hk => by
    rcases hf.2.2.1.2.2.1 g hg with z | ⟨q, hq, z⟩
    · exact absurd z hk
    · have i1 : In q (cR σ (tS σ i)) := (cB_leaf hf.2.2.2.1 hf.2.2.1.2.2.1 hf.1).mpr ⟨hq, g, hg, z, ab_root hf.2.2.2.1 g hg⟩
      obtain ⟨_, w, hw, ew, _⟩ := (cB_leaf hf2.2.2.2.1 hf2.2.2.1.2.2.1 hf2.1).mp (hsub q i1)
      exact ⟨w, hw, by rw [ew, z]⟩) 0 hf.1
  rcases hC with ⟨_, hn⟩ | ⟨d, l, es, hd, hl, hc, hmin⟩
  · exact absurd ⟨m0, hm0, hA0⟩ (hn c0)
  · obtain ⟨a, ea, _, hu⟩ := hU
    rcases hu with ⟨_, hn⟩ | ⟨ha, hca, hmina⟩
    · exact absurd ⟨m0, hm0, hA0⟩ (hn c0)
    · have q1 := hmin a hca
      have q2 := hmina _ hc
      have e : a = 10000 * d + l := by omega
      exact ⟨d, l, by omega, hd, by rw [ea, e], (Prod.mk.inj es).1, (Prod.mk.inj es).2⟩
theorem ly_no {σ τ : St} {i k : Nat} (h : rSh σ τ i) (h2 : rSh σ τ k) : mnlB τ i k ↔ (tN σ (tS σ i) = 0 ∨ ¬ okP σ k ∨ ¬ (biP σ (tS σ i) ∧ biP σ (tS σ k)) ∨ ¬ aK σ (tS σ i) &&& (aK σ (tS σ k) ^^^ (-1)) = 0) := by
  unfold mnlB
  by_cases z : mN τ i = 0
  · exact ⟨fun _ => Or.inl ((sh_z h).mpr z), fun _ => Or.inl z⟩
  · have hf := sh_SF h z
    have z9 : ¬ tN σ (tS σ i) = 0 := fun w => z ((sh_z h).mp w)
    by_cases hp : mPl τ k
    · have hf2 := pl_SF h2 hp
      have ho := (pl_eq h2).mpr hp
      rw [bi_eq h hf, bi_eq h2 hf2, sh_aK h hf, sh_aK h2 hf2, sh_mKs h hf, sh_mKs h2 hf2]
      constructor
      · rintro (w | w | w | w | w)
        · exact absurd w z
        · exact Or.inr (Or.inr (Or.inl (fun q => w q.1)))
        · exact absurd hp w
        · exact Or.inr (Or.inr (Or.inl (fun q => w q.2)))
        · exact Or.inr (Or.inr (Or.inr w))
      · rintro (w | w | w | w)
        · exact absurd w z9
        · exact absurd ho w
        · by_cases w9 : mBi τ i
          · exact Or.inr (Or.inr (Or.inr (Or.inl (fun q => w ⟨w9, q⟩))))
          · exact Or.inr (Or.inl w9)
        · exact Or.inr (Or.inr (Or.inr (Or.inr w)))
    · exact ⟨fun _ => Or.inr (Or.inl (fun q => hp ((pl_eq h2).mp q))), fun _ => Or.inr (Or.inr (Or.inl hp))⟩
theorem RX_ly {σ τ : St} {j t : Nat} {g : Nat → Int32} {D L : Nat → Int32} (h : RX σ τ) : RX (lyS σ j t g) (sI (sI (mT τ 0) 25 D) 26 L) := by
  have q : rTre (lyS σ j t g) τ := rTre_c (((((tAg.rf.I (by omega)).I (by omega)).I (by omega)).I (by omega)).I (by omega)) h.tre
  exact ⟨h.tape, h.fau, h.wri, h.tri, h.sig, h.sta, h.dis, rTre_m rfl rfl rfl q⟩
theorem s_lay {σ τ : St} (h : RX σ τ) (x y : Int32) (z : Nat) (F : Int32 → Int32) (hF : ∀ d l, l < 10000 → d ≤ 47 → F (nI (10000 * d + l)) = if z = 0 then nI d else nI l) : SX exHas (fun r σ9 => ∃ i k, i < 8 ∧ k < 8 ∧ x = nI i ∧ y = nI k ∧ lyOk σ i k ∧ (∃ h, σ9 = lyS σ (tS σ i) (tS σ k) h) ∧ r = F (lyV σ (tS σ i) (tS σ k))) (fun E σ9 => σ9 = σ ∧ lyX σ x y E) (mdoP τ x y z) σ τ := by
  constructor
  · rintro r σ8 ⟨i, k, hi, hk, rfl, rfl, ho, ⟨g, rfl⟩, rfl⟩
    refine ⟨((((mAg.rf.I (by omega)).I (by omega)).I (by omega)).I (by omega)).I (by omega), ?_⟩
    rintro b τ9 (⟨hn, -⟩ | ⟨i9, k9, hi9, hk9, e1, e2, h2⟩)
    · exact absurd ⟨⟨i, hi, rfl⟩, ⟨k, hk, rfl⟩⟩ hn
    · have z1 := (nI8 hi hi9).mp e1
      have z2 := (nI8 hk hk9).mp e2
      subst z1; subst z2
      rcases h2 with ⟨hn, -⟩ | ⟨-, D, L, hE, rfl, rfl⟩
      · exfalso
        rcases (ly_no (h.sh hi) (h.sh hk)).mp hn with w | w | w | w
        · exact ho.1 w
        · exact w ho.2.1
        · exact w ⟨ho.2.2.1, ho.2.2.2.1⟩
        · exact w ho.2.2.2.2
      · refine ⟨(cAg_t.I (by omega)).I (by omega), mT_t (τ := τ), ?_, RX_ly h⟩
        obtain ⟨d, l, hl, hd, ev, ed, el⟩ := ly_eq (h.sh hi) (h.sh hk) ho hE
        rw [ev, hF d l hl hd]
        by_cases z0 : z = 0
        · rw [if_pos z0, if_pos z0, ed]
        · rw [if_neg z0, if_neg z0, el]
  · rintro E σ8 ⟨rfl, hx⟩
    rcases hx with ⟨rfl, hn⟩ | ⟨rfl, i, k, hi, hk, rfl, rfl, ho⟩
    · refine SX_no h (c := 1) (by decide) (fun b τ9 h2 => ?_)
      rcases h2 with ⟨-, e⟩ | ⟨i, k, hi, hk, e1, e2, -⟩
      · exact e
      · exact (hn.elim (fun z => z ⟨i, hi, e1⟩) (fun z => z ⟨k, hk, e2⟩)).elim
    · refine SX_no h (c := 2) (by decide) (fun b τ9 h2 => ?_)
      rcases h2 with ⟨hn, -⟩ | ⟨i9, k9, hi9, hk9, e1, e2, h2⟩
      · exact absurd ⟨⟨i, hi, rfl⟩, ⟨k, hk, rfl⟩⟩ hn
      · have z1 := (nI8 hi hi9).mp e1
        have z2 := (nI8 hk hk9).mp e2
        subst z1; subst z2
        rcases h2 with ⟨-, e⟩ | ⟨hn, -⟩
        · exact e
        · exact absurd ((ly_no (h.sh hi) (h.sh hk)).mpr ho) hn
theorem s_doublings {σ τ : St} (h : RX σ τ) (x y : Int32) : SX exHas (fun r σ9 => ∃ i k, i < 8 ∧ k < 8 ∧ x = nI i ∧ y = nI k ∧ lyOk σ i k ∧ (∃ h, σ9 = lyS σ (tS σ i) (tS σ k) h) ∧ r = lyV σ (tS σ i) (tS σ k) / nI 10000) (fun E σ9 => σ9 = σ ∧ lyX σ x y E) (mdoP τ x y 0) σ τ :=
  s_lay h x y 0 (fun v => v / nI 10000) (fun d l hl hd => by
    show nI (10000 * d + l) / nI 10000 = if 0 = 0 then nI d else nI l
    rw [if_pos rfl, pk_div (by omega) (by decide) (by decide)]
    exact congrArg nI (by omega))
theorem s_losses {σ τ : St} (h : RX σ τ) (x y : Int32) : SX exHas (fun r σ9 => ∃ i k, i < 8 ∧ k < 8 ∧ x = nI i ∧ y = nI k ∧ lyOk σ i k ∧ (∃ h, σ9 = lyS σ (tS σ i) (tS σ k) h) ∧ r = lyV σ (tS σ i) (tS σ k) - lyV σ (tS σ i) (tS σ k) / nI 10000 * nI 10000) (fun E σ9 => σ9 = σ ∧ lyX σ x y E) (mdoP τ x y 1) σ τ :=
  s_lay h x y 1 (fun v => v - v / nI 10000 * nI 10000) (fun d l hl hd => by
    show nI (10000 * d + l) - nI (10000 * d + l) / nI 10000 * nI 10000 = if 1 = 0 then nI d else nI l
    rw [if_neg (by decide), pk_rem (by omega) (by decide) (by decide)]
    exact congrArg nI (by omega))

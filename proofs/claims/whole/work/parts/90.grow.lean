/-! A shelf more; trees that grow -/
section sh
variable {σ σ9 τ τ9 : St}
/-- one shelf has changed -/
theorem rTre_up (hr : rTre σ τ) {k : Nat} (hT : ∀ i, i < 9 → tS σ9 i < 9) (hinj : ∀ i j, i < 9 → j < 9 → tS σ9 i = tS σ9 j → i = j) (ho : ∀ i, i < 8 → i ≠ k → tS σ9 i = tS σ i ∧ jAg σ σ9 (tS σ i)) (htr : ∀ j, j < 9 → trOk σ9 j)
    (hm : ∀ i, i < 8 → i ≠ k → iA τ9 2 i = iA τ 2 i ∧ (∀ v, v < 47 → iA τ9 3 (47 * i + v) = iA τ 3 (47 * i + v)) ∧ ∀ v, v < 47 → iA τ9 4 (47 * i + v) = iA τ 4 (47 * i + v)) (hk : k < 8 → rSh σ9 τ9 k) : rTre σ9 τ9 := by
  refine ⟨⟨hT, htr⟩, hinj, fun i hi => ?_⟩
  by_cases e : i = k
  · subst e; exact hk hi
  · obtain ⟨a, b⟩ := ho i hi e
    obtain ⟨c1, c2, c3⟩ := hm i hi e
    exact rSh_m c1 c2 c3 ((rSh_j a b).mpr (hr.2.2 i hi))
theorem rTre_set {G : St} (hr : rTre σ τ) {k : Nat} (hk : k < 8) (hG : ∀ j, j ≠ tS σ 8 → jAg σ G j) (hS : tS G = tS σ) (hc : cTr G (tS σ 8))
    (hm : ∀ i, i < 8 → i ≠ k → iA τ9 2 i = iA τ 2 i ∧ (∀ v, v < 47 → iA τ9 3 (47 * i + v) = iA τ 3 (47 * i + v)) ∧ ∀ v, v < 47 → iA τ9 4 (47 * i + v) = iA τ 4 (47 * i + v))
    (hmk : mtOk τ9 k) (hn : mN τ9 k = nn G (tS σ 8)) (hI : ∃ π ρ, Iso (nn G (tS σ 8)) (pp G (tS σ 8)) (tK G (tS σ 8)) (mp τ9 k) (mK τ9 k) π ρ) : rTre (sT (sT G k (tS σ 8)) 8 (tS σ k)) τ9 := by
  have s1 : tS (sT (sT G k (tS σ 8)) 8 (tS σ k)) 8 = tS σ k := tS_s
  have s2 : tS (sT (sT G k (tS σ 8)) 8 (tS σ k)) k = tS σ 8 := (tS_n (by omega)).trans tS_s
  have s3 : ∀ i, i ≠ 8 → i ≠ k → tS (sT (sT G k (tS σ 8)) 8 (tS σ k)) i = tS σ i := fun i h1 h2 => (tS_n h1).trans ((tS_n h2).trans (by rw [hS]))
  have hlt := hr.1.1
  have hinj := hr.2.1
  refine rTre_up (k := k) hr (fun i hi => ?_) (fun i j hi hj e => ?_) (fun i hi hne => ⟨s3 i (by omega) hne, hG _ (fun e => ?_)⟩) (fun j hj => ?_) hm (fun _ => ?_)
  · by_cases e1 : i = 8
    · subst e1; rw [s1]; exact hlt k (by omega)
    · by_cases e2 : i = k
      · subst e2; rw [s2]; exact hlt 8 (by omega)
      · rw [s3 i e1 e2]; exact hlt i hi
  · by_cases e1 : i = 8
    · subst e1
      rw [s1] at e
      by_cases f1 : j = 8
      · exact f1.symm
      · by_cases f2 : j = k
        · subst f2; rw [s2] at e; exact (hinj j 8 hj (by omega) e).symm
        · rw [s3 j f1 f2] at e; exact absurd (hinj k j (by omega) hj e).symm f2
    · by_cases e2 : i = k
      · subst e2
        rw [s2] at e
        by_cases f1 : j = 8
        · subst f1; rw [s1] at e; exact hinj i 8 hi (by omega) e.symm
        · by_cases f2 : j = i
          · exact f2.symm
          · rw [s3 j f1 f2] at e; exact absurd (hinj 8 j (by omega) hj e).symm f1
      · rw [s3 i e1 e2] at e
        by_cases f1 : j = 8
        · subst f1; rw [s1] at e; exact absurd (hinj i k hi (by omega) e) e2
        · by_cases f2 : j = k
          · subst f2; rw [s2] at e; exact absurd (hinj i 8 hi (by omega) e) e1
          · rw [s3 j f1 f2] at e; exact hinj i j hi hj e
  · have := hinj i 8 (by omega) (by omega) e
    omega
  · by_cases e : j = tS σ 8
    · rw [e]; exact hc.1
    · exact (trOk_j (hG j e)).mpr (hr.1.2 j hj)
  · unfold rSh
    rw [s2]
    exact ⟨hc, hmk, hn, hI⟩
end sh
/-! the rows of a growing tree -/
theorem gth_c {P P9 : Nat → Nat} {M : Nat} : ∀ (m : Nat) (d d9 : Nat → Int32), m ≤ M → (∀ u, 0 < u → u ≤ m → P9 u = P u ∧ P u < u) → (∀ v, v ≤ M → d9 v = d v) → ∀ v, v ≤ M → gath P9 m d9 v = gath P m d v
  | 0, _, _, _, _, hd, v, hv => hd v hv
  | m + 1, d, d9, hm, hP, hd, v, hv => by
    have h1 := hP (m + 1) (by omega) (Nat.le_refl _)
    refine gth_c m _ _ (by omega) (fun u h2 h3 => hP u h2 (by omega)) (fun v hv => ?_) v hv
    show upd d9 (P9 (m + 1)) (d9 (P9 (m + 1)) ||| d9 (m + 1)) v = upd d (P (m + 1)) (d (P (m + 1)) ||| d (m + 1)) v
    rw [h1.1]
    by_cases e : v = P (m + 1)
    · rw [e, pk_us, pk_us, hd _ (by omega), hd _ (by omega)]
    · rw [pk_un e, pk_un e]; exact hd v hv
theorem cB_c {n : Nat} {P P9 : Nat → Nat} {K K9 : Nat → Int32} (hP : ∀ u, 0 < u → u < n → P9 u = P u ∧ P u < u) (hK : ∀ v, v < n → K9 v = K v) {v : Nat} (hv : v < n) : cB n P9 K9 v = cB n P K v := by
  unfold cB
  refine gth_c (M := n - 1) (n - 1) _ _ (Nat.le_refl _) (fun u h1 h2 => hP u h1 (by omega)) (fun v hv => ?_) v (by omega)
  show kB (K9 v) = kB (K v)
  by_cases e : v < n
  · rw [hK v e]
  · exfalso; omega
theorem TV_c {n : Nat} {P P9 : Nat → Nat} {K K9 : Nat → Int32} (h : TV n P K) (hP : ∀ u, 0 < u → u < n → P9 u = P u) (hK : ∀ v, v < n → K9 v = K v) : TV n P9 K9 := by
  obtain ⟨h0, h1, h2, h3⟩ := h
  refine ⟨h0, fun v hv0 hv => ?_, fun v hv => by rw [hK v hv]; exact h2 v hv, fun v hv hk => ?_⟩
  · have := h1 v hv0 hv
    rw [hP v hv0 hv]
    exact ⟨this.1, by rw [hK _ (by omega)]; exact this.2⟩
  · rw [hK v hv] at hk
    obtain ⟨a, b, q1, q2, q3, q4, q5⟩ := h3 v hv hk
    exact ⟨a, b, q1, q2, q3, by rw [hP a q1 (by omega)]; exact q4, by rw [hP b (by omega) q3]; exact q5⟩
theorem Iso_l {n : Nat} {P P9 P8 : Nat → Nat} {K K9 K8 : Nat → Int32} {π ρ : Nat → Nat} (h : Iso n P K P9 K9 π ρ) (h1 : ∀ v, 0 < v → v < n → P8 v = P v) (h2 : ∀ v, v < n → K8 v = K v) : Iso n P8 K8 P9 K9 π ρ :=
  ⟨h.1, h.2.1, fun v hv => by rw [h2 v hv]; exact h.2.2.1 v hv, fun v h0 hv => by rw [h1 v h0 hv]; exact h.2.2.2 v h0 hv⟩
theorem Iso_r2 {n : Nat} {P P9 P8 : Nat → Nat} {K K9 K8 : Nat → Int32} {π ρ : Nat → Nat} (h : Iso n P K P9 K9 π ρ) (h1 : ∀ v, 0 < v → v < n → P8 v = P9 v) (h2 : ∀ v, v < n → K8 v = K9 v) : Iso n P K P8 K8 π ρ :=
  ⟨h.1, h.2.1, fun v hv => by rw [h2 _ (h.1 v hv).1]; exact h.2.2.1 v hv, fun v h0 hv => by rw [h1 _ (iso_pos h h0 hv) (h.1 v hv).1]; exact h.2.2.2 v h0 hv⟩
theorem Iso_id (n : Nat) (P : Nat → Nat) (K : Nat → Int32) : Iso n P K P K id id := ⟨Bij_id n, rfl, fun _ _ => rfl, fun _ _ _ => rfl⟩
/-- what stands in the rows of n nodes -/
abbrev tdP (D : TD) : Nat → Nat := fun u => (D.2.1 u).toNatClampNeg
def tdI (n : Nat) (D : TD) : Prop := D.1 = nLv n D.2.2.1 ∧ (∀ v, v < n → D.2.2.2.1 v = kB (D.2.2.1 v)) ∧ (∀ v, v < n → D.2.2.2.2 v = nI (nCh n (tdP D) v)) ∧ (0 < n → D.2.1 0 = -1) ∧ ∀ v, 0 < v → v < n → ∃ u, u < v ∧ D.2.1 v = nI u
theorem tdI_0 (D : TD) (h : D.1 = 0) : tdI 0 D := ⟨h, fun v h => absurd h (by omega), fun v h => absurd h (by omega), fun h => absurd h (by omega), fun v _ h => absurd h (by omega)⟩
theorem tdI_A {n u : Nat} {k : Int32} {D : TD} (h : tdI n D) (hn : n < 1000) (hu : 0 < n → u < n) : tdI (n + 1) (tdA n u k D) := by
  obtain ⟨h1, h2, h3, h4, h5⟩ := h
  have hK : ∀ v, v < n → (tdA n u k D).2.2.1 v = D.2.2.1 v := fun v hv => pk_un (by omega)
  have hKn : (tdA n u k D).2.2.1 n = k := pk_us
  have hP : ∀ v, v < n → (tdA n u k D).2.1 v = D.2.1 v := fun v hv => pk_un (by omega)
  have hPn : (tdA n u k D).2.1 n = if n = 0 then -1 else nI u := pk_us
  have hpn : tdP (tdA n u k D) n = if n = 0 then 0 else u := by
    show ((tdA n u k D).2.1 n).toNatClampNeg = _
    rw [hPn]
    split
    · decide
    · exact nI_clamp (by omega)
  have hpp : ∀ v, v < n → tdP (tdA n u k D) v = tdP D v := fun v hv => by show ((tdA n u k D).2.1 v).toNatClampNeg = _; rw [hP v hv]
  refine ⟨?_, fun v hv => ?_, fun v hv => ?_, fun _ => ?_, fun v h0 hv => ?_⟩
  · show D.1 + kN k = nLv (n + 1) _
    have hc : nLv n (tdA n u k D).2.2.1 = nLv n D.2.2.1 := cnt_c n (fun v hv => by rw [hK v hv])
    by_cases e : k = -1
    · rw [kN_y e, nLv, cntU_n (q := fun v => ¬ (tdA n u k D).2.2.1 v = -1) (fun z => z (by rw [hKn]; exact e))]
      rw [show cntU (fun v => ¬ (tdA n u k D).2.2.1 v = -1) n = _ from hc, ← h1]; rfl
    · rw [kN_n e, nLv, cntU_y (q := fun v => ¬ (tdA n u k D).2.2.1 v = -1) (by rw [hKn]; exact e)]
      rw [show cntU (fun v => ¬ (tdA n u k D).2.2.1 v = -1) n = _ from hc, ← h1]
  · show upd D.2.2.2.1 n (kB k) v = kB ((tdA n u k D).2.2.1 v)
    by_cases e : v = n
    · subst e; rw [pk_us, hKn]
    · rw [pk_un e, hK v (by omega), h2 v (by omega)]
  · have hcn : ∀ v, nCh n (tdP (tdA n u k D)) v = nCh n (tdP D) v := fun v => cnt_c n (fun w hw => by rw [hpp w hw])
    by_cases hn0 : n = 0
    · subst hn0
      have : v = 0 := by omega
      subst this
      have hr0 : (tdA 0 u k D).2.2.2.2 0 = nI 0 := by
        show upd D.2.2.2.2 0 (nI 0) 0 = _
        exact pk_us
      rw [hr0, nCh, cntU_n (q := fun w => 0 < w ∧ tdP (tdA 0 u k D) w = 0) (fun z => absurd z.1 (by omega))]
      rfl
    · have hu9 := hu (by omega)
      have hrow : (tdA n u k D).2.2.2.2 v = upd (upd D.2.2.2.2 n (nI 0)) u (upd D.2.2.2.2 n (nI 0) u + nI 1) v := by
        show (if n = 0 then upd D.2.2.2.2 n (nI 0) else upd (upd D.2.2.2.2 n (nI 0)) u (upd D.2.2.2.2 n (nI 0) u + nI 1)) v = _
        rw [if_neg hn0]
      rw [hrow]
      have hz : nCh n (tdP D) n = 0 := by
        have : nCh n (tdP D) n = cntU (fun _ => False) n := cnt_c n (fun w hw => ⟨fun z => by
          obtain ⟨u9, hu8, e9⟩ := h5 w z.1 hw
          have : tdP D w = u9 := by show (D.2.1 w).toNatClampNeg = u9; rw [e9]; exact nI_clamp (by omega)
          rw [this] at z
          omega, fun z => absurd z id⟩)
        rw [this, cnt_sm, sumU_c n (g := fun _ => 0) (fun v _ => cI_f id), sumU_0]
      have hq : (0 < n ∧ tdP (tdA n u k D) n = v) ↔ v = u := by rw [hpn, if_neg hn0]; constructor <;> intro z <;> omega
      by_cases e : v = u
      · rw [nCh, cntU_y (q := fun w => 0 < w ∧ tdP (tdA n u k D) w = v) (hq.mpr e)]
        rw [show cntU (fun w => 0 < w ∧ tdP (tdA n u k D) w = v) n = _ from hcn v]
        subst e
        rw [pk_us, pk_un (by omega), h3 v hu9, nI_add]
      · rw [nCh, cntU_n (q := fun w => 0 < w ∧ tdP (tdA n u k D) w = v) (fun z => e (hq.mp z))]
        rw [show cntU (fun w => 0 < w ∧ tdP (tdA n u k D) w = v) n = _ from hcn v]
        rw [pk_un e]
        by_cases e2 : v = n
        · subst e2; rw [pk_us, hz]
        · rw [pk_un e2, h3 v (by omega)]
  · by_cases e : n = 0
    · subst e; rw [hPn, if_pos rfl]
    · rw [hP 0 (by omega)]; exact h4 (by omega)
  · by_cases e : v = n
    · subst e
      rw [hPn, if_neg (by omega)]
      exact ⟨u, hu h0, rfl⟩
    · rw [hP v (by omega)]; exact h5 v h0 (by omega)
theorem tdU_sp {U : Nat → Nat} {K : Nat → Int32} {D : TD} (hD : D.1 = 0) : ∀ n, n ≤ 1000 → (∀ i, 0 < i → i < n → U i < i) → tdI n (tdU U K D n) ∧ (∀ v, v < n → (tdU U K D n).2.2.1 v = K v) ∧ ∀ v, 0 < v → v < n → (tdU U K D n).2.1 v = nI (U v)
  | 0, _, _ => ⟨tdI_0 D hD, fun v h => absurd h (by omega), fun v _ h => absurd h (by omega)⟩
  | n + 1, hn, hU => by
    obtain ⟨a, b, d⟩ := tdU_sp (U := U) (K := K) hD n (by omega) (fun i h0 hi => hU i h0 (by omega))
    refine ⟨tdI_A a (by omega) (fun h => hU n h (by omega)), fun v hv => ?_, fun v h0 hv => ?_⟩
    · show upd (tdU U K D n).2.2.1 n (K n) v = K v
      by_cases e : v = n
      · rw [e, pk_us]
      · rw [pk_un e]; exact b v (by omega)
    · show upd (tdU U K D n).2.1 n (if n = 0 then -1 else nI (U n)) v = nI (U v)
      by_cases e : v = n
      · rw [e, pk_us, if_neg (by omega)]
      · rw [pk_un e]; exact d v h0 (by omega)
/-- a tree laid into the rows of tree j -/
abbrev laid (σ : St) (j n : Nat) (D : TD) (c9 : Nat → Int32) : St := sI (tdS σ j n D) (67 + 5 * j) c9
section laid
variable {σ : St} {j n : Nat} {D : TD} {c9 : Nat → Int32}
theorem la_P : tP (laid σ j n D c9) j = D.2.1 := (iA_n (by omega)).trans (iA_N.trans (iA_N.trans ((iA_n (by omega)).trans ((iA_n (by omega)).trans ((iA_n (by omega)).trans iA_s)))))
theorem la_K : tK (laid σ j n D c9) j = D.2.2.1 := (iA_n (by omega)).trans (iA_N.trans (iA_N.trans ((iA_n (by omega)).trans ((iA_n (by omega)).trans iA_s))))
theorem la_C : tC (laid σ j n D c9) j = c9 := iA_s
theorem la_H : tH (laid σ j n D c9) j = D.2.2.2.2 := (iA_n (by omega)).trans (iA_N.trans (iA_N.trans iA_s))
theorem la_N : tN (laid σ j n D c9) j = nI n := nF_I.trans ((nF_k (k := 5) (k9 := 4) (by decide)).trans nF_s)
theorem la_L : tL (laid σ j n D c9) j = nI D.1 := nF_I.trans nF_s
theorem la_o {i : Nat} (h : i ≠ j) : jAg σ (laid σ j n D c9) i :=
  ⟨(nF_fn (by omega)).trans (nF_fn (by omega)),
   (iA_n (by omega)).trans (iA_N.trans (iA_N.trans ((iA_n (by omega)).trans ((iA_n (by omega)).trans ((iA_n (by omega)).trans (iA_n (by omega))))))),
   (iA_n (by omega)).trans (iA_N.trans (iA_N.trans ((iA_n (by omega)).trans ((iA_n (by omega)).trans ((iA_n (by omega)).trans (iA_n (by omega))))))),
   (iA_n (by omega)).trans (iA_N.trans (iA_N.trans ((iA_n (by omega)).trans ((iA_n (by omega)).trans ((iA_n (by omega)).trans (iA_n (by omega))))))),
   (iA_n (by omega)).trans (iA_N.trans (iA_N.trans ((iA_n (by omega)).trans ((iA_n (by omega)).trans ((iA_n (by omega)).trans (iA_n (by omega)))))))⟩
theorem la_m {τ : St} (h : mAg τ σ) : mAg τ (laid σ j n D c9) := ((((((h.I (by omega)).I (by omega)).I (by omega)).I (by omega)).N (by omega)).N (by omega)).I (by omega)
theorem la_cTr {P : Nat → Nat} (h47 : n ≤ 47) (hI : tdI n D) (hK : ∀ v, v < n → D.2.2.1 v = -1 ∨ ∃ q, q < 12 ∧ D.2.2.1 v = nI q) (hT : 0 < n → TV n (tdP D) D.2.2.1) (hP : ∀ v, 0 < v → v < n → P v = tdP D v) (hc : ∀ v, v < n → c9 v = gath P (n - 1) D.2.2.2.1 v) :
    cTr (laid σ j n D c9) j ∧ nn (laid σ j n D c9) j = n ∧ pp (laid σ j n D c9) j = tdP D := by
  have hn : nn (laid σ j n D c9) j = n := by
    show (tN (laid σ j n D c9) j).toNatClampNeg = n
    rw [la_N]; exact nI_clamp (by omega)
  have hp : pp (laid σ j n D c9) j = tdP D := by
    funext v
    show (tP (laid σ j n D c9) j v).toNatClampNeg = _
    rw [la_P]
  obtain ⟨h1, h2, h3, h4, h5⟩ := hI
  have hlt : ∀ v, 0 < v → v < n → D.2.1 v = nI (tdP D v) ∧ tdP D v < v := fun v h0 hv => by
    obtain ⟨u, hu, e⟩ := h5 v h0 hv
    have : tdP D v = u := by show (D.2.1 v).toNatClampNeg = u; rw [e]; exact nI_clamp (by omega)
    rw [this]; exact ⟨e, hu⟩
  refine ⟨⟨⟨?_, ?_, ?_, ?_, ?_⟩, ?_, fun v hv => ?_, ?_⟩, hn, hp⟩
  · rw [hn]; exact la_N
  · rw [hn]; exact h47
  · rw [hn, hp, la_P]; exact hlt
  · rw [hn, la_P]; exact h4
  · rw [hn, la_K]; exact hK
  · rw [hn, hp, la_K]; exact hT
  · rw [hn] at hv
    rw [hn, hp, la_K, la_C, la_H]
    refine ⟨?_, h3 v hv⟩
    rw [hc v hv]
    unfold cB
    refine gth_c (M := n - 1) (n - 1) _ _ (Nat.le_refl _) (fun u q1 q2 => ⟨hP u q1 (by omega), (hlt u q1 (by omega)).2⟩) (fun w hw => h2 w (by omega)) v (by omega)
  · rw [hn, la_K, la_L, h1]
end laid
/-! a family's tree, on both sides -/
theorem mAr_ar {g : Nat → Int32} {y : Int32} : ∀ k, mAr g y k = around g y k
  | 0 => rfl
  | k + 1 => by
    show (if y &&& (g k ^^^ (-1)) = 0 then nI k else mAr g y k) = (if g k &&& y = y then nI k else around g y k)
    by_cases h : Sb y (g k)
    · rw [if_pos (sb_not.mpr h), if_pos (sb_and.mpr h)]
    · rw [if_neg (fun z => h (sb_not.mp z)), if_neg (fun z => h (sb_and.mp z)), mAr_ar k]
theorem put47_i {h g : Nat → Int32} {i k v : Nat} (hv : v < k) : put47 h g i k (47 * i + v) = h v := by
  unfold put47
  rw [if_pos ⟨by omega, by omega⟩, show 47 * i + v - 47 * i = v by omega]
theorem put47_o {h g : Nat → Int32} {i k j v : Nat} (hk : k ≤ 47) (hj : j ≠ i) (hv : v < 47) : put47 h g i k (47 * j + v) = g (47 * j + v) := by
  unfold put47
  rw [if_neg (by omega)]
theorem sfS_s {σ : St} {F : Fam} {k : Nat} (hk : k < 8) : tS (sfS σ F k) k = tS σ 8 := (tS_n (by omega)).trans tS_s
theorem gr_la {σ : St} {F : Fam} {j : Nat} : growS σ F j = laid (faS σ F) j F.1 (grD σ F j) (gath (uF F) (F.1 - 1) (grD σ F j).2.2.2.1) := rfl
theorem sfS_N {σ : St} {F : Fam} {k : Nat} (hk : k < 8) : tN (sfS σ F k) (tS (sfS σ F k) k) = nI F.1 := by
  rw [sfS_s hk]
  show tN (growS σ F (tS σ 8)) (tS σ 8) = _
  rw [gr_la]; exact la_N
theorem sfS_L {σ : St} {F : Fam} {k : Nat} (hk : k < 8) : tL (sfS σ F k) (tS (sfS σ F k) k) = nI (grD σ F (tS σ 8)).1 := by
  rw [sfS_s hk]
  show tL (growS σ F (tS σ 8)) (tS σ 8) = _
  rw [gr_la]; exact la_L
theorem sfS_m {σ : St} {F : Fam} {k : Nat} : mAg σ (sfS σ F k) := by
  have h : mAg σ (growS σ F (tS σ 8)) := by rw [gr_la]; exact la_m ((mAg.rf.I (by omega)).N (by omega))
  exact (h.T).T
theorem grow_fam {σ τ : St} (hr : rTre σ τ) {F F9 : Fam} {M : Int32 → Prop} {r : Int32} (hG : GM M r) (hM : MemIs F.2 F.1 M) (hs : SL F.2 F.1) (hM9 : MemIs F9.2 F9.1 M) (hu : UL F9.2 F9.1) :
    famG F ∧ 0 < F9.1 ∧ F9.1 ≤ 23 ∧ F.1 = F9.1 ∧ ∀ k, k < 8 → ∀ σ1 τ1, tAg σ σ1 → iA τ1 2 = iA τ 2 → iA τ1 3 = iA τ 3 → iA τ1 4 = iA τ 4 → rTre (sfS σ1 F k) (puS τ1 F9 k) ∧ tN (sfS σ1 F k) (tS (sfS σ1 F k) k) = nI F.1 ∧ tL (sfS σ1 F k) (tS (sfS σ1 F k) k) = nI (nLv F.1 (kU F.2)) ∧ mAg σ1 (sfS σ1 F k) := by
  obtain ⟨h23, hs9, hm9⟩ := ul_few hG hM9 hu
  have hle := gm_le23 hG hM hs
  have hroot := gm_root hG hM hs
  obtain ⟨hnm, π, ρ, hI⟩ := gm_iso hG hM hs hm9 hs9 (by omega) (by omega)
  have hTV := gm_TV hG hM hs (by omega)
  have hTV9 := gm_TV hG hm9 hs9 (by omega)
  have hUlt : ∀ i, 0 < i → i < F.1 → uF F i < i := fun i h0 hi => (hTV.2.1 i h0 hi).1
  refine ⟨⟨hroot.1, by omega, fun i h0 hi => ?_⟩, by omega, h23, hnm, fun k hk σ1 τ1 hσ e2 e3 e4 => ?_⟩
  · have := gm_uF hG hM hs (by omega) h0 hi
    exact ⟨this.1, this.2.1⟩
  · have hS : tS σ1 = tS σ := hσ.2
    have hD := tdU_sp (U := uF F) (K := fun i => kindUp (F.2 i) 12 0) (D := (0, tP (faS σ1 F) (tS σ1 8), tK (faS σ1 F) (tS σ1 8), tC (faS σ1 F) (tS σ1 8), tH (faS σ1 F) (tS σ1 8))) rfl F.1 (by omega) hUlt
    obtain ⟨d1, d2, d3⟩ := hD
    have hpD : ∀ v, 0 < v → v < F.1 → uF F v = tdP (grD σ1 F (tS σ1 8)) v := fun v h0 hv => by
      show _ = ((grD σ1 F (tS σ1 8)).2.1 v).toNatClampNeg
      rw [show (grD σ1 F (tS σ1 8)).2.1 v = _ from d3 v h0 hv]
      have := hUlt v h0 hv
      exact (nI_clamp (by omega)).symm
    obtain ⟨c1, c2, c3⟩ := la_cTr (σ := faS σ1 F) (j := tS σ1 8) (n := F.1) (D := grD σ1 F (tS σ1 8)) (c9 := gath (uF F) (F.1 - 1) (grD σ1 F (tS σ1 8)).2.2.2.1) (P := uF F) (by omega) d1 (fun v hv => by rw [d2 v hv]; exact hTV.2.2.1 v hv) (fun _ => TV_c hTV (fun u h0 hu => (hpD u h0 hu).symm) d2) hpD (fun v _ => rfl)
    have hfa : tAg σ1 (faS σ1 F) := (tAg.rf.I (by omega)).N (by omega)
    generalize hge : growS σ1 F (tS σ1 8) = G
    have hgl : G = laid (faS σ1 F) (tS σ1 8) F.1 (grD σ1 F (tS σ1 8)) (gath (uF F) (F.1 - 1) (grD σ1 F (tS σ1 8)).2.2.2.1) := hge.symm
    have hrow2 : iA (puS τ1 F9 k) 2 k = nI F9.1 := by show upd (iA τ1 2) k (nI F9.1) k = _; exact pk_us
    have hrow3 : ∀ v, v < F9.1 → iA (puS τ1 F9 k) 3 (47 * k + v) = around (srt F9.2 F9.1) (srt F9.2 F9.1 v) v := fun v hv => by
      show put47 (puP (srt F9.2 F9.1)) (iA τ1 3) k F9.1 (47 * k + v) = _
      rw [put47_i hv]; exact mAr_ar v
    have hrow4 : ∀ v, v < F9.1 → iA (puS τ1 F9 k) 4 (47 * k + v) = kU (srt F9.2 F9.1) v := fun v hv => by
      show put47 (puK (srt F9.2 F9.1)) (iA τ1 4) k F9.1 (47 * k + v) = _
      rw [put47_i hv]; exact kd_eq (hs9.1 v hv).1
    have hmN : mN (puS τ1 F9 k) k = F9.1 := by show (iA (puS τ1 F9 k) 2 k).toNatClampNeg = _; rw [hrow2]; exact nI_clamp (by omega)
    have hmp : ∀ v, v < F9.1 → mp (puS τ1 F9 k) k v = uF (F9.1, srt F9.2 F9.1) v := fun v hv => by show (iA (puS τ1 F9 k) 3 (47 * k + v)).toNatClampNeg = _; rw [hrow3 v hv]
    have hset : rTre (sT (sT G k (tS σ1 8)) 8 (tS σ1 k)) (puS τ1 F9 k) := by
      refine rTre_set (σ := σ1) (τ := τ1) (rTre_c hσ (rTre_m e2 e3 e4 hr)) hk (fun j hj => ?_) (by rw [← hge]; rfl) (by rw [hgl]; exact c1) (fun i hi hne => ?_) ?_ ?_ ?_
      · obtain ⟨q1, q2, q3, q4, q5⟩ := la_o (σ := faS σ1 F) (j := tS σ1 8) (n := F.1) (D := grD σ1 F (tS σ1 8)) (c9 := gath (uF F) (F.1 - 1) (grD σ1 F (tS σ1 8)).2.2.2.1) hj
        obtain ⟨r1, r2, r3, r4, r5⟩ := hfa.j j
        rw [hgl]
        exact ⟨q1.trans r1, q2.trans r2, q3.trans r3, q4.trans r4, q5.trans r5⟩
      · refine ⟨?_, fun v hv => ?_, fun v hv => ?_⟩
        · show upd (iA τ1 2) k (nI F9.1) i = iA τ1 2 i
          exact pk_un hne
        · show put47 (puP (srt F9.2 F9.1)) (iA τ1 3) k F9.1 (47 * i + v) = _
          exact put47_o (by omega) hne hv
        · show put47 (puK (srt F9.2 F9.1)) (iA τ1 4) k F9.1 (47 * i + v) = _
          exact put47_o (by omega) hne hv
      · refine ⟨by rw [hmN]; exact hrow2, by rw [hmN]; omega, fun v h0 hv => ?_, fun h0 => ?_, fun v hv => ?_⟩
        · rw [hmN] at hv
          have := gm_uF hG hm9 hs9 (by omega) h0 hv
          rw [hmp v hv]
          exact ⟨(hrow3 v hv).trans this.1, this.2.1⟩
        · rw [hmN] at h0
          exact hrow3 0 h0
        · rw [hmN] at hv
          have e := hrow4 v hv
          have := hTV9.2.2.1 v hv
          rw [← e] at this
          exact this
      · rw [hmN, hgl, c2, hnm]
      · rw [hgl, c2, c3, la_K]
        refine ⟨π, ρ, Iso_l (Iso_r2 hI (fun v _ hv => hmp v (by omega)) (fun v hv => hrow4 v (by omega))) (fun v h0 hv => (hpD v h0 hv).symm) d2⟩
    refine ⟨by unfold sfS; rw [hge]; exact hset, sfS_N hk, ?_, sfS_m⟩
    rw [sfS_L hk, d1.1]
    congr 1
    exact cnt_c F.1 (fun v hv => by rw [show (grD σ1 F (tS σ1 8)).2.2.1 v = _ from d2 v hv])

/-! The relation between the class's state σ and the reference's state τ; states that agree -/
noncomputable abbrev nCh (n : Nat) (P : Nat → Nat) (v : Nat) : Nat := cntU (fun u => 0 < u ∧ P u = v) n
noncomputable abbrev nLv (n : Nat) (K : Nat → Int32) : Nat := cntU (fun v => ¬ K v = -1) n
def rTape (σ τ : St) : Prop := ∃ n, n ≤ 400 ∧ nF σ 32 1 = nI n ∧ nF τ 0 2 = nI n ∧ ∀ k, k < 400 → iA σ 33 k = iA τ 1 k &&& nI 255 ∧ (iA τ 1 k).toInt8.toInt32 = iA τ 1 k
def rFau (σ τ : St) : Prop := nF σ 34 4 = nF τ 0 3 ∧ nF σ 34 5 = nF τ 0 4
def rWri (σ τ : St) : Prop := (∃ n, n ≤ 94 ∧ nF σ 36 1 = nI n ∧ nF τ 0 18 = nI n ∧ ∀ k, k < n → iA σ 37 k = iA τ 11 k ∧ ∃ m, m < 128 ∧ iA σ 37 k = nI m) ∧ wOk σ
def rTri (σ τ : St) : Prop := ∃ z, z ≤ 80 ∧ nF σ 43 2 = nI z ∧ nF τ 0 11 = nI z ∧ ∀ t, t < z → ∃ a b d, a < 12 ∧ b < 12 ∧ d < 12 ∧ ¬ (a = b ∨ a = d ∨ b = d) ∧ iA τ 5 t = nI a ∧ iA τ 6 t = nI b ∧ iA τ 7 t = nI d ∧ iA σ 44 t = bitI a ||| bitI b ∧ iA σ 45 t = bitI d
def rSig (σ τ : St) : Prop := ∃ z, z ≤ 16 ∧ nF σ 46 1 = nI z ∧ nF τ 0 13 = nI z ∧ ∀ t, t < z → iA σ 47 t = iA τ 8 t
def rSta (σ τ : St) : Prop := ∀ k, k < 96 → iA σ 48 k = iA τ 9 k
def rDis (σ τ : St) : Prop := ∃ N, 2 ≤ N ∧ N ≤ 12 ∧ nF σ 53 0 = nI N ∧ nF τ 0 16 = nI N ∧ (∃ a, a < 12 ∧ nF σ 53 5 = nI a) ∧ (∃ a, a < 12 ∧ nF σ 53 6 = nI a) ∧ (∀ k, k < 144 → iA σ 54 k = iA τ 10 k) ∧ DM (dS σ) ∧ ∀ i j, i < 12 → j < 12 → dS σ i j ≤ 100000
/-- a tree of the class: what stands in its rows -/
def cTr (σ : St) (j : Nat) : Prop := trOk σ j ∧ (0 < nn σ j → TV (nn σ j) (pp σ j) (tK σ j)) ∧ (∀ v, v < nn σ j → tC σ j v = cB (nn σ j) (pp σ j) (tK σ j) v ∧ tH σ j v = nI (nCh (nn σ j) (pp σ j) v)) ∧ tL σ j = nI (nLv (nn σ j) (tK σ j))
def rSh (σ τ : St) (i : Nat) : Prop := cTr σ (tS σ i) ∧ mtOk τ i ∧ mN τ i = nn σ (tS σ i) ∧ ∃ π ρ, Iso (nn σ (tS σ i)) (pp σ (tS σ i)) (tK σ (tS σ i)) (mp τ i) (mK τ i) π ρ
def rTre (σ τ : St) : Prop := tOk σ ∧ (∀ i k, i < 9 → k < 9 → tS σ i = tS σ k → i = k) ∧ ∀ i, i < 8 → rSh σ τ i
def RX (σ τ : St) : Prop := rTape σ τ ∧ rFau σ τ ∧ rWri σ τ ∧ rTri σ τ ∧ rSig σ τ ∧ rSta σ τ ∧ rDis σ τ ∧ rTre σ τ
/-- the reference's cells are the same -/
def mAg (τ τ9 : St) : Prop := ∀ a, a < 30 → iA τ9 a = iA τ a ∧ jA τ9 a = jA τ a ∧ nF τ9 a = nF τ a
/-- the class's cells are the same, and the law's out -/
def cAg (σ σ9 : St) : Prop := (∀ a, 31 ≤ a → iA σ9 a = iA σ a ∧ jA σ9 a = jA σ a ∧ nF σ9 a = nF σ a) ∧ tS σ9 = tS σ ∧ jA σ9 30 = jA σ 30
/-- the trees' cells are the same -/
def tAg (σ σ9 : St) : Prop := (∀ a, 64 ≤ a → iA σ9 a = iA σ a ∧ nF σ9 a = nF σ a) ∧ tS σ9 = tS σ
theorem nF_fn {σ : St} {a b k : Nat} {v : Int32} (h : b ≠ a) : nF (sN σ a k v) b = nF σ b := va_up_ne _ _ h
theorem mAg.rf {τ : St} : mAg τ τ := fun _ _ => ⟨rfl, rfl, rfl⟩
theorem mAg.I {τ τ9 : St} {a : Nat} {f : Nat → Int32} (h : mAg τ τ9) (ha : 30 ≤ a) : mAg τ (sI τ9 a f) := fun b hb => ⟨(iA_n (by omega)).trans (h b hb).1, (h b hb).2.1, (h b hb).2.2⟩
theorem mAg.J {τ τ9 : St} {a : Nat} {f : Nat → Int64} (h : mAg τ τ9) (ha : 30 ≤ a) : mAg τ (sJ τ9 a f) := fun b hb => ⟨(h b hb).1, (jA_n (by omega)).trans (h b hb).2.1, (h b hb).2.2⟩
theorem mAg.N {τ τ9 : St} {a k : Nat} {v : Int32} (h : mAg τ τ9) (ha : 30 ≤ a) : mAg τ (sN τ9 a k v) := fun b hb => ⟨(h b hb).1, (h b hb).2.1, (nF_fn (by omega)).trans (h b hb).2.2⟩
theorem mAg.T {τ τ9 : St} {k j : Nat} (h : mAg τ τ9) : mAg τ (sT τ9 k j) := fun b hb => h b hb
theorem mAg.tr {τ τ8 τ9 : St} (h : mAg τ τ8) (h2 : mAg τ8 τ9) : mAg τ τ9 := fun b hb => ⟨(h2 b hb).1.trans (h b hb).1, (h2 b hb).2.1.trans (h b hb).2.1, (h2 b hb).2.2.trans (h b hb).2.2⟩
theorem cAg.rf {τ : St} : cAg τ τ := ⟨fun _ _ => ⟨rfl, rfl, rfl⟩, rfl, rfl⟩
theorem cAg.I {τ τ9 : St} {a : Nat} {f : Nat → Int32} (h : cAg τ τ9) (ha : a < 30) : cAg τ (sI τ9 a f) := ⟨fun b hb => ⟨(iA_n (by omega)).trans (h.1 b hb).1, (h.1 b hb).2.1, (h.1 b hb).2.2⟩, h.2.1, h.2.2⟩
theorem cAg.J {τ τ9 : St} {a : Nat} {f : Nat → Int64} (h : cAg τ τ9) (ha : a < 30) : cAg τ (sJ τ9 a f) := ⟨fun b hb => ⟨(h.1 b hb).1, (jA_n (by omega)).trans (h.1 b hb).2.1, (h.1 b hb).2.2⟩, h.2.1, (jA_n (by omega)).trans h.2.2⟩
theorem cAg.N {τ τ9 : St} {a k : Nat} {v : Int32} (h : cAg τ τ9) (ha : a < 30) : cAg τ (sN τ9 a k v) := ⟨fun b hb => ⟨(h.1 b hb).1, (h.1 b hb).2.1, (nF_fn (by omega)).trans (h.1 b hb).2.2⟩, h.2.1, h.2.2⟩
theorem cAg.tr {τ τ8 τ9 : St} (h : cAg τ τ8) (h2 : cAg τ8 τ9) : cAg τ τ9 := ⟨fun b hb => ⟨(h2.1 b hb).1.trans (h.1 b hb).1, (h2.1 b hb).2.1.trans (h.1 b hb).2.1, (h2.1 b hb).2.2.trans (h.1 b hb).2.2⟩, h2.2.1.trans h.2.1, h2.2.2.trans h.2.2⟩
theorem tAg.rf {τ : St} : tAg τ τ := ⟨fun _ _ => ⟨rfl, rfl⟩, rfl⟩
theorem tAg.I {τ τ9 : St} {a : Nat} {f : Nat → Int32} (h : tAg τ τ9) (ha : a < 64) : tAg τ (sI τ9 a f) := ⟨fun b hb => ⟨(iA_n (by omega)).trans (h.1 b hb).1, (h.1 b hb).2⟩, h.2⟩
theorem tAg.J {τ τ9 : St} {a : Nat} {f : Nat → Int64} (h : tAg τ τ9) : tAg τ (sJ τ9 a f) := h
theorem tAg.N {τ τ9 : St} {a k : Nat} {v : Int32} (h : tAg τ τ9) (ha : a < 64) : tAg τ (sN τ9 a k v) := ⟨fun b hb => ⟨(h.1 b hb).1, (nF_fn (by omega)).trans (h.1 b hb).2⟩, h.2⟩
theorem cAg.t {σ σ9 : St} (h : cAg σ σ9) : tAg σ σ9 := ⟨fun a ha => ⟨(h.1 a (by omega)).1, (h.1 a (by omega)).2.2⟩, h.2.1⟩
section mv
variable {σ σ9 τ τ9 : St}
/-- the cells of tree j are the same -/
def jAg (σ σ9 : St) (j : Nat) : Prop := nF σ9 (64 + 5 * j) = nF σ (64 + 5 * j) ∧ iA σ9 (65 + 5 * j) = iA σ (65 + 5 * j) ∧ iA σ9 (66 + 5 * j) = iA σ (66 + 5 * j) ∧ iA σ9 (67 + 5 * j) = iA σ (67 + 5 * j) ∧ iA σ9 (68 + 5 * j) = iA σ (68 + 5 * j)
theorem tAg.j (h : tAg σ σ9) (j : Nat) : jAg σ σ9 j := ⟨(h.1 _ (by omega)).2, (h.1 _ (by omega)).1, (h.1 _ (by omega)).1, (h.1 _ (by omega)).1, (h.1 _ (by omega)).1⟩
theorem trOk_j {j : Nat} (h : jAg σ σ9 j) : trOk σ9 j ↔ trOk σ j := by
  obtain ⟨eN, eP, eK, eC, eH⟩ := h
  unfold trOk
  simp only [nn, pp, tN, tP, tK, eP, eK, eN]
theorem cTr_j {j : Nat} (h : jAg σ σ9 j) : cTr σ9 j ↔ cTr σ j := by
  have h0 := trOk_j h
  obtain ⟨eN, eP, eK, eC, eH⟩ := h
  have epp : pp σ9 j = pp σ j := by funext v; show (iA σ9 _ v).toNatClampNeg = _; rw [eP]
  unfold cTr
  rw [h0]
  simp only [nn, epp, tN, tL, tK, tC, tH, eK, eC, eH, eN]
theorem rSh_j {i : Nat} (hs : tS σ9 i = tS σ i) (h : jAg σ σ9 (tS σ i)) : rSh σ9 τ i ↔ rSh σ τ i := by
  have h0 := cTr_j h
  obtain ⟨eN, eP, eK, eC, eH⟩ := h
  have epp : pp σ9 (tS σ i) = pp σ (tS σ i) := by funext v; show (iA σ9 _ v).toNatClampNeg = _; rw [eP]
  unfold rSh
  rw [hs, h0]
  simp only [nn, epp, tN, tK, eK, eN]
theorem trOk_mv {j : Nat} (h : tAg σ σ9) : trOk σ9 j ↔ trOk σ j := trOk_j (h.j j)
theorem rSh_c {i : Nat} (h : tAg σ σ9) : rSh σ9 τ i ↔ rSh σ τ i := rSh_j (by rw [h.2]) (h.j _)
theorem rTre_c (h : tAg σ σ9) (hr : rTre σ τ) : rTre σ9 τ := by
  obtain ⟨⟨h1, h2⟩, h3, h4⟩ := hr
  refine ⟨⟨fun i hi => by rw [h.2]; exact h1 i hi, fun j hj => (trOk_mv h).mpr (h2 j hj)⟩, fun i k hi hk e => ?_, fun i hi => (rSh_c h).mpr (h4 i hi)⟩
  rw [h.2] at e
  exact h3 i k hi hk e
theorem mtOk_mv {i : Nat} (h2 : iA τ9 2 i = iA τ 2 i) (h3 : ∀ v, v < 47 → iA τ9 3 (47 * i + v) = iA τ 3 (47 * i + v)) (h4 : ∀ v, v < 47 → iA τ9 4 (47 * i + v) = iA τ 4 (47 * i + v)) : mtOk τ i → mtOk τ9 i ∧ mN τ9 i = mN τ i ∧ (∀ v, v < 47 → mp τ9 i v = mp τ i v) ∧ ∀ v, v < 47 → mK τ9 i v = mK τ i v := by
  intro ⟨a, b, d, e, f⟩
  have en : mN τ9 i = mN τ i := by show (iA τ9 2 i).toNatClampNeg = _; rw [h2]
  have ep : ∀ v, v < 47 → mp τ9 i v = mp τ i v := fun v hv => by show (iA τ9 3 (47 * i + v)).toNatClampNeg = _; rw [h3 v hv]
  refine ⟨⟨?_, ?_, fun v h0 hv => ?_, fun h0 => ?_, fun v hv => ?_⟩, en, ep, fun v hv => h4 v hv⟩
  · rw [en, h2]; exact a
  · rw [en]; exact b
  · rw [en] at hv
    rw [ep v (by omega)]
    show iA τ9 3 (47 * i + v) = _ ∧ _
    rw [h3 v (by omega)]
    exact d v h0 hv
  · rw [en] at h0
    show iA τ9 3 (47 * i + 0) = _
    rw [h3 0 (by omega)]
    exact e h0
  · rw [en] at hv
    show iA τ9 4 (47 * i + v) = _ ∨ _
    rw [show mK τ9 i v = mK τ i v from h4 v (by omega), h4 v (by omega)]
    exact f v hv
theorem Iso_r {n : Nat} {P P9 P8 : Nat → Nat} {K K9 K8 : Nat → Int32} {π ρ : Nat → Nat} (h : Iso n P K P9 K9 π ρ) (h1 : ∀ v, v < n → P8 v = P9 v) (h2 : ∀ v, v < n → K8 v = K9 v) : Iso n P K P8 K8 π ρ :=
  ⟨h.1, h.2.1, fun v hv => by rw [h2 _ (h.1 v hv).1]; exact h.2.2.1 v hv, fun v h0 hv => by rw [h1 _ (h.1 v hv).1]; exact h.2.2.2 v h0 hv⟩
theorem rSh_m {i : Nat} (h2 : iA τ9 2 i = iA τ 2 i) (h3 : ∀ v, v < 47 → iA τ9 3 (47 * i + v) = iA τ 3 (47 * i + v)) (h4 : ∀ v, v < 47 → iA τ9 4 (47 * i + v) = iA τ 4 (47 * i + v)) (hr : rSh σ τ i) : rSh σ τ9 i := by
  obtain ⟨a, b, d, π, ρ, e⟩ := hr
  obtain ⟨q1, q2, q3, q4⟩ := mtOk_mv h2 h3 h4 b
  have h47 := b.2.1
  exact ⟨a, q1, q2.trans d, π, ρ, Iso_r e (fun v hv => q3 v (by omega)) (fun v hv => q4 v (by omega))⟩
theorem rTre_m (h2 : iA τ9 2 = iA τ 2) (h3 : iA τ9 3 = iA τ 3) (h4 : iA τ9 4 = iA τ 4) (hr : rTre σ τ) : rTre σ τ9 :=
  ⟨hr.1, hr.2.1, fun i hi => rSh_m (by rw [h2]) (fun v _ => by rw [h3]) (fun v _ => by rw [h4]) (hr.2.2 i hi)⟩
theorem RX_c (h : cAg σ σ9) (hr : RX σ τ) : RX σ9 τ := by
  have e := fun a (ha : 31 ≤ a) => h.1 a ha
  have eN := fun a k (ha : 31 ≤ a) => congrFun (h.1 a ha).2.2 k
  obtain ⟨r1, r2, r3, r4, r5, r6, r7, r8⟩ := hr
  refine ⟨?_, ?_, ?_, ?_, ?_, ?_, ?_, rTre_c h.t r8⟩
  · unfold rTape; rw [eN 32 1 (by omega), (e 33 (by omega)).1]; exact r1
  · unfold rFau; rw [eN 34 4 (by omega), eN 34 5 (by omega)]; exact r2
  · unfold rWri wOk; rw [eN 36 1 (by omega), (e 37 (by omega)).1, (e 38 (by omega)).1, (e 39 (by omega)).1]; exact r3
  · unfold rTri; rw [eN 43 2 (by omega), (e 44 (by omega)).1, (e 45 (by omega)).1]; exact r4
  · unfold rSig; rw [eN 46 1 (by omega), (e 47 (by omega)).1]; exact r5
  · unfold rSta; rw [(e 48 (by omega)).1]; exact r6
  · have e54 := (e 54 (by omega)).1
    have eD : dS σ9 = dS σ := by funext a b; show iA σ9 54 _ = _; rw [e54]
    unfold rDis; rw [eN 53 0 (by omega), eN 53 5 (by omega), eN 53 6 (by omega), eD, e54]; exact r7
theorem RX_m (h : mAg τ τ9) (hr : RX σ τ) : RX σ τ9 := by
  have e := fun a (ha : a < 30) => (h a ha).1
  have eN := fun k => congrFun (h 0 (by omega)).2.2 k
  obtain ⟨r1, r2, r3, r4, r5, r6, r7, r8⟩ := hr
  refine ⟨?_, ?_, ?_, ?_, ?_, ?_, ?_, rTre_m (e 2 (by omega)) (e 3 (by omega)) (e 4 (by omega)) r8⟩
  · unfold rTape; rw [eN 2, e 1 (by omega)]; exact r1
  · unfold rFau; rw [eN 3, eN 4]; exact r2
  · unfold rWri; rw [eN 18, e 11 (by omega)]; exact r3
  · unfold rTri; rw [eN 11, e 5 (by omega), e 6 (by omega), e 7 (by omega)]; exact r4
  · unfold rSig; rw [eN 13, e 8 (by omega)]; exact r5
  · unfold rSta; rw [e 9 (by omega)]; exact r6
  · unfold rDis; rw [eN 16, e 10 (by omega)]; exact r7
/-- all but the trees -/
abbrev R7 (σ τ : St) : Prop := rTape σ τ ∧ rFau σ τ ∧ rWri σ τ ∧ rTri σ τ ∧ rSig σ τ ∧ rSta σ τ ∧ rDis σ τ
theorem RX_of7 (h : R7 σ τ) (ht : rTre σ τ) : RX σ τ := ⟨h.1, h.2.1, h.2.2.1, h.2.2.2.1, h.2.2.2.2.1, h.2.2.2.2.2.1, h.2.2.2.2.2.2, ht⟩
theorem RX_7 (h : RX σ τ) : R7 σ τ := ⟨h.1, h.2.1, h.2.2.1, h.2.2.2.1, h.2.2.2.2.1, h.2.2.2.2.2.1, h.2.2.2.2.2.2.1⟩
theorem R7_c (hA : ∀ a, 31 ≤ a → a < 64 → ¬ a = 41 → ¬ a = 42 → iA σ9 a = iA σ a ∧ nF σ9 a = nF σ a) (h : R7 σ τ) : R7 σ9 τ := by
  obtain ⟨a1, a2, a3, a4, a5, a6, a7⟩ := h
  have hN : ∀ a b, 31 ≤ a → a < 64 → ¬ a = 41 → ¬ a = 42 → nF σ9 a b = nF σ a b := fun a b q1 q2 q3 q4 => congrFun (hA a q1 q2 q3 q4).2 b
  have hI : ∀ a, 31 ≤ a → a < 64 → ¬ a = 41 → ¬ a = 42 → iA σ9 a = iA σ a := fun a q1 q2 q3 q4 => (hA a q1 q2 q3 q4).1
  refine ⟨?_, ?_, ?_, ?_, ?_, ?_, ?_⟩
  · unfold rTape; rw [hN 32 1 (by omega) (by omega) (by omega) (by omega), hI 33 (by omega) (by omega) (by omega) (by omega)]; exact a1
  · unfold rFau; rw [hN 34 4 (by omega) (by omega) (by omega) (by omega), hN 34 5 (by omega) (by omega) (by omega) (by omega)]; exact a2
  · unfold rWri wOk; rw [hN 36 1 (by omega) (by omega) (by omega) (by omega), hI 37 (by omega) (by omega) (by omega) (by omega), hI 38 (by omega) (by omega) (by omega) (by omega), hI 39 (by omega) (by omega) (by omega) (by omega)]; exact a3
  · unfold rTri; rw [hN 43 2 (by omega) (by omega) (by omega) (by omega), hI 44 (by omega) (by omega) (by omega) (by omega), hI 45 (by omega) (by omega) (by omega) (by omega)]; exact a4
  · unfold rSig; rw [hN 46 1 (by omega) (by omega) (by omega) (by omega), hI 47 (by omega) (by omega) (by omega) (by omega)]; exact a5
  · unfold rSta; rw [hI 48 (by omega) (by omega) (by omega) (by omega)]; exact a6
  · have e54 := hI 54 (by omega) (by omega) (by omega) (by omega)
    have eD : dS σ9 = dS σ := by funext a b; show iA σ9 54 _ = _; rw [e54]
    unfold rDis; rw [hN 53 0 (by omega) (by omega) (by omega) (by omega), hN 53 5 (by omega) (by omega) (by omega) (by omega), hN 53 6 (by omega) (by omega) (by omega) (by omega), eD, e54]; exact a7
end mv
/-- what a call of both sides owes: an int, exceptions by their codes -/
def SX {α : Type} (ex : List (String × Nat)) (post : α → St → Prop) (thr : String → St → Prop) (pm : α → St → Prop) (σ τ : St) : Prop :=
  (∀ r σ8, post r σ8 → mAg σ σ8 ∧ ∀ b τ9, pm b τ9 → cAg τ τ9 ∧ nF τ9 0 0 = nI 0 ∧ b = r ∧ RX σ8 τ9) ∧
  (∀ E σ8, thr E σ8 → ∃ c, (E, c) ∈ ex ∧ mAg σ σ8 ∧ ∀ b τ9, pm b τ9 → cAg τ τ9 ∧ nF τ9 0 0 = nI c ∧ RX σ8 τ9)
/-- without an answer -/
def SV (ex : List (String × Nat)) (post : St → Prop) (thr : String → St → Prop) (pm : St → Prop) (σ τ : St) : Prop :=
  (∀ σ8, post σ8 → mAg σ σ8 ∧ ∀ τ9, pm τ9 → cAg τ τ9 ∧ nF τ9 0 0 = nI 0 ∧ RX σ8 τ9) ∧
  (∀ E σ8, thr E σ8 → ∃ c, (E, c) ∈ ex ∧ mAg σ σ8 ∧ ∀ τ9, pm τ9 → cAg τ τ9 ∧ nF τ9 0 0 = nI c ∧ RX σ8 τ9)
/-- that never throws -/
def SN (post : Int32 → St → Prop) (pm : Int32 → St → Prop) (σ τ : St) : Prop := ∀ r σ8, post r σ8 → mAg σ σ8 ∧ ∀ b τ9, pm b τ9 → cAg τ τ9 ∧ b = r ∧ RX σ8 τ9
/-- nothing has changed but the reference's own numbers -/
theorem RX_t {σ τ : St} {k : Nat} (h : RX σ τ) : RX σ (mT τ k) := ⟨h.1, h.2.1, h.2.2.1, h.2.2.2.1, h.2.2.2.2.1, h.2.2.2.2.2.1, h.2.2.2.2.2.2.1, rTre_m rfl rfl rfl h.2.2.2.2.2.2.2⟩
theorem mT_t {τ : St} {k : Nat} : nF (mT τ k) 0 0 = nI k := nF_s
theorem cAg_t {τ : St} {k : Nat} : cAg τ (mT τ k) := cAg.rf.N (by omega)

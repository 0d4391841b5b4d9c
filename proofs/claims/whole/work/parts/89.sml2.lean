/-! triple, sign, state, kinds, distance, clear, count -/
/-- thrown: nothing has changed -/
theorem SX_no {α : Type} {σ τ : St} (h : RX σ τ) {ex : List (String × Nat)} {E : String} {c : Nat} {pm : α → St → Prop} (he : (E, c) ∈ ex) (hp : ∀ b τ9, pm b τ9 → τ9 = mT τ c) : ∃ c, (E, c) ∈ ex ∧ mAg σ σ ∧ ∀ b τ9, pm b τ9 → cAg τ τ9 ∧ nF τ9 0 0 = nI c ∧ RX σ τ9 :=
  ⟨c, he, mAg.rf, fun b τ9 h2 => by rw [hp b τ9 h2]; exact ⟨cAg_t, mT_t (τ := τ), RX_t h⟩⟩
theorem SV_no {σ τ : St} (h : RX σ τ) {ex : List (String × Nat)} {E : String} {c : Nat} {pm : St → Prop} (he : (E, c) ∈ ex) (hp : ∀ τ9, pm τ9 → τ9 = mT τ c) : ∃ c, (E, c) ∈ ex ∧ mAg σ σ ∧ ∀ τ9, pm τ9 → cAg τ τ9 ∧ nF τ9 0 0 = nI c ∧ RX σ τ9 :=
  ⟨c, he, mAg.rf, fun τ9 h2 => by rw [hp τ9 h2]; exact ⟨cAg_t, mT_t (τ := τ), RX_t h⟩⟩
theorem nI12 {a b : Nat} (ha : a < 12) (hb : b < 12) : nI a = nI b ↔ a = b := nI_eq (by omega) (by omega)
abbrev exTriple : List (String × Nat) := [(xIOB, 1), (xIAE, 2), (xUOE, 3)]
theorem s_triple {σ τ : St} (h : RX σ τ) (z : Nat) (hz : nF σ 43 2 = nI z) (h80 : z ≤ 80) (x y u : Int32) : SX exTriple (fun r σ9 => ∃ a b d, a < 12 ∧ b < 12 ∧ d < 12 ∧ x = nI a ∧ y = nI b ∧ u = nI d ∧ ¬ (x = y ∨ x = u ∨ y = u) ∧ z < 80 ∧ σ9 = trS9 σ a b d z ∧ r = nI (z + 1)) (fun E σ9 => σ9 = σ ∧ trX σ x y u z E) (mtrP τ z x y u) σ τ := by
  constructor
  · rintro r σ8 ⟨a, b, d, ha, hb, hd, rfl, rfl, rfl, hne, hlt, rfl, rfl⟩
    refine ⟨by unfold trS9; exact ((mAg.rf.I (by omega)).I (by omega)).N (by omega), ?_⟩
    rintro b9 τ9 (⟨hn, -⟩ | ⟨a9, b8, d9, ha9, hb9, hd9, e1, e2, e3, h3⟩)
    · exact absurd ⟨⟨a, ha, rfl⟩, ⟨b, hb, rfl⟩, ⟨d, hd, rfl⟩⟩ hn
    · have q1 := (nI12 ha ha9).mp e1
      have q2 := (nI12 hb hb9).mp e2
      have q3 := (nI12 hd hd9).mp e3
      subst q1; subst q2; subst q3
      rw [nI12 ha hb, nI12 ha hd, nI12 hb hd] at hne
      rcases h3 with ⟨hc, -⟩ | ⟨-, hc, -⟩ | ⟨-, -, rfl, rfl⟩
      · exact absurd hc hne
      · omega
      · refine ⟨(((cAg_t.I (by omega)).I (by omega)).I (by omega)).N (by omega), mT_t (τ := τ), rfl, h.tape, h.fau, h.wri, ?_, h.sig, h.sta, h.dis, rTre_c (((tAg.rf.I (by omega)).I (by omega)).N (by omega)) (rTre_m rfl rfl rfl h.tre)⟩
        obtain ⟨z9, hz9, f1, f2, f3⟩ := h.tri
        have : z9 = z := (nI_eq (by omega) (by omega)).mp (by rw [← f1, hz])
        subst this
        refine ⟨z9 + 1, by omega, nF_s, nF_s, fun t ht => ?_⟩
        have r5 : iA (sN (sI (sI (sI (mT τ 0) 5 (upd (iA τ 5) z9 (nI a))) 6 (upd (iA τ 6) z9 (nI b))) 7 (upd (iA τ 7) z9 (nI d))) 0 11 (nI (z9 + 1))) 5 t = upd (iA τ 5) z9 (nI a) t := rfl
        have r6 : iA (sN (sI (sI (sI (mT τ 0) 5 (upd (iA τ 5) z9 (nI a))) 6 (upd (iA τ 6) z9 (nI b))) 7 (upd (iA τ 7) z9 (nI d))) 0 11 (nI (z9 + 1))) 6 t = upd (iA τ 6) z9 (nI b) t := rfl
        have r7 : iA (sN (sI (sI (sI (mT τ 0) 5 (upd (iA τ 5) z9 (nI a))) 6 (upd (iA τ 6) z9 (nI b))) 7 (upd (iA τ 7) z9 (nI d))) 0 11 (nI (z9 + 1))) 7 t = upd (iA τ 7) z9 (nI d) t := rfl
        have r44 : iA (trS9 σ a b d z9) 44 t = upd (iA σ 44) z9 (bitI a ||| bitI b) t := rfl
        have r45 : iA (trS9 σ a b d z9) 45 t = upd (iA σ 45) z9 (bitI d) t := rfl
        rw [r5, r6, r7, r44, r45]
        by_cases q : t = z9
        · subst q
          rw [pk_us, pk_us, pk_us, pk_us, pk_us]
          exact ⟨a, b, d, ha, hb, hd, hne, rfl, rfl, rfl, rfl, rfl⟩
        · rw [pk_un q, pk_un q, pk_un q, pk_un q, pk_un q]
          exact f3 t (by omega)
  · rintro E σ8 ⟨rfl, (⟨rfl, hn⟩ | ⟨rfl, ⟨a, ha, rfl⟩, ⟨b, hb, rfl⟩, ⟨d, hd, rfl⟩, hc⟩ | ⟨rfl, ⟨a, ha, rfl⟩, ⟨b, hb, rfl⟩, ⟨d, hd, rfl⟩, hc, hz80⟩)⟩
    · refine SX_no h (c := 1) (by decide) ?_
      rintro b τ9 (⟨-, rfl⟩ | ⟨a9, b8, d9, ha9, hb9, hd9, e1, e2, e3, -⟩)
      · rfl
      · exact absurd ⟨⟨a9, ha9, e1⟩, ⟨b8, hb9, e2⟩, ⟨d9, hd9, e3⟩⟩ hn
    · refine SX_no h (c := 2) (by decide) ?_
      rintro b9 τ9 (⟨hn, -⟩ | ⟨a9, b8, d9, ha9, hb9, hd9, e1, e2, e3, h3⟩)
      · exact absurd ⟨⟨a, ha, rfl⟩, ⟨b, hb, rfl⟩, ⟨d, hd, rfl⟩⟩ hn
      · rw [e1, e2, e3, nI12 ha9 hb9, nI12 ha9 hd9, nI12 hb9 hd9] at hc
        rcases h3 with ⟨-, rfl⟩ | ⟨hc2, -⟩ | ⟨hc2, -⟩
        · rfl
        · exact absurd hc hc2
        · exact absurd hc hc2
    · refine SX_no h (c := 3) (by decide) ?_
      rintro b9 τ9 (⟨hn, -⟩ | ⟨a9, b8, d9, ha9, hb9, hd9, e1, e2, e3, h3⟩)
      · exact absurd ⟨⟨a, ha, rfl⟩, ⟨b, hb, rfl⟩, ⟨d, hd, rfl⟩⟩ hn
      · rw [e1, e2, e3, nI12 ha9 hb9, nI12 ha9 hd9, nI12 hb9 hd9] at hc
        rcases h3 with ⟨hc2, -⟩ | ⟨-, -, rfl⟩ | ⟨-, hc2, -⟩
        · exact absurd hc2 hc
        · rfl
        · omega
abbrev exSign : List (String × Nat) := [(xIAE, 1), (xUOE, 2)]
theorem s_sign {σ τ : St} (h : RX σ τ) (z : Nat) (hz : nF σ 46 1 = nI z) (h16 : z ≤ 16) (x : Int32) : SX exSign (fun r σ9 => okR 0 4095 x ∧ z < 16 ∧ σ9 = sN (sI σ 47 (upd (iA σ 47) z x)) 46 1 (nI (z + 1)) ∧ r = nI (z + 1)) (fun E σ9 => σ9 = σ ∧ siX x z E) (msiP τ z x) σ τ := by
  constructor
  · rintro r σ8 ⟨ho, hlt, rfl, rfl⟩
    refine ⟨(mAg.rf.I (by omega)).N (by omega), ?_⟩
    rintro b9 τ9 (⟨hn, -⟩ | ⟨-, hn, -⟩ | ⟨-, -, rfl, rfl⟩)
    · exact absurd ho hn
    · omega
    · refine ⟨(cAg_t.I (by omega)).N (by omega), mT_t (τ := τ), rfl, h.tape, h.fau, h.wri, h.tri, ?_, h.sta, h.dis, rTre_c ((tAg.rf.I (by omega)).N (by omega)) (rTre_m rfl rfl rfl h.tre)⟩
      obtain ⟨z9, hz9, f1, f2, f3⟩ := h.sig
      have : z9 = z := (nI_eq (by omega) (by omega)).mp (by rw [← f1, hz])
      subst this
      refine ⟨z9 + 1, by omega, nF_s, nF_s, fun t ht => ?_⟩
      have r8 : iA (sN (sI (mT τ 0) 8 (upd (iA τ 8) z9 x)) 0 13 (nI (z9 + 1))) 8 t = upd (iA τ 8) z9 x t := rfl
      have r47 : iA (sN (sI σ 47 (upd (iA σ 47) z9 x)) 46 1 (nI (z9 + 1))) 47 t = upd (iA σ 47) z9 x t := rfl
      rw [r8, r47]
      by_cases q : t = z9
      · subst q; rw [pk_us, pk_us]
      · rw [pk_un q, pk_un q]; exact f3 t (by omega)
  · rintro E σ8 ⟨rfl, (⟨rfl, hn⟩ | ⟨rfl, ho, hz16⟩)⟩
    · refine SX_no h (c := 1) (by decide) ?_
      rintro b τ9 (⟨-, rfl⟩ | ⟨ho, -⟩ | ⟨ho, -⟩)
      · rfl
      · exact absurd ho hn
      · exact absurd ho hn
    · refine SX_no h (c := 2) (by decide) ?_
      rintro b τ9 (⟨hn, -⟩ | ⟨-, -, rfl⟩ | ⟨-, hn, -⟩)
      · exact absurd ho hn
      · rfl
      · omega
abbrev exState : List (String × Nat) := [(xIOB, 1), (xIAE, 2)]
theorem s_state {σ τ : St} (h : RX σ τ) (x y u : Int32) : SV exState (fun σ9 => ∃ a b, a < 8 ∧ b < 12 ∧ x = nI a ∧ y = nI b ∧ okI 4 u ∧ σ9 = sI σ 48 (upd (iA σ 48) (a * 12 + b) u)) (fun E σ9 => σ9 = σ ∧ stX x y u E) (mstP τ x y u) σ τ := by
  constructor
  · rintro σ8 ⟨a, b, ha, hb, rfl, rfl, hu, rfl⟩
    refine ⟨mAg.rf.I (by omega), ?_⟩
    rintro τ9 (⟨hn, -⟩ | ⟨-, hn, -⟩ | ⟨a9, b9, ha9, hb9, e1, e2, -, rfl⟩)
    · exact absurd ⟨b, hb, rfl⟩ hn
    · exact absurd ⟨⟨a, ha, rfl⟩, hu⟩ hn
    · have q1 : a = a9 := (nI_eq (by omega) (by omega)).mp e1
      have q2 := (nI12 hb hb9).mp e2
      subst q1; subst q2
      refine ⟨cAg_t.I (by omega), mT_t (τ := τ), h.tape, h.fau, h.wri, h.tri, h.sig, fun k hk => ?_, h.dis, rTre_c (tAg.rf.I (by omega)) (rTre_m rfl rfl rfl h.tre)⟩
      have r1 : iA (sI σ 48 (upd (iA σ 48) (a * 12 + b) u)) 48 k = upd (iA σ 48) (a * 12 + b) u k := rfl
      have r2 : iA (sI (mT τ 0) 9 (upd (iA τ 9) (12 * a + b) u)) 9 k = upd (iA τ 9) (12 * a + b) u k := rfl
      rw [r1, r2, show a * 12 + b = 12 * a + b by omega]
      by_cases q : k = 12 * a + b
      · rw [q, pk_us, pk_us]
      · rw [pk_un q, pk_un q]; exact h.sta k hk
  · rintro E σ8 ⟨rfl, (⟨rfl, hn⟩ | ⟨rfl, ho, hn⟩)⟩
    · refine SV_no h (c := 1) (by decide) ?_
      rintro τ9 (⟨-, rfl⟩ | ⟨ho, -⟩ | ⟨a9, b9, ha9, hb9, e1, e2, -⟩)
      · rfl
      · exact absurd ho hn
      · exact absurd ⟨b9, hb9, e2⟩ hn
    · refine SV_no h (c := 2) (by decide) ?_
      rintro τ9 (⟨hn9, -⟩ | ⟨-, -, rfl⟩ | ⟨a9, b9, ha9, hb9, e1, e2, hu, -⟩)
      · exact absurd ho hn9
      · rfl
      · exact absurd ⟨⟨a9, ha9, e1⟩, hu⟩ hn
abbrev exKinds : List (String × Nat) := [(xIAE, 1)]
theorem s_kinds {σ τ : St} (h : RX σ τ) (x : Int32) : SV exKinds (fun σ9 => okR 2 12 x ∧ σ9 = sN σ 53 0 x) (fun E σ9 => σ9 = σ ∧ E = xIAE ∧ ¬ okR 2 12 x) (fun σ9 => (¬ okR 2 12 x ∧ σ9 = mT τ 1) ∨ (okR 2 12 x ∧ σ9 = sN (mT τ 0) 0 16 x)) σ τ := by
  constructor
  · rintro σ8 ⟨ho, rfl⟩
    refine ⟨mAg.rf.N (by omega), ?_⟩
    rintro τ9 (⟨hn, -⟩ | ⟨-, rfl⟩)
    · exact absurd ho hn
    · refine ⟨cAg_t.N (by omega), mT_t (τ := τ), h.tape, h.fau, h.wri, h.tri, h.sig, h.sta, ?_, rTre_c (tAg.rf.N (by omega)) (rTre_m rfl rfl rfl h.tre)⟩
      obtain ⟨N, h2, h12, e1, e2, e3, e4, e5, e6, e7⟩ := h.dis
      have hx0 : ¬ x < 0 := fun q => ho.1 (Int32.lt_trans q (by decide))
      obtain ⟨m, hm, rfl⟩ := okI_le (n := 12) (by decide) hx0 (Int32.not_lt.mp ho.2)
      have hm2 : 2 ≤ m := by
        refine Classical.byContradiction (fun q => ho.1 ?_)
        exact nI_lt (by omega) (by decide)
      exact ⟨m, hm2, by omega, nF_s, nF_s, e3, e4, e5, e6, e7⟩
  · rintro E σ8 ⟨rfl, rfl, hn⟩
    refine SV_no h (c := 1) (by decide) ?_
    rintro τ9 (⟨-, rfl⟩ | ⟨ho, -⟩)
    · rfl
    · exact absurd ho hn
theorem s_distance {σ τ : St} (h : RX σ τ) (x y u : Int32) : SV exState (fun σ9 => ∃ a b, a < 12 ∧ b < 12 ∧ x = nI a ∧ y = nI b ∧ ¬ x = y ∧ okR 0 100000 u ∧ σ9 = sI σ 54 (upd (upd (iA σ 54) (a * 12 + b) u) (b * 12 + a) u)) (fun E σ9 => σ9 = σ ∧ diX x y u E) (mdiP τ x y u) σ τ := by
  constructor
  · rintro σ8 ⟨a, b, ha, hb, rfl, rfl, hne, hu, rfl⟩
    refine ⟨mAg.rf.I (by omega), ?_⟩
    rintro τ9 (⟨hn, -⟩ | ⟨a9, b9, ha9, hb9, e1, e2, h3⟩)
    · exact absurd ⟨⟨a, ha, rfl⟩, ⟨b, hb, rfl⟩⟩ hn
    · have q1 := (nI12 ha ha9).mp e1
      have q2 := (nI12 hb hb9).mp e2
      subst q1; subst q2
      rw [nI12 ha hb] at hne
      rcases h3 with ⟨hc, -⟩ | ⟨-, -, rfl⟩
      · exact absurd hc (fun q => q.elim hne (fun z => z hu))
      · refine ⟨cAg_t.I (by omega), mT_t (τ := τ), h.tape, h.fau, h.wri, h.tri, h.sig, h.sta, ?_, rTre_c (tAg.rf.I (by omega)) (rTre_m rfl rfl rfl h.tre)⟩
        obtain ⟨N, h2, h12, e1, e2, e3, e4, e5, ⟨e6, e7, e8⟩, e9⟩ := h.dis
        have hd : ∀ i j, i < 12 → j < 12 → dS (sI σ 54 (upd (upd (iA σ 54) (a * 12 + b) u) (b * 12 + a) u)) i j = if (i = a ∧ j = b) ∨ (i = b ∧ j = a) then u else dS σ i j := by
          intro i j hi hj
          have r1 : dS (sI σ 54 (upd (upd (iA σ 54) (a * 12 + b) u) (b * 12 + a) u)) i j = upd (upd (iA σ 54) (a * 12 + b) u) (b * 12 + a) u (i * 12 + j) := rfl
          rw [r1]
          by_cases z1 : i = b ∧ j = a
          · rw [if_pos (Or.inr z1), z1.1, z1.2, pk_us]
          · rw [pk_un (by omega)]
            by_cases z2 : i = a ∧ j = b
            · rw [if_pos (Or.inl z2), z2.1, z2.2, pk_us]
            · rw [pk_un (by omega), if_neg (by omega)]
        have hu0 : 0 ≤ u := Int32.not_lt.mp hu.1
        have hu1 : u ≤ 100000 := Int32.not_lt.mp hu.2
        refine ⟨N, h2, h12, e1, e2, e3, e4, fun k hk => ?_, ⟨fun i j hi hj => ?_, fun i hi => ?_, fun i j hi hj => ?_⟩, fun i j hi hj => ?_⟩
        · have r1 : iA (sI σ 54 (upd (upd (iA σ 54) (a * 12 + b) u) (b * 12 + a) u)) 54 k = upd (upd (iA σ 54) (a * 12 + b) u) (b * 12 + a) u k := rfl
          have r2 : iA (sI (mT τ 0) 10 (upd (upd (iA τ 10) (12 * a + b) u) (12 * b + a) u)) 10 k = upd (upd (iA τ 10) (12 * a + b) u) (12 * b + a) u k := rfl
          rw [r1, r2, show a * 12 + b = 12 * a + b by omega, show b * 12 + a = 12 * b + a by omega]
          by_cases q : k = 12 * b + a
          · rw [q, pk_us, pk_us]
          · rw [pk_un q, pk_un q]
            by_cases q2 : k = 12 * a + b
            · rw [q2, pk_us, pk_us]
            · rw [pk_un q2, pk_un q2]; exact e5 k hk
        · rw [hd i j hi hj, hd j i hj hi]
          by_cases z : (i = a ∧ j = b) ∨ (i = b ∧ j = a)
          · rw [if_pos z, if_pos (by omega)]
          · rw [if_neg z, if_neg (by omega)]; exact e6 i j hi hj
        · rw [hd i i hi hi, if_neg (by omega)]; exact e7 i hi
        · rw [hd i j hi hj]
          split
          · exact hu0
          · exact e8 i j hi hj
        · rw [hd i j hi hj]
          split
          · exact hu1
          · exact e9 i j hi hj
  · rintro E σ8 ⟨rfl, (⟨rfl, hn⟩ | ⟨rfl, ⟨a, ha, rfl⟩, ⟨b, hb, rfl⟩, hn⟩)⟩
    · refine SV_no h (c := 1) (by decide) ?_
      rintro τ9 (⟨-, rfl⟩ | ⟨a9, b9, ha9, hb9, e1, e2, -⟩)
      · rfl
      · exact absurd ⟨⟨a9, ha9, e1⟩, ⟨b9, hb9, e2⟩⟩ hn
    · refine SV_no h (c := 2) (by decide) ?_
      rintro τ9 (⟨hn9, -⟩ | ⟨a9, b9, ha9, hb9, e1, e2, h3⟩)
      · exact absurd ⟨⟨a, ha, rfl⟩, ⟨b, hb, rfl⟩⟩ hn9
      · have q1 := (nI12 ha ha9).mp e1
        have q2 := (nI12 hb hb9).mp e2
        subst q1; subst q2
        rw [nI12 ha hb] at hn
        rcases h3 with ⟨-, rfl⟩ | ⟨h4, h5, -⟩
        · rfl
        · exact absurd hn (fun q => q.elim h4 (fun z => z h5))

/-! Questions about trees -/
abbrev exHas : List (String × Nat) := [(xIOB, 1), (xISE, 2)]
theorem RX_12 {σ τ : St} {g : Nat → Int32} (h : RX σ τ) : RX σ (sI (mT τ 0) 12 g) := ⟨h.tape, h.fau, h.wri, h.tri, h.sig, h.sta, h.dis, rTre_m rfl rfl rfl h.tre⟩
theorem m12_ok {σ τ τ9 : St} (h : RX σ τ) (hm : m12 τ τ9) : cAg τ τ9 ∧ nF τ9 0 0 = nI 0 ∧ RX σ τ9 := by
  obtain ⟨g, rfl⟩ := hm
  exact ⟨cAg_t.I (by omega), mT_t (τ := τ), RX_12 h⟩
theorem RX.sh {σ τ : St} (h : RX σ τ) {i : Nat} (hi : i < 8) : rSh σ τ i := h.tre.2.2 i hi
theorem mp1_no {σ τ τ9 : St} (h : RX σ τ) {i : Nat} (hi : i < 8) (ho : okP σ i) : ¬ mp1 τ (nI i) τ9 := by
  rintro (⟨hn, -⟩ | ⟨k, hk, e, hp, -⟩)
  · exact hn ⟨i, hi, rfl⟩
  · have := (nI8 hi hk).mp e
    subst this
    exact hp ((pl_eq (h.sh hi)).mp ho)
theorem mt1_no {σ τ τ9 : St} (h : RX σ τ) {i : Nat} (hi : i < 8) (ho : ¬ tN σ (tS σ i) = 0) : ¬ mt1 τ (nI i) τ9 := by
  rintro (⟨hn, -⟩ | ⟨k, hk, e, hp, -⟩)
  · exact hn ⟨i, hi, rfl⟩
  · have := (nI8 hi hk).mp e
    subst this
    exact ho ((sh_z (h.sh hi)).mpr hp)
/-- thrown: no shelf, or no plain tree -/
theorem p1_thr {α : Type} {σ τ : St} (h : RX σ τ) {x : Int32} {pm : α → St → Prop} (hp : ∀ b τ9, pm b τ9 → mp1 τ x τ9 ∨ ∃ i, i < 8 ∧ x = nI i ∧ mPl τ i) {E : String} (hx : p1X σ x E) : ∃ c, (E, c) ∈ exHas ∧ mAg σ σ ∧ ∀ b τ9, pm b τ9 → cAg τ τ9 ∧ nF τ9 0 0 = nI c ∧ RX σ τ9 := by
  rcases hx with ⟨rfl, hn⟩ | ⟨rfl, i, hi, rfl, ho⟩
  · refine SX_no h (c := 1) (by decide) (fun b τ9 h2 => ?_)
    rcases hp b τ9 h2 with (⟨-, e⟩ | ⟨k, hk, e, -⟩) | ⟨k, hk, e, -⟩
    · exact e
    · exact absurd ⟨k, hk, e⟩ hn
    · exact absurd ⟨k, hk, e⟩ hn
  · refine SX_no h (c := 2) (by decide) (fun b τ9 h2 => ?_)
    rcases hp b τ9 h2 with (⟨hn, -⟩ | ⟨k, hk, e, -, e2⟩) | ⟨k, hk, e, hpl⟩
    · exact absurd ⟨i, hi, rfl⟩ hn
    · exact e2
    · have := (nI8 hi hk).mp e
      subst this
      exact absurd ((pl_eq (h.sh hi)).mpr hpl) ho
theorem t1_thr {α : Type} {σ τ : St} (h : RX σ τ) {x : Int32} {pm : α → St → Prop} {ex : List (String × Nat)} (he1 : (xIOB, 1) ∈ ex) (he2 : (xISE, 2) ∈ ex) (hp : ∀ b τ9, pm b τ9 → mt1 τ x τ9 ∨ ∃ i, i < 8 ∧ x = nI i ∧ ¬ mN τ i = 0) {E : String} (hx : t1X σ x E) : ∃ c, (E, c) ∈ ex ∧ mAg σ σ ∧ ∀ b τ9, pm b τ9 → cAg τ τ9 ∧ nF τ9 0 0 = nI c ∧ RX σ τ9 := by
  rcases hx with ⟨rfl, hn⟩ | ⟨rfl, i, hi, rfl, ho⟩
  · refine SX_no h (c := 1) he1 (fun b τ9 h2 => ?_)
    rcases hp b τ9 h2 with (⟨-, e⟩ | ⟨k, hk, e, -⟩) | ⟨k, hk, e, -⟩
    · exact e
    · exact absurd ⟨k, hk, e⟩ hn
    · exact absurd ⟨k, hk, e⟩ hn
  · refine SX_no h (c := 2) he2 (fun b τ9 h2 => ?_)
    rcases hp b τ9 h2 with (⟨hn, -⟩ | ⟨k, hk, e, -, e2⟩) | ⟨k, hk, e, hpl⟩
    · exact absurd ⟨i, hi, rfl⟩ hn
    · exact e2
    · have := (nI8 hi hk).mp e
      subst this
      exact absurd ((sh_z (h.sh hi)).mp ho) hpl
theorem s_has {σ τ : St} (h : RX σ τ) (x y : Int32) : SX exHas (fun r σ9 => ∃ i, i < 8 ∧ x = nI i ∧ okP σ i ∧ σ9 = σ ∧ r = pI (∃ v, v < nn σ (tS σ i) ∧ tC σ (tS σ i) v = y)) (fun E σ9 => σ9 = σ ∧ p1X σ x E) (fun r σ9 => mp1 τ x σ9 ∨ (∃ i, i < 8 ∧ x = nI i ∧ mPl τ i ∧ m12 τ σ9 ∧ r = pI (mHas τ i y))) σ τ := by
  constructor
  · rintro r σ8 ⟨i, hi, rfl, ho, rfl, rfl⟩
    refine ⟨mAg.rf, ?_⟩
    rintro b τ9 (h2 | ⟨k, hk, e, hpl, hm, rfl⟩)
    · exact absurd h2 (mp1_no h hi ho)
    · have := (nI8 hi hk).mp e
      subst this
      obtain ⟨c1, c2, c3⟩ := m12_ok h hm
      refine ⟨c1, c2, pI_c ?_, c3⟩
      exact ((sh_mem9 (h.sh hi) (pl_SF (h.sh hi) hpl) y).symm).trans (sh_mem (h.sh hi) y)
  · rintro E σ8 ⟨rfl, hx⟩
    refine p1_thr h (fun b τ9 h2 => ?_) hx
    rcases h2 with h2 | ⟨k, hk, e, hpl, -⟩
    · exact Or.inl h2
    · exact Or.inr ⟨k, hk, e, hpl⟩
theorem s_least {σ τ : St} (h : RX σ τ) (x y : Int32) : SX exHas (fun r σ9 => ∃ i, i < 8 ∧ x = nI i ∧ okP σ i ∧ σ9 = σ ∧ r = if y = 0 then -1 else lcaU (tC σ (tS σ i)) y (nn σ (tS σ i))) (fun E σ9 => σ9 = σ ∧ p1X σ x E) (fun r σ9 => mp1 τ x σ9 ∨ (∃ i, i < 8 ∧ x = nI i ∧ mPl τ i ∧ m12 τ σ9 ∧ r = if y = 0 then -1 else mLo τ i y)) σ τ := by
  constructor
  · rintro r σ8 ⟨i, hi, rfl, ho, rfl, rfl⟩
    refine ⟨mAg.rf, ?_⟩
    rintro b τ9 (h2 | ⟨k, hk, e, hpl, hm, rfl⟩)
    · exact absurd h2 (mp1_no h hi ho)
    · have := (nI8 hi hk).mp e
      subst this
      obtain ⟨c1, c2, c3⟩ := m12_ok h hm
      refine ⟨c1, c2, ?_, c3⟩
      by_cases hy : y = 0
      · rw [if_pos hy, if_pos hy]
      · rw [if_neg hy, if_neg hy]
        exact (lc_eq (pl_gm (h.sh hi) hpl) (sh_mem (h.sh hi)) (sh_mem9 (h.sh hi) (pl_SF (h.sh hi) hpl)) hy).symm
  · rintro E σ8 ⟨rfl, hx⟩
    refine p1_thr h (fun b τ9 h2 => ?_) hx
    rcases h2 with h2 | ⟨k, hk, e, hpl, -⟩
    · exact Or.inl h2
    · exact Or.inr ⟨k, hk, e, hpl⟩
/-! look, count, clear -/
theorem lk_eq {σ τ : St} {i : Nat} (h : rSh σ τ i) (hf : SF σ τ i) (y : Int32) : mlkR τ i y = lkR σ (tS σ i) y := by
  unfold mlkR lkR
  rw [sh_mLs h hf, h.1.2.2.2, hf.2.1, h.1.1.1, sh_mKs h hf, sh_aK h hf, dep_eq h hf, hf.2.1, pI_c (bi_eq h hf)]
  have e : plP σ (tS σ i) ↔ mPl τ i := by
    rw [← pl_eq h]
    exact ⟨fun z => ⟨fun z2 => by have := (sh_z h).mp z2; have := hf.1; have := hf.2.1; omega, z⟩, fun z => z.2⟩
  rw [pI_c e]
abbrev exLook : List (String × Nat) := [(xIOB, 1), (xISE, 2), (xNSE, 3)]
theorem s_look {σ τ : St} (h : RX σ τ) (x y : Int32) : SX exLook (fun r σ9 => ∃ i, i < 8 ∧ x = nI i ∧ ¬ tN σ (tS σ i) = 0 ∧ okI 6 y ∧ σ9 = σ ∧ r = lkR σ (tS σ i) y) (fun E σ9 => σ9 = σ ∧ lkX σ x y E) (mlkP τ x y) σ τ := by
  constructor
  · rintro r σ8 ⟨i, hi, rfl, ho, hy, rfl, rfl⟩
    refine ⟨mAg.rf, ?_⟩
    rintro b τ9 (h2 | ⟨k, hk, e, hn, (⟨hny, -⟩ | ⟨-, rfl, rfl⟩)⟩)
    · exact absurd h2 (mt1_no h hi ho)
    · exact absurd hy hny
    · have := (nI8 hi hk).mp e
      subst this
      exact ⟨cAg_t, mT_t (τ := τ), lk_eq (h.sh hi) (sh_SF (h.sh hi) hn) y, RX_t h⟩
  · rintro E σ8 ⟨rfl, (hx | ⟨rfl, ⟨i, hi, rfl, hn⟩, hny⟩)⟩
    · refine t1_thr h (by decide) (by decide) (fun b τ9 h2 => ?_) hx
      rcases h2 with h2 | ⟨k, hk, e, hn, -⟩
      · exact Or.inl h2
      · exact Or.inr ⟨k, hk, e, hn⟩
    · refine SX_no h (c := 3) (by decide) ?_
      rintro b τ9 (h2 | ⟨k, hk, e, -, (⟨-, rfl⟩ | ⟨hy, -⟩)⟩)
      · exact absurd h2 (mt1_no h hi hn)
      · rfl
      · exact absurd hy hny
theorem fu_eq {σ τ : St} (h : RX σ τ) : ∀ k, k ≤ 8 → mfuU τ k = fuU σ k
  | 0, _ => rfl
  | k + 1, hk => by
    have ih := fu_eq h k (by omega)
    have hz := sh_z (h.sh (show k < 8 by omega))
    show mfuU τ k ||| (if mN τ k = 0 then nI 0 else nI 1 <<< (nI k &&& 31)) = (if tN σ (tS σ k) = 0 then fuU σ k else fuU σ k ||| (nI 1 <<< (nI k &&& 31)))
    rw [ih]
    by_cases e : mN τ k = 0
    · rw [if_pos e, if_pos (hz.mpr e)]
      refine In_ext (fun j _ => ?_)
      rw [In_or]
      exact ⟨fun z => z.elim id (fun q => absurd q In_0), Or.inl⟩
    · rw [if_neg e, if_neg (fun z => e (hz.mp z))]
theorem s_count {σ τ : St} (h : RX σ τ) (x : Int32) : SN (fun r σ9 => σ9 = σ ∧ r = ctR σ x) (fun r σ9 => σ9 = mT τ 0 ∧ r = mctR τ x) σ τ := by
  rintro r σ8 ⟨rfl, rfl⟩
  refine ⟨mAg.rf, ?_⟩
  rintro b τ9 ⟨rfl, rfl⟩
  refine ⟨cAg_t, ?_, RX_t h⟩
  obtain ⟨n, _, e1, e2, _⟩ := h.tape
  obtain ⟨⟨m, _, f1, f2, _⟩, _⟩ := h.wri
  obtain ⟨z, _, g1, g2, _⟩ := h.tri
  obtain ⟨q, _, i1, i2, _⟩ := h.sig
  obtain ⟨N, _, _, j1, j2, _⟩ := h.dis
  unfold mctR ctR
  rw [fu_eq h 8 (by omega), e1, e2, f1, f2, g1, g2, i1, i2, j1, j2]
abbrev exClear : List (String × Nat) := [(xIOB, 1)]
theorem s_clear {σ τ : St} (h : RX σ τ) (x : Int32) : SX exClear (fun r σ9 => ∃ i, i < 8 ∧ x = nI i ∧ σ9 = sN (sN σ (64 + 5 * tS σ i) 4 (nI 0)) (64 + 5 * tS σ i) 5 (nI 0) ∧ r = if tN σ (tS σ i) = 0 then 0 else 1) (fun E σ9 => σ9 = σ ∧ E = xIOB ∧ ¬ okI 8 x) (fun r σ9 => (¬ okI 8 x ∧ σ9 = mT τ 1) ∨ (∃ i, i < 8 ∧ x = nI i ∧ σ9 = sI (mT τ 0) 2 (upd (iA τ 2) i (nI 0)) ∧ r = pI (0 < mN τ i))) σ τ := by
  constructor
  · rintro r σ8 ⟨i, hi, rfl, rfl, rfl⟩
    refine ⟨(mAg.rf.N (by omega)).N (by omega), ?_⟩
    rintro b τ9 (⟨hn, -⟩ | ⟨k, hk, e, rfl, rfl⟩)
    · exact absurd ⟨i, hi, rfl⟩ hn
    · have := (nI8 hi hk).mp e
      subst this
      have hz := sh_z (h.sh hi)
      have h7 := RX_7 h
      refine ⟨cAg_t.I (by omega), mT_t (τ := τ), ?_, RX_of7 (R7_c (σ := σ) (fun a q1 q2 q3 q4 => ⟨rfl, (nF_fn (by omega)).trans (nF_fn (by omega))⟩) h7) ?_⟩
      · by_cases q : tN σ (tS σ i) = 0
        · rw [if_pos q]; exact pI_f (by have := hz.mp q; omega)
        · rw [if_neg q]; exact pI_t (Nat.pos_of_ne_zero (fun z => q (hz.mpr z)))
      · have hn0 : nn (sN (sN σ (64 + 5 * tS σ i) 4 (nI 0)) (64 + 5 * tS σ i) 5 (nI 0)) (tS σ i) = 0 := by
          show (nF _ _ 4).toNatClampNeg = 0
          rw [nF_k (k := 5) (k9 := 4) (by decide), nF_s]
          decide
        have hN0 : tN (sN (sN σ (64 + 5 * tS σ i) 4 (nI 0)) (64 + 5 * tS σ i) 5 (nI 0)) (tS σ i) = nI 0 := (nF_k (k := 5) (k9 := 4) (by decide)).trans nF_s
        have hL0 : tL (sN (sN σ (64 + 5 * tS σ i) 4 (nI 0)) (64 + 5 * tS σ i) 5 (nI 0)) (tS σ i) = nI 0 := nF_s
        have htr : trOk (sN (sN σ (64 + 5 * tS σ i) 4 (nI 0)) (64 + 5 * tS σ i) 5 (nI 0)) (tS σ i) := by
          unfold trOk
          rw [hn0]
          exact ⟨hN0, by omega, fun v _ hv => absurd hv (by omega), fun z => absurd z (by omega), fun v hv => absurd hv (by omega)⟩
        have hja : ∀ j, j ≠ tS σ i → jAg σ (sN (sN σ (64 + 5 * tS σ i) 4 (nI 0)) (64 + 5 * tS σ i) 5 (nI 0)) j := fun j hj => ⟨(nF_fn (by omega)).trans (nF_fn (by omega)), rfl, rfl, rfl, rfl⟩
        have hm0 : mN (sI (mT τ 0) 2 (upd (iA τ 2) i (nI 0))) i = 0 := by
          show (upd (iA τ 2) i (nI 0) i).toNatClampNeg = 0
          rw [pk_us]; decide
        have hm2 : iA (sI (mT τ 0) 2 (upd (iA τ 2) i (nI 0))) 2 i = nI 0 := by show upd (iA τ 2) i (nI 0) i = _; exact pk_us
        refine rTre_up (k := i) h.tre h.tre.1.1 h.tre.2.1 (fun k hk hne => ⟨rfl, hja _ (fun e => hne (h.tre.2.1 k i (by omega) (by omega) e))⟩) (fun j hj => ?_) (fun k hk hne => ⟨pk_un hne, fun _ _ => rfl, fun _ _ => rfl⟩) (fun _ => ?_)
        · by_cases e : j = tS σ i
          · rw [e]; exact htr
          · exact (trOk_j (hja j e)).mpr (h.tre.1.2 j hj)
        · unfold rSh cTr mtOk
          rw [show tS (sN (sN σ (64 + 5 * tS σ i) 4 (nI 0)) (64 + 5 * tS σ i) 5 (nI 0)) i = tS σ i from rfl, hn0, hm0]
          refine ⟨⟨htr, fun z => absurd z (by omega), fun v hv => absurd hv (by omega), hL0⟩, ⟨hm2, by omega, fun v _ hv => absurd hv (by omega), fun z => absurd z (by omega), fun v hv => absurd hv (by omega)⟩, rfl, id, id, fun v hv => absurd hv (by omega), rfl, fun v hv => absurd hv (by omega), fun v _ hv => absurd hv (by omega)⟩
  · rintro E σ8 ⟨rfl, rfl, hn⟩
    refine SX_no h (c := 1) (by decide) ?_
    rintro b τ9 (⟨-, rfl⟩ | ⟨k, hk, e, -⟩)
    · rfl
    · exact absurd ⟨k, hk, e⟩ hn
/-! nearer, unlike, alike, shown -/
theorem sb3 {a b d : Nat} (ha : a < 12) (hb : b < 12) (hd : d < 12) {r : Int32} : Sb (al3 a b d) r ↔ In a r ∧ In b r ∧ In d r := by
  constructor
  · intro h
    exact ⟨h a ((in3 ha hb hd).mpr (Or.inl rfl)), h b ((in3 ha hb hd).mpr (Or.inr (Or.inl rfl))), h d ((in3 ha hb hd).mpr (Or.inr (Or.inr rfl)))⟩
  · intro ⟨h1, h2, h3⟩ k hk
    rcases (in3 ha hb hd).mp hk with rfl | rfl | rfl
    · exact h1
    · exact h2
    · exact h3
theorem msP_i {σ τ : St} {i : Nat} (h : rSh σ τ i) (hp : mPl τ i) {a b d : Nat} (ha : a < 12) (hb : b < 12) (hd : d < 12) : msP τ i a b d ↔ (In a (cR σ (tS σ i)) ∧ In b (cR σ (tS σ i)) ∧ In d (cR σ (tS σ i))) ∧ tells (CMs σ (tS σ i)) a b d := by
  have hf := pl_SF h hp
  show (al3 a b d &&& (mKs τ i ^^^ (-1)) = 0 ∧ (mLo τ i (bitI a ||| bitI b) >>> (nI d &&& 31)) &&& nI 1 = 0) ↔ _
  rw [sb_not, sh_mKs h hf, sb3 ha hb hd]
  constructor
  · intro ⟨h1, h2⟩
    exact ⟨h1, (ms_tells ha hb hd (pl_gm h hp) (sh_mem9 h hf) h1.1 h1.2.1).mp h2⟩
  · intro ⟨h1, h2⟩
    exact ⟨h1, (ms_tells ha hb hd (pl_gm h hp) (sh_mem9 h hf) h1.1 h1.2.1).mpr h2⟩
theorem cI_c {α : Type} {P Q : Prop} {a b a9 b9 : α} (h : P ↔ Q) (ha : a = a9) (hb : b = b9) : cI P a b = cI Q a9 b9 := by rw [propext h, ha, hb]
theorem msO_i {σ τ : St} {i : Nat} (h : rSh σ τ i) (hp : mPl τ i) {a b d : Nat} (ha : a < 12) (hb : b < 12) (hd : d < 12) (hab : ¬ a = b) (had : ¬ a = d) (hbd : ¬ b = d) (hr : In a (cR σ (tS σ i)) ∧ In b (cR σ (tS σ i)) ∧ In d (cR σ (tS σ i))) : msO τ i a b d = alW σ (tS σ i) a b d := by
  show _ = wnU (tC σ (tS σ i)) (bitI a) (bitI b) (bitI d) (nn σ (tS σ i)) 0
  rw [wn_ms ha hb hd hab had hbd (pl_gm h hp) (sh_mem h)]
  unfold msO
  refine cI_c ?_ rfl (cI_c ?_ rfl (cI_c ?_ rfl rfl))
  · rw [msP_i h hp ha hb hd]; exact ⟨fun z => z.2, fun z => ⟨hr, z⟩⟩
  · rw [msP_i h hp ha hd hb]; exact ⟨fun z => z.2, fun z => ⟨⟨hr.1, hr.2.2, hr.2.1⟩, z⟩⟩
  · rw [msP_i h hp hb hd ha]; exact ⟨fun z => z.2, fun z => ⟨⟨hr.2.1, hr.2.2, hr.1⟩, z⟩⟩
theorem bc3e : ∀ a b d : Fin 12, (bC (al3 a.val b.val d.val) = nI 3 ↔ ¬ (a.val = b.val ∨ a.val = d.val ∨ b.val = d.val)) := by decide +kernel
theorem s_nearer {σ τ : St} (h : RX σ τ) (x a b d : Int32) : SX exLook (fun r σ9 => ∃ i q u v, i < 8 ∧ q < 12 ∧ u < 12 ∧ v < 12 ∧ x = nI i ∧ a = nI q ∧ b = nI u ∧ d = nI v ∧ okP σ i ∧ bC (al3 q u v) = nI 3 ∧ aK σ (tS σ i) &&& al3 q u v = al3 q u v ∧ σ9 = σ ∧ r = alW σ (tS σ i) q u v) (fun E σ9 => σ9 = σ ∧ neX9 σ x a b d E) (mneP τ x a b d) σ τ := by
  constructor
  · rintro r σ8 ⟨i, q, u, v, hi, hq, hu, hv, rfl, rfl, rfl, rfl, ho, hb3, hal, rfl, rfl⟩
    refine ⟨mAg.rf, ?_⟩
    have hpl := (pl_eq (h.sh hi)).mp ho
    have hf := pl_SF (h.sh hi) hpl
    have hd3 := (bc3e ⟨q, hq⟩ ⟨u, hu⟩ ⟨v, hv⟩).mp hb3
    rw [sb_and, sh_aK (h.sh hi) hf] at hal
    rintro b τ9 (⟨hn, -⟩ | ⟨i9, q9, u9, v9, hi9, hq9, hu9, hv9, e1, e2, e3, e4, h3⟩)
    · exact absurd ⟨⟨i, hi, rfl⟩, ⟨q, hq, rfl⟩, ⟨u, hu, rfl⟩, ⟨v, hv, rfl⟩⟩ hn
    · have z1 := (nI8 hi hi9).mp e1
      have z2 := (nI12 hq hq9).mp e2
      have z3 := (nI12 hu hu9).mp e3
      have z4 := (nI12 hv hv9).mp e4
      subst z1; subst z2; subst z3; subst z4
      rcases h3 with ⟨hn, -⟩ | ⟨-, hc, -⟩ | ⟨-, -, hk, hm, rfl⟩
      · exact absurd hpl hn
      · exfalso
        rcases hc with c | c | c | c
        · exact hd3 (Or.inl c)
        · exact hd3 (Or.inr (Or.inl c))
        · exact hd3 (Or.inr (Or.inr c))
        · rw [sb_not, sh_mKs (h.sh hi) hf] at c
          exact c hal
      · obtain ⟨c1, c2, c3⟩ := m12_ok h hm
        refine ⟨c1, c2, ?_, c3⟩
        exact msO_i (h.sh hi) hpl hq hu hv (fun z => hd3 (Or.inl z)) (fun z => hd3 (Or.inr (Or.inl z))) (fun z => hd3 (Or.inr (Or.inr z))) ((sb3 hq hu hv).mp hal)
  · rintro E σ8 ⟨rfl, (⟨rfl, hn⟩ | ⟨rfl, ⟨q, hq, rfl⟩, ⟨u, hu, rfl⟩, ⟨v, hv, rfl⟩, i, hi, rfl, ho⟩ | ⟨rfl, i, q, u, v, hi, hq, hu, hv, rfl, rfl, rfl, rfl, ho, hc⟩)⟩
    · refine SX_no h (c := 1) (by decide) ?_
      rintro b τ9 (⟨-, rfl⟩ | ⟨i9, q9, u9, v9, hi9, hq9, hu9, hv9, e1, e2, e3, e4, -⟩)
      · rfl
      · exact absurd ⟨⟨i9, hi9, e1⟩, ⟨q9, hq9, e2⟩, ⟨u9, hu9, e3⟩, ⟨v9, hv9, e4⟩⟩ hn
    · refine SX_no h (c := 2) (by decide) ?_
      rintro b τ9 (⟨hn, -⟩ | ⟨i9, q9, u9, v9, hi9, hq9, hu9, hv9, e1, e2, e3, e4, h3⟩)
      · exact absurd ⟨⟨i, hi, rfl⟩, ⟨q, hq, rfl⟩, ⟨u, hu, rfl⟩, ⟨v, hv, rfl⟩⟩ hn
      · have z1 := (nI8 hi hi9).mp e1
        subst z1
        have hnp : ¬ mPl τ i := fun z => ho ((pl_eq (h.sh hi)).mpr z)
        rcases h3 with ⟨-, rfl⟩ | ⟨hp, -⟩ | ⟨hp, -⟩
        · rfl
        · exact absurd hp hnp
        · exact absurd hp hnp
    · refine SX_no h (c := 3) (by decide) ?_
      have hpl := (pl_eq (h.sh hi)).mp ho
      have hf := pl_SF (h.sh hi) hpl
      rintro b τ9 (⟨hn, -⟩ | ⟨i9, q9, u9, v9, hi9, hq9, hu9, hv9, e1, e2, e3, e4, h3⟩)
      · exact absurd ⟨⟨i, hi, rfl⟩, ⟨q, hq, rfl⟩, ⟨u, hu, rfl⟩, ⟨v, hv, rfl⟩⟩ hn
      · have z1 := (nI8 hi hi9).mp e1
        have z2 := (nI12 hq hq9).mp e2
        have z3 := (nI12 hu hu9).mp e3
        have z4 := (nI12 hv hv9).mp e4
        subst z1; subst z2; subst z3; subst z4
        rcases h3 with ⟨hn, -⟩ | ⟨-, -, rfl⟩ | ⟨-, hne, hk, -⟩
        · exact absurd hpl hn
        · rfl
        · exfalso
          rcases hc with c | c
          · exact c ((bc3e ⟨q, hq⟩ ⟨u, hu⟩ ⟨v, hv⟩).mpr hne)
          · rw [sb_and, sh_aK (h.sh hi) hf] at c
            rw [sb_not, sh_mKs (h.sh hi) hf] at hk
            exact c hk
/-- two shelves -/
theorem t2_thr {σ τ : St} (h : RX σ τ) {x y : Int32} {pm : Int32 → St → Prop} (hp : ∀ b τ9, pm b τ9 → np9 τ x y τ9 ∨ ∃ i k, i < 8 ∧ k < 8 ∧ x = nI i ∧ y = nI k ∧ mPl τ i ∧ mPl τ k) {E : String} (hx : t2X σ x y E) : ∃ c, (E, c) ∈ exHas ∧ mAg σ σ ∧ ∀ b τ9, pm b τ9 → cAg τ τ9 ∧ nF τ9 0 0 = nI c ∧ RX σ τ9 := by
  rcases hx with ⟨rfl, hn⟩ | ⟨rfl, ⟨i, hi, rfl⟩, ⟨k, hk, rfl⟩, ho⟩
  · refine SX_no h (c := 1) (by decide) (fun b τ9 h2 => ?_)
    rcases hp b τ9 h2 with (⟨-, e⟩ | ⟨i, k, hi, hk, e1, e2, -⟩) | ⟨i, k, hi, hk, e1, e2, -⟩
    · exact e
    · exact (hn.elim (fun z => z ⟨i, hi, e1⟩) (fun z => z ⟨k, hk, e2⟩)).elim
    · exact (hn.elim (fun z => z ⟨i, hi, e1⟩) (fun z => z ⟨k, hk, e2⟩)).elim
  · refine SX_no h (c := 2) (by decide) (fun b τ9 h2 => ?_)
    rcases hp b τ9 h2 with (⟨hn, -⟩ | ⟨i9, k9, hi9, hk9, e1, e2, -, e⟩) | ⟨i9, k9, hi9, hk9, e1, e2, p1, p2⟩
    · exact absurd ⟨⟨i, hi, rfl⟩, ⟨k, hk, rfl⟩⟩ hn
    · exact e
    · exfalso
      rcases ho with ⟨j, hj, e, z⟩ | ⟨j, hj, e, z⟩
      · have := (nI8 hj hi9).mp (e.symm.trans e1)
        subst this
        exact z ((pl_eq (h.sh hj)).mpr p1)
      · have := (nI8 hj hk9).mp (e.symm.trans e2)
        subst this
        exact z ((pl_eq (h.sh hj)).mpr p2)
theorem np9_no {σ τ τ9 : St} (h : RX σ τ) {i k : Nat} (hi : i < 8) (hk : k < 8) (h1 : okP σ i) (h2 : okP σ k) : ¬ np9 τ (nI i) (nI k) τ9 := by
  rintro (⟨hn, -⟩ | ⟨i9, k9, hi9, hk9, e1, e2, hn, -⟩)
  · exact hn ⟨⟨i, hi, rfl⟩, ⟨k, hk, rfl⟩⟩
  · have z1 := (nI8 hi hi9).mp e1
    have z2 := (nI8 hk hk9).mp e2
    subst z1; subst z2
    exact hn ⟨(pl_eq (h.sh hi)).mp h1, (pl_eq (h.sh hk)).mp h2⟩
theorem al_eq {σ τ : St} {i k : Nat} (h : rSh σ τ i) (h2 : rSh σ τ k) (hp : mPl τ i) (hp2 : mPl τ k) : cntU (maC τ i k) (mN τ i) = cntU (alC σ (tS σ i) (tS σ k)) (nn σ (tS σ i)) := by
  have hf := pl_SF h hp
  have hf2 := pl_SF h2 hp2
  obtain ⟨π, ρ, hI, he⟩ := sh_iso h hf
  rw [hf.2.1, ← cnt_bij hI.1 (maC τ i k)]
  refine cnt_c _ (fun v hv => not_congr ?_)
  show (∃ u, u < mN τ k ∧ mcl τ k u = mcl τ i (π v)) ↔ ∃ u, u < nn σ (tS σ k) ∧ tC σ (tS σ k) u = tC σ (tS σ i) v
  rw [he v hv]
  exact ((sh_mem9 h2 hf2 _).symm).trans (sh_mem h2 _)
theorem s_unlike {σ τ : St} (h : RX σ τ) (x y : Int32) : SX exHas (fun r σ9 => ∃ i, i < 8 ∧ x = nI i ∧ okP σ i ∧ ∃ k, k < 8 ∧ y = nI k ∧ okP σ k ∧ σ9 = σ ∧ r = nI (cntU (alC σ (tS σ i) (tS σ k)) (nn σ (tS σ i)) + cntU (alC σ (tS σ k) (tS σ i)) (nn σ (tS σ k)))) (fun E σ9 => σ9 = σ ∧ t2X σ x y E) (fun r σ9 => np9 τ x y σ9 ∨ (∃ i k, i < 8 ∧ k < 8 ∧ x = nI i ∧ y = nI k ∧ mPl τ i ∧ mPl τ k ∧ m12 τ σ9 ∧ r = nI (cntU (maC τ i k) (mN τ i) + cntU (maC τ k i) (mN τ k)))) σ τ := by
  constructor
  · rintro r σ8 ⟨i, hi, rfl, ho, k, hk, rfl, ho2, rfl, rfl⟩
    refine ⟨mAg.rf, ?_⟩
    rintro b τ9 (h2 | ⟨i9, k9, hi9, hk9, e1, e2, p1, p2, hm, rfl⟩)
    · exact absurd h2 (np9_no h hi hk ho ho2)
    · have z1 := (nI8 hi hi9).mp e1
      have z2 := (nI8 hk hk9).mp e2
      subst z1; subst z2
      obtain ⟨c1, c2, c3⟩ := m12_ok h hm
      exact ⟨c1, c2, by rw [al_eq (h.sh hi) (h.sh hk) p1 p2, al_eq (h.sh hk) (h.sh hi) p2 p1], c3⟩
  · rintro E σ8 ⟨rfl, hx⟩
    refine t2_thr h (fun b τ9 h2 => ?_) hx
    rcases h2 with h2 | ⟨i, k, hi, hk, e1, e2, p1, p2, -⟩
    · exact Or.inl h2
    · exact Or.inr ⟨i, k, hi, hk, e1, e2, p1, p2⟩
theorem alC3_c {Q Q9 : Nat → Nat → Nat → Prop} (h : ∀ a b d, a < b → b < d → d < 12 → (Q a b d ↔ Q9 a b d)) : alC3 Q 12 = alC3 Q9 12 := by
  unfold alC3
  refine smU_c 12 (fun a ha => ?_)
  unfold alC2
  refine smU_c _ (fun b hb => ?_)
  unfold alC1
  exact cnt_c _ (fun d hd => h a (a + 1 + b) _ (by omega) (by omega) (by omega))
theorem s_alike {σ τ : St} (h : RX σ τ) (x y : Int32) : SX exHas (fun r σ9 => ∃ i, i < 8 ∧ x = nI i ∧ okP σ i ∧ ∃ k, k < 8 ∧ y = nI k ∧ okP σ k ∧ σ9 = σ ∧ r = nI (alC3 (alQ σ (tS σ i) (tS σ k)) 12)) (fun E σ9 => σ9 = σ ∧ t2X σ x y E) (fun r σ9 => np9 τ x y σ9 ∨ (∃ i k, i < 8 ∧ k < 8 ∧ x = nI i ∧ y = nI k ∧ mPl τ i ∧ mPl τ k ∧ m12 τ σ9 ∧ r = nI (alC3 (malQ τ i k) 12))) σ τ := by
  constructor
  · rintro r σ8 ⟨i, hi, rfl, ho, k, hk, rfl, ho2, rfl, rfl⟩
    refine ⟨mAg.rf, ?_⟩
    rintro b τ9 (h2 | ⟨i9, k9, hi9, hk9, e1, e2, p1, p2, hm, rfl⟩)
    · exact absurd h2 (np9_no h hi hk ho ho2)
    · have z1 := (nI8 hi hi9).mp e1
      have z2 := (nI8 hk hk9).mp e2
      subst z1; subst z2
      obtain ⟨c1, c2, c3⟩ := m12_ok h hm
      have f1 := pl_SF (h.sh hi) p1
      have f2 := pl_SF (h.sh hk) p2
      refine ⟨c1, c2, ?_, c3⟩
      rw [alC3_c (Q := malQ τ i k) (Q9 := alQ σ8 (tS σ8 i) (tS σ8 k)) (fun a b d hab hbd hd => ?_)]
      unfold malQ alQ
      rw [sb_not, sb_and, sh_mKs (h.sh hi) f1, sh_mKs (h.sh hk) f2, sh_aK (h.sh hi) f1, sh_aK (h.sh hk) f2]
      refine and_congr_right (fun hs => ?_)
      have hs3 := (sb3 (show a < 12 by omega) (show b < 12 by omega) hd).mp hs
      simp only [In_and] at hs3
      rw [msO_i (h.sh hi) p1 (by omega) (by omega) hd (by omega) (by omega) (by omega) ⟨hs3.1.1, hs3.2.1.1, hs3.2.2.1⟩, msO_i (h.sh hk) p2 (by omega) (by omega) hd (by omega) (by omega) (by omega) ⟨hs3.1.2, hs3.2.1.2, hs3.2.2.2⟩]
  · rintro E σ8 ⟨rfl, hx⟩
    refine t2_thr h (fun b τ9 h2 => ?_) hx
    rcases h2 with h2 | ⟨i, k, hi, hk, e1, e2, p1, p2, -⟩
    · exact Or.inl h2
    · exact Or.inr ⟨i, k, hi, hk, e1, e2, p1, p2⟩
theorem s_shown {σ τ : St} (h : RX σ τ) (z : Nat) (TA TB TD9 : Nat → Nat) (hTr : ∀ t, t < z → TA t < 12 ∧ TB t < 12 ∧ TD9 t < 12 ∧ ¬ (TA t = TB t ∨ TA t = TD9 t ∨ TB t = TD9 t) ∧ iA σ 44 t = bitI (TA t) ||| bitI (TB t) ∧ iA σ 45 t = bitI (TD9 t)) (x : Int32) : SX exHas (fun r σ9 => ∃ i, i < 8 ∧ x = nI i ∧ okP σ i ∧ σ9 = σ ∧ r = nI (cntU (fun t => shP σ (tS σ i) (nn σ (tS σ i)) (iA σ 44 t) (iA σ 45 t)) z)) (fun E σ9 => σ9 = σ ∧ p1X σ x E) (fun r σ9 => mp1 τ x σ9 ∨ (∃ i, i < 8 ∧ x = nI i ∧ mPl τ i ∧ m12 τ σ9 ∧ r = nI (cntU (fun t => msP τ i (TA t) (TB t) (TD9 t)) z))) σ τ := by
  constructor
  · rintro r σ8 ⟨i, hi, rfl, ho, rfl, rfl⟩
    refine ⟨mAg.rf, ?_⟩
    rintro b τ9 (h2 | ⟨k, hk, e, hpl, hm, rfl⟩)
    · exact absurd h2 (mp1_no h hi ho)
    · have := (nI8 hi hk).mp e
      subst this
      obtain ⟨c1, c2, c3⟩ := m12_ok h hm
      refine ⟨c1, c2, ?_, c3⟩
      have hf := pl_SF (h.sh hi) hpl
      rw [cnt_c z (fun t ht => ?_)]
      obtain ⟨ha, hb, hd, hne, q1, q2⟩ := hTr t ht
      rw [msP_i (h.sh hi) hpl ha hb hd, q1, q2]
      show _ ↔ aK σ8 (tS σ8 i) &&& al3 (TA t) (TB t) (TD9 t) = al3 (TA t) (TB t) (TD9 t) ∧ ∃ v, v < nn σ8 (tS σ8 i) ∧ tC σ8 (tS σ8 i) v &&& al3 (TA t) (TB t) (TD9 t) = bitI (TA t) ||| bitI (TB t)
      rw [sh_aK (h.sh hi) hf, sb_and, sb3 ha hb hd]
      refine and_congr_right (fun _ => ?_)
      have hc3 : ∀ w, w &&& al3 (TA t) (TB t) (TD9 t) = bitI (TA t) ||| bitI (TB t) ↔ In (TA t) w ∧ In (TB t) w ∧ ¬ In (TD9 t) w := fun w => cut3 ha hb hd (fun z => hne (Or.inr (Or.inl z))) (fun z => hne (Or.inr (Or.inr z)))
      constructor
      · rintro ⟨w, hw, q3⟩
        obtain ⟨v, hv, rfl⟩ := (sh_mem (h.sh hi) w).mp hw
        exact ⟨v, hv, (hc3 _).mpr q3⟩
      · rintro ⟨v, hv, q3⟩
        exact ⟨_, (sh_mem (h.sh hi) _).mpr ⟨v, hv, rfl⟩, (hc3 _).mp q3⟩
  · rintro E σ8 ⟨rfl, hx⟩
    refine p1_thr h (fun b τ9 h2 => ?_) hx
    rcases h2 with h2 | ⟨k, hk, e, hpl, -⟩
    · exact Or.inl h2
    · exact Or.inr ⟨k, hk, e, hpl⟩

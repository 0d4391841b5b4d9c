/-! Families of both sides: cut, perfect, clock -/
theorem famUp_sp {M : Int32 → Prop} (hF : Few M) {q : Nat → Int32} {F : Fam} (h0 : FI M F) : ∀ k, (∀ v, v < k → Ks (q v) ∧ (¬ q v = 0 → M (q v))) → FI M (famUp q F.1 F.2 k) ∧ ∀ y, Mem (famUp q F.1 F.2 k).2 (famUp q F.1 F.2 k).1 y ↔ Mem F.2 F.1 y ∨ ∃ v, v < k ∧ y = q v ∧ ¬ y = 0
  | 0, _ => ⟨h0, fun y => ⟨Or.inl, fun z => z.elim id (fun ⟨v, h, _⟩ => absurd h (by omega))⟩⟩
  | k + 1, h => by
    obtain ⟨a, b⟩ := famUp_sp hF (q := q) h0 k (fun v hv => h v (by omega))
    obtain ⟨a2, b2⟩ := FI_add hF a (h k (by omega)).1 (h k (by omega)).2
    refine ⟨a2, fun y => ?_⟩
    show Mem (addF (famUp q F.1 F.2 k) (q k)).2 (addF (famUp q F.1 F.2 k) (q k)).1 y ↔ _
    rw [b2 y, b y]
    constructor
    · rintro ((z | ⟨v, hv, e⟩) | ⟨e, hn⟩)
      · exact Or.inl z
      · exact Or.inr ⟨v, by omega, e⟩
      · exact Or.inr ⟨k, by omega, e, by rw [e]; exact hn⟩
    · rintro (z | ⟨v, hv, e, hn⟩)
      · exact Or.inl (Or.inl z)
      · by_cases q2 : v = k
        · subst q2; exact Or.inr ⟨e, by rw [← e]; exact hn⟩
        · exact Or.inl (Or.inr ⟨v, by omega, e, hn⟩)
theorem maUp_sp {q : Nat → Int32} {F : Fam} (h0 : UL F.2 F.1) : ∀ k, (∀ v, v < k → Ks (q v)) → UL (maUp q F k).2 (maUp q F k).1 ∧ ∀ y, Mem (maUp q F k).2 (maUp q F k).1 y ↔ Mem F.2 F.1 y ∨ ∃ v, v < k ∧ y = q v ∧ ¬ y = 0
  | 0, _ => ⟨h0, fun y => ⟨Or.inl, fun z => z.elim id (fun ⟨v, h, _⟩ => absurd h (by omega))⟩⟩
  | k + 1, h => by
    obtain ⟨a, b⟩ := maUp_sp (q := q) h0 k (fun v hv => h v (by omega))
    refine ⟨UL_maA a (h k (by omega)), fun y => ?_⟩
    show Mem (maA (maUp q F k) (q k)).2 (maA (maUp q F k) (q k)).1 y ↔ _
    rw [mem_maA, b y]
    constructor
    · rintro ((z | ⟨v, hv, e⟩) | ⟨e, hn⟩)
      · exact Or.inl z
      · exact Or.inr ⟨v, by omega, e⟩
      · exact Or.inr ⟨k, by omega, e, by rw [e]; exact hn⟩
    · rintro (z | ⟨v, hv, e, hn⟩)
      · exact Or.inl (Or.inl z)
      · by_cases q2 : v = k
        · subst q2; exact Or.inr ⟨e, by rw [← e]; exact hn⟩
        · exact Or.inl (Or.inr ⟨v, by omega, e, hn⟩)
theorem mem_0 {f : Nat → Int32} {y : Int32} : ¬ Mem f 0 y := fun ⟨v, hv, _⟩ => absurd hv (by omega)
theorem Ks_and {x y : Int32} (h : Ks x) : Ks (x &&& y) := fun k hk => h k (In_and.mp hk).1
theorem Ks_and2 {x y : Int32} (h : Ks y) : Ks (x &&& y) := fun k hk => h k (In_and.mp hk).2
/-- the leaves of a family's tree -/
theorem gm_lv {M : Int32 → Prop} {r : Int32} {g : Nat → Int32} {n : Nat} (hG : GM M r) (hM : MemIs g n M) (hs : SL g n) : nLv n (kU g) = pcn r := by
  have hle := gm_le23 hG hM hs
  have hT := gm_TV hG hM hs (by omega)
  have hroot := gm_root hG hM hs
  have hW : PW n (uF (n, g)) := ⟨fun v h0 hv => (hT.2.1 v h0 hv).1, rfl⟩
  have hp : Plain n (kU g) := by
    intro a b ha hb hna hab
    have key : ∀ v, v < n → ¬ kU g v = -1 → ∃ q, q < 12 ∧ g v = bitI q ∧ kU g v = nI q := fun v hv hn => by
      rcases one_cases (hs.1 v hv).1 (hs.1 v hv).2 with ⟨q, hq, e1, e2⟩ | ⟨e2, _⟩
      · exact ⟨q, hq, e1, e2⟩
      · exact absurd e2 hn
    obtain ⟨q, hq, e1, e2⟩ := key a ha hna
    obtain ⟨q9, hq9, e3, e4⟩ := key b hb (by rw [← hab]; exact hna)
    have : q = q9 := nI_inj12 hq hq9 (by rw [← e2, ← e4, hab])
    exact hs.2.2 a b ha hb (by rw [e1, e3, this])
  have h1 := (plain_iff hT hW).mpr hp
  rw [gm_cB hG hM hs (by omega) 0 hroot.1, hroot.2] at h1
  exact h1
/-- a call that grows a family's tree -/
theorem RX_fam {σ τ σ1 τ1 : St} {F F9 : Fam} {k : Nat} (h : RX σ τ) (h1 : R7 σ1 τ1) (hk : k < 8) (ht : rTre (sfS σ1 F k) (puS τ1 F9 k)) : RX (sfS σ1 F k) (puS τ1 F9 k) := by
  refine RX_of7 (R7_c (σ := σ1) (fun a q1 q2 q3 q4 => ⟨?_, ?_⟩) h1) ht
  · show iA (growS σ1 F (tS σ1 8)) a = _
    exact (iA_n (by omega)).trans (iA_N.trans (iA_N.trans ((iA_n (by omega)).trans ((iA_n (by omega)).trans ((iA_n (by omega)).trans ((iA_n (by omega)).trans (iA_N.trans (iA_n (by omega)))))))))
  · show nF (growS σ1 F (tS σ1 8)) a = _
    exact (nF_fn (by omega)).trans ((nF_fn (by omega)).trans (nF_fn (by omega)))
theorem puS_c {τ τ1 : St} {F : Fam} {k : Nat} (h : cAg τ τ1) : cAg τ (puS τ1 F k) := ((((h.I (by omega)).N (by omega)).I (by omega)).I (by omega)).I (by omega)
theorem RX_1 {σ τ : St} (h : RX σ τ) : R7 σ τ := RX_7 h
/-! cut -/
abbrev exCut : List (String × Nat) := [(xIOB, 1), (xISE, 2), (xIAE, 3)]
abbrev cutM (σ : St) (j : Nat) (y : Int32) : Int32 → Prop := fun x => ∃ z, CMs σ j z ∧ x = z &&& y ∧ ¬ x = 0
theorem cut_sp {σ τ : St} (h : RX σ τ) {i : Nat} (hi : i < 8) (hp : mPl τ i) {y : Int32} (hy : ¬ cR σ (tS σ i) &&& y = 0) : GM (cutM σ (tS σ i) y) (cR σ (tS σ i) &&& y) ∧ (MemIs (cutF σ (tS σ i) y (nn σ (tS σ i))).2 (cutF σ (tS σ i) y (nn σ (tS σ i))).1 (cutM σ (tS σ i) y) ∧ SL (cutF σ (tS σ i) y (nn σ (tS σ i))).2 (cutF σ (tS σ i) y (nn σ (tS σ i))).1) ∧ MemIs (mcuF τ i y (mN τ i)).2 (mcuF τ i y (mN τ i)).1 (cutM σ (tS σ i) y) ∧ UL (mcuF τ i y (mN τ i)).2 (mcuF τ i y (mN τ i)).1 := by
  have hs := h.sh hi
  have hf := pl_SF hs hp
  have hg := pl_gm hs hp
  have hgc := GM_cut hg hy
  have hz : ∀ z, CMs σ (tS σ i) z → z &&& (y &&& mKs τ i) = z &&& y := fun z hz => by
    rw [sh_mKs hs hf]
    refine In_ext (fun k _ => ?_)
    rw [In_and, In_and, In_and]
    exact ⟨fun q => ⟨q.1, q.2.1⟩, fun q => ⟨q.1, q.2, (hg.2.2.1 z hz).1 k q.1⟩⟩
  have hm9 := sh_mem9 hs hf
  have hm := sh_mem hs
  obtain ⟨u1, u2⟩ := maUp_sp (q := fun v => mcl τ i v &&& (y &&& mKs τ i)) (F := (0, iA τ 13)) (UL_0 _) (mN τ i) (fun v hv => Ks_and (GM_K hg ((hm9 _).mpr ⟨v, hv, rfl⟩)))
  have m9 : MemIs (mcuF τ i y (mN τ i)).2 (mcuF τ i y (mN τ i)).1 (cutM σ (tS σ i) y) := fun x => by
    rw [u2 x]
    constructor
    · rintro ⟨z, q1, q2, q3⟩
      obtain ⟨v, hv, e⟩ := (hm9 z).mp q1
      refine Or.inr ⟨v, hv, ?_, q3⟩
      rw [q2, ← hz z q1, ← e]
    · rintro (q | ⟨v, hv, e, q3⟩)
      · exact absurd q mem_0
      · have q1 := (hm9 _).mpr ⟨v, hv, rfl⟩
        exact ⟨_, q1, by rw [e, hz _ q1], q3⟩
  have hfew : Few (cutM σ (tS σ i) y) := ⟨_, _, (ul_few hgc m9 u1).1, m9⟩
  obtain ⟨v1, v2⟩ := famUp_sp hfew (q := fun v => tC σ (tS σ i) v &&& y) (F := (0, iA σ 42)) (FI_0 _) (nn σ (tS σ i)) (fun v hv => ⟨Ks_and (GM_K hg ((hm _).mpr ⟨v, hv, rfl⟩)), fun hn => ⟨_, (hm _).mpr ⟨v, hv, rfl⟩, rfl, hn⟩⟩)
  refine ⟨hgc, ⟨fun x => ?_, v1.1⟩, m9, u1⟩
  rw [v2 x]
  constructor
  · rintro ⟨z, q1, q2, q3⟩
    obtain ⟨v, hv, e⟩ := (hm z).mp q1
    exact Or.inr ⟨v, hv, by rw [q2, ← e], q3⟩
  · rintro (q | ⟨v, hv, e, q3⟩)
    · exact absurd q mem_0
    · exact ⟨_, (hm _).mpr ⟨v, hv, rfl⟩, e, q3⟩
theorem cut_pre {σ τ : St} (h : RX σ τ) (y : Int32) : (∀ i, i < 8 → okP σ i → ¬ aK σ (tS σ i) &&& y = 0 → famG (cutF σ (tS σ i) y (nn σ (tS σ i)))) ∧ ∀ i, i < 8 → mPl τ i → ¬ y &&& mKs τ i = 0 → 0 < (mcuF τ i y (mN τ i)).1 ∧ (mcuF τ i y (mN τ i)).1 ≤ 47 := by
  constructor
  · intro i hi ho hy
    have hp := (pl_eq (h.sh hi)).mp ho
    rw [sh_aK (h.sh hi) (pl_SF (h.sh hi) hp)] at hy
    obtain ⟨a, ⟨b1, b2⟩, c1, c2⟩ := cut_sp h hi hp hy
    exact (grow_fam h.tre a b1 b2 c1 c2).1
  · intro i hi hp hy
    rw [sh_mKs (h.sh hi) (pl_SF (h.sh hi) hp), Int32.and_comm] at hy
    obtain ⟨a, ⟨b1, b2⟩, c1, c2⟩ := cut_sp h hi hp hy
    have := grow_fam h.tre a b1 b2 c1 c2
    exact ⟨this.2.1, by omega⟩
theorem s_cut {σ τ : St} (h : RX σ τ) (x y u : Int32) : SX exCut (fun r σ9 => ∃ i k, i < 8 ∧ k < 8 ∧ x = nI i ∧ u = nI k ∧ okP σ i ∧ ¬ aK σ (tS σ i) &&& y = 0 ∧ σ9 = sfS σ (cutF σ (tS σ i) y (nn σ (tS σ i))) k ∧ r = tL σ9 (tS σ9 k)) (fun E σ9 => σ9 = σ ∧ cuX σ x y u E) (mcuP τ x y u) σ τ := by
  constructor
  · rintro r σ8 ⟨i, k, hi, hk, rfl, rfl, ho, hy, rfl, rfl⟩
    have hp := (pl_eq (h.sh hi)).mp ho
    have hf := pl_SF (h.sh hi) hp
    rw [sh_aK (h.sh hi) hf] at hy
    obtain ⟨a, ⟨b1, b2⟩, c1, c2⟩ := cut_sp h hi hp hy
    obtain ⟨-, -, -, -, hgr⟩ := grow_fam h.tre a b1 b2 c1 c2
    refine ⟨(hgr k hk σ τ tAg.rf rfl rfl rfl).2.2.2, ?_⟩
    rintro b τ9 (⟨hn, -⟩ | ⟨i9, k9, hi9, hk9, e1, e2, h3⟩)
    · exact absurd ⟨⟨i, hi, rfl⟩, ⟨k, hk, rfl⟩⟩ hn
    · have z1 := (nI8 hi hi9).mp e1
      have z2 := (nI8 hk hk9).mp e2
      subst z1; subst z2
      rcases h3 with ⟨hn, -⟩ | ⟨-, hn, -⟩ | ⟨-, -, ⟨g, rfl⟩, rfl⟩
      · exact absurd hp hn
      · rw [sh_mKs (h.sh hi) hf, Int32.and_comm] at hn
        exact absurd hn hy
      · have hgr2 := hgr k hk σ (sI (mT τ 0) 12 g) tAg.rf rfl rfl rfl
        refine ⟨puS_c (cAg_t.I (by omega)), mT_t (τ := τ), ?_, RX_fam h (RX_7 (RX_12 h)) hk hgr2.1⟩
        rw [hgr2.2.2.1, gm_lv a b1 b2, sh_mKs (h.sh hi) hf, Int32.and_comm]
        exact bC_pc (Ks_and (cR_Ks hf))
  · rintro E σ8 ⟨rfl, (⟨rfl, hn⟩ | ⟨rfl, ⟨k, hk, rfl⟩, i, hi, rfl, ho⟩ | ⟨rfl, ⟨k, hk, rfl⟩, i, hi, rfl, ho, hy⟩)⟩
    · refine SX_no h (c := 1) (by decide) ?_
      rintro b τ9 (⟨-, rfl⟩ | ⟨i9, k9, hi9, hk9, e1, e2, -⟩)
      · rfl
      · exact (hn.elim (fun z => z ⟨i9, hi9, e1⟩) (fun z => z ⟨k9, hk9, e2⟩)).elim
    · refine SX_no h (c := 2) (by decide) ?_
      rintro b τ9 (⟨hn, -⟩ | ⟨i9, k9, hi9, hk9, e1, e2, h3⟩)
      · exact absurd ⟨⟨i, hi, rfl⟩, ⟨k, hk, rfl⟩⟩ hn
      · have z1 := (nI8 hi hi9).mp e1
        subst z1
        have hnp : ¬ mPl τ i := fun z => ho ((pl_eq (h.sh hi)).mpr z)
        rcases h3 with ⟨-, rfl⟩ | ⟨hp, -⟩ | ⟨hp, -⟩
        · rfl
        · exact absurd hp hnp
        · exact absurd hp hnp
    · refine SX_no h (c := 3) (by decide) ?_
      have hp := (pl_eq (h.sh hi)).mp ho
      have hf := pl_SF (h.sh hi) hp
      rintro b τ9 (⟨hn, -⟩ | ⟨i9, k9, hi9, hk9, e1, e2, h3⟩)
      · exact absurd ⟨⟨i, hi, rfl⟩, ⟨k, hk, rfl⟩⟩ hn
      · have z1 := (nI8 hi hi9).mp e1
        subst z1
        rcases h3 with ⟨hn, -⟩ | ⟨-, -, rfl⟩ | ⟨-, hn, -⟩
        · exact absurd hp hn
        · rfl
        · rw [sh_mKs (h.sh hi) hf, Int32.and_comm] at hn
          rw [sh_aK (h.sh hi) hf] at hy
          exact absurd hy hn
/-! perfect -/
theorem agI_s {a b : Int32} (h : agI a b) : agI b a := ⟨h.2.1, h.1, by rw [Int32.and_comm]; exact h.2.2⟩
theorem agI_i {a : Int32} : ¬ agI a a := fun h => h.1 (sb_not.mpr (fun _ q => q))
theorem agI_n {a b : Int32} : ¬ agI a b ↔ Sb a b ∨ Sb b a ∨ ∀ k, In k a → ¬ In k b := by
  unfold agI
  rw [sb_not, sb_not, dj_and]
  constructor
  · intro h
    by_cases h1 : Sb a b
    · exact Or.inl h1
    · by_cases h2 : Sb b a
      · exact Or.inr (Or.inl h2)
      · exact Or.inr (Or.inr (Classical.byContradiction (fun h3 => h ⟨h1, h2, h3⟩)))
  · rintro (h | h | h) ⟨q1, q2, q3⟩
    · exact q1 h
    · exact q2 h
    · exact q3 h
theorem okR_Ks {x : Int32} (h : okR 1 4095 x) : Ks x ∧ ¬ x = 0 := by
  have h0 : ¬ x < 0 := fun q => h.1 (Int32.lt_trans q (by decide))
  obtain ⟨m, hm, rfl⟩ := okI_le (n := 4095) (by decide) h0 (Int32.not_lt.mp h.2)
  exact ⟨n_Ks (by omega), fun e => h.1 (by rw [e]; decide)⟩
abbrev pfM (σ : St) (z : Nat) (x : Int32) : Int32 → Prop := fun y => y = x ∨ (∃ k, In k x ∧ y = bitI k) ∨ ∃ t, t < z ∧ y = iA σ 47 t &&& x ∧ ¬ y = 0
theorem and_bit {x y : Int32} {k : Nat} (hk : k < 12) : (y = x &&& bitI k ∧ ¬ y = 0) ↔ (In k x ∧ y = bitI k) := by
  constructor
  · rintro ⟨rfl, hn⟩
    obtain ⟨j, _, hj⟩ := In_ne hn
    rw [In_and, In_bit hk] at hj
    obtain ⟨hj1, rfl⟩ := hj
    refine ⟨hj1, In_ext (fun i _ => ?_)⟩
    rw [In_and, In_bit hk]
    exact ⟨fun q => q.2, fun q => ⟨by rw [q]; exact hj1, q⟩⟩
  · rintro ⟨hi, rfl⟩
    refine ⟨In_ext (fun i _ => ?_), fun e => ?_⟩
    · rw [In_and, In_bit hk]
      exact ⟨fun q => ⟨by rw [q]; exact hi, q⟩, fun q => q.2⟩
    · have : In k (bitI k) := (In_bit hk).mpr rfl
      rw [e] at this; exact In_0 this
theorem pf_sp {σ τ : St} (h : RX σ τ) {z : Nat} (hz : nF σ 46 1 = nI z) (h16 : z ≤ 16) {x : Int32} (hx : okR 1 4095 x) (hq : ∀ i k, i < z → k < z → ¬ qrl (iA σ 47) x i k) : GM (pfM σ z x) x ∧ (MemIs (pfF σ x z).2 (pfF σ x z).1 (pfM σ z x) ∧ SL (pfF σ x z).2 (pfF σ x z).1) ∧ MemIs (mpfF τ x z).2 (mpfF τ x z).1 (pfM σ z x) ∧ UL (mpfF τ x z).2 (mpfF τ x z).1 := by
  obtain ⟨hK, hn⟩ := okR_Ks hx
  obtain ⟨z9, hz9, f1, f2, f3⟩ := h.sig
  have : z9 = z := (nI_eq (by omega) (by omega)).mp (by rw [← f1, hz])
  subst this
  have hg : GM (pfM σ z9 x) x := by
    refine GM_perf hK hn (A := fun y => ∃ t, t < z9 ∧ y = iA σ 47 t &&& x ∧ ¬ y = 0) ?_ ?_
    · rintro y ⟨t, ht, rfl, hy⟩
      exact ⟨fun k hk => (In_and.mp hk).2, hy⟩
    · rintro y y9 ⟨t, ht, rfl, hy⟩ ⟨t9, ht9, rfl, hy9⟩
      exact agI_n.mp (hq t t9 ht ht9)
  have hbit : ∀ y, (∃ v, v < 12 ∧ y = x &&& bitI v ∧ ¬ y = 0) ↔ ∃ k, In k x ∧ y = bitI k := fun y => by
    constructor
    · rintro ⟨v, hv, e⟩; exact ⟨v, (and_bit hv).mp e⟩
    · rintro ⟨k, hk, e⟩; exact ⟨k, hK k hk, (and_bit (hK k hk)).mpr ⟨hk, e⟩⟩
  have u0 : UL (maA (0, iA τ 13) x).2 (maA (0, iA τ 13) x).1 := UL_maA (F := (0, iA τ 13)) (UL_0 _) hK
  obtain ⟨u1, u2⟩ := maUp_sp (q := fun k => x &&& bitI k) (F := maA (0, iA τ 13) x) u0 12 (fun v _ => Ks_and hK)
  obtain ⟨u3, u4⟩ := maUp_sp (q := fun k => iA τ 8 k &&& x) (F := maK (0, iA τ 13) x) u1 z9 (fun v _ => Ks_and2 hK)
  have m9 : MemIs (mpfF τ x z9).2 (mpfF τ x z9).1 (pfM σ z9 x) := fun y => by
    rw [u4 y, u2 y, mem_maA, hbit y]
    constructor
    · rintro (e | e | ⟨t, ht, e, hy⟩)
      · exact Or.inl (Or.inl (Or.inr ⟨e, hn⟩))
      · exact Or.inl (Or.inr e)
      · exact Or.inr ⟨t, ht, by rw [e, f3 t ht], hy⟩
    · rintro (((q | ⟨e, _⟩) | e) | ⟨t, ht, e, hy⟩)
      · exact absurd q mem_0
      · exact Or.inl e
      · exact Or.inr (Or.inl e)
      · exact Or.inr (Or.inr ⟨t, ht, by rw [e, f3 t ht], hy⟩)
  have hfew : Few (pfM σ z9 x) := ⟨_, _, (ul_few hg m9 u3).1, m9⟩
  obtain ⟨v1, v2⟩ := famUp_sp hfew (q := fun k => x &&& bitI k) (F := (0, iA σ 42)) (FI_0 _) 12 (fun v hv => ⟨Ks_and hK, fun q => Or.inr (Or.inl ((hbit _).mp ⟨v, hv, rfl, q⟩))⟩)
  obtain ⟨v3, v4⟩ := FI_add hfew v1 hK (fun _ => Or.inl rfl)
  obtain ⟨v5, v6⟩ := famUp_sp hfew (q := fun k => iA σ 47 k &&& x) (F := pf2 σ x) v3 z9 (fun v hv => ⟨Ks_and2 hK, fun q => Or.inr (Or.inr ⟨v, hv, rfl, q⟩)⟩)
  replace v4 : ∀ y, Mem (pf2 σ x).2 (pf2 σ x).1 y ↔ Mem (pf1 σ x).2 (pf1 σ x).1 y ∨ y = x ∧ ¬ x = 0 := v4
  replace v2 : ∀ y, Mem (pf1 σ x).2 (pf1 σ x).1 y ↔ Mem (iA σ 42) 0 y ∨ ∃ v, v < 12 ∧ y = x &&& bitI v ∧ ¬ y = 0 := v2
  refine ⟨hg, ⟨fun y => ?_, v5.1⟩, m9, u3⟩
  rw [v6 y, v4 y, v2 y, hbit y]
  constructor
  · rintro (e | e | ⟨t, ht, e, hy⟩)
    · exact Or.inl (Or.inr ⟨e, hn⟩)
    · exact Or.inl (Or.inl (Or.inr e))
    · exact Or.inr ⟨t, ht, e, hy⟩
  · rintro (((q | e) | ⟨e, _⟩) | ⟨t, ht, e, hy⟩)
    · exact absurd q mem_0
    · exact Or.inr (Or.inl e)
    · exact Or.inl e
    · exact Or.inr (Or.inr ⟨t, ht, e, hy⟩)

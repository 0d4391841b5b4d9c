/-! nearest: start, all joinings, both trees -/
/-- the class's state behind t joinings -/
noncomputable def njQ (N : Nat) (T0 : NT) : Nat → NT
  | 0 => T0
  | t + 1 => njS N (N - t) (njQ N T0 t)
theorem njD_Q {N : Nat} {T0 : NT} : ∀ k t, t + k + 2 = N → njD N k (njQ N T0 t) = njQ N T0 (t + k)
  | 0, _, _ => rfl
  | k + 1, t, h => by
    show njD N k (njS N (k + 3) (njQ N T0 t)) = _
    have e : k + 3 = N - t := by omega
    rw [e]
    have := njD_Q (N := N) (T0 := T0) k (t + 1) (by omega)
    rw [show t + (k + 1) = t + 1 + k by omega, ← this]
    rfl
/-- the families -/
def NFm (N : Nat) (c : Nat → Int32) (F F9 : Fam) (t : Nat) : Prop := SL F.2 F.1 ∧ UL F9.2 F9.1 ∧ F9.1 ≤ N + t ∧ (∀ x, Mem F.2 F.1 x ↔ Mem F9.2 F9.1 x) ∧ (∀ x, Mem F9.2 F9.1 x → ∃ p, p < N ∧ Sb x (c p)) ∧ (∀ x y, Mem F9.2 F9.1 x → Mem F9.2 F9.1 y → Sb x y ∨ Sb y x ∨ ∀ k, In k x → ¬ In k y) ∧ ∀ k, k < N → Mem F9.2 F9.1 (bitI k)
theorem nf_47 {N t : Nat} {c : Nat → Int32} {F F9 : Fam} (h : NFm N c F F9 t) (ht : N + t ≤ 23) : F.1 < 47 := by
  have := few_le (M := Mem F9.2 F9.1) ⟨F9.2, F9.1, Nat.le_trans h.2.2.1 ht, fun x => Iff.rfl⟩ h.1.2.2 (fun x q => (h.2.2.2.1 x).mp q)
  omega
def NR (N t : Nat) (T : NT) (s : NJ) (φ : Nat → Nat) : Prop := NL N (N + t) T.2.1 T.2.2.1 s.1 s.2.1 s.2.2.1 φ ∧ (∀ p q, p < N → q < N → ¬ p = q → ¬ T.2.1 p = 0 → ¬ T.2.1 q = 0 → Dv (12 - t) (T.2.2.1 (p * 12 + q))) ∧ N ≤ cntU (fun p => ¬ T.2.1 p = 0) N + t ∧ NFm N T.2.1 T.1 s.2.2.2 t ∧ T.2.2.2.2.1 < 12 ∧ T.2.2.2.2.2 < 12
theorem nz_in {x : Int32} (h : Ks x) (h0 : ¬ x = 0) : ∃ k, In k x := by
  obtain ⟨k, _, _, hk, _⟩ := ntz_ls h h0
  exact ⟨k, hk⟩
/-- a joining -/
theorem nr_step {N t : Nat} {T : NT} {s : NJ} {φ : Nat → Nat} (h : NR N t T s φ) (hN : N ≤ 12) (ht : t + 2 < N) : (∃ x y, x < N + t ∧ y < N + t ∧ ¬ x = y ∧ (nqK N s t).1 = nI x ∧ (nqK N s t).2.1 = nI y) ∧ ∃ φ9, NR N (t + 1) (njS N (N - t) T) (nqN (nqK N s t).1.toNatClampNeg (nqK N s t).2.1.toNatClampNeg (N + t) s) φ9 := by
  obtain ⟨hL, hD, hC, hF, _, _⟩ := h
  have hz : ∀ i, i < N → njZ N T i = sgS T.2.1 T.2.2.1 i N := fun i hi => if_pos hi
  obtain ⟨p, q, hpq, hq, cp, cq, ec, e1, e2⟩ := nl_pick hL hN (show N + t < 24 by omega) hz (L := N - t) (a0 := T.2.2.2.2.1) (b0 := T.2.2.2.2.2) (by omega)
  have e3 : (njC N (N - t) T).2.2.1 = p := congrArg Prod.fst ec
  have e4 : (njC N (N - t) T).2.2.2 = q := congrArg Prod.snd ec
  have hp1 := hL.1 p (by omega) cp
  have hq1 := hL.1 q hq cq
  have hne : ¬ φ p = φ q := fun e => by have := nl_inj hL (by omega) hq cp cq e; omega
  refine ⟨⟨φ p, φ q, hp1.1, hq1.1, hne, e1, e2⟩, ?_⟩
  have e1 : (nqK N s t).1 = nI (φ p) := e1
  have e2 : (nqK N s t).2.1 = nI (φ q) := e2
  rw [e1, e2, nI_clamp (by omega), nI_clamp (by omega)]
  have ejc : njc N (N - t) T = upd (upd T.2.1 p (T.2.1 p ||| T.2.1 q)) q (nI 0) := by unfold njc; rw [e3, e4]
  have eS : njS N (N - t) T = ((famZ T.1.1 T.1.2 (upd (upd T.2.1 p (T.2.1 p ||| T.2.1 q)) q (nI 0) p), famF T.1.1 T.1.2 (upd (upd T.2.1 p (T.2.1 p ||| T.2.1 q)) q (nI 0) p)), upd (upd T.2.1 p (T.2.1 p ||| T.2.1 q)) q (nI 0), mgU T.2.1 p q (T.2.2.1 (p * 12 + q)) T.2.2.1 N, njZ N T, p, q) := by unfold njS; rw [ejc, e3, e4]
  rw [eS]
  have hcp : upd (upd T.2.1 p (T.2.1 p ||| T.2.1 q)) q (nI 0) p = T.2.1 p ||| T.2.1 q := by rw [pk_un (by omega), pk_us]
  rw [hcp]
  obtain ⟨j1, j2⟩ := nl_join hL hN (show N + t < 24 by omega) (j := 12 - (t + 1)) (by omega) (fun u v hu hv huv cu cv => by
    have := hD u v hu hv huv cu cv
    rw [show 12 - (t + 1) + 1 = 12 - t by omega]
    exact this) hpq hq cp cq
  have hw : Ks (T.2.1 p ||| T.2.1 q) := fun k hk => by
    rcases In_or.mp hk with w | w
    · have := (hp1.2.2.2.2 k w).2; omega
    · have := (hq1.2.2.2.2 k w).2; omega
  have hw0 : ¬ T.2.1 p ||| T.2.1 q = 0 := fun e => by
    have : In p (T.2.1 p ||| T.2.1 q) := In_or.mpr (Or.inl hp1.2.2.2.1)
    rw [e] at this; exact In_0 this
  have hck : ∀ k, ¬ k = p → ¬ k = q → upd (upd T.2.1 p (T.2.1 p ||| T.2.1 q)) q (nI 0) k = T.2.1 k := fun k h1 h2 => by rw [pk_un h2, pk_un h1]
  have m1 := fun y => mem_addF (F := T.1) (x := T.2.1 p ||| T.2.1 q) (y := y) (nf_47 hF (by omega))
  have m2 := fun y => mem_maA (F := s.2.2.2) (x := s.1 (φ p) ||| s.1 (φ q)) (y := y)
  have ea : s.1 (φ p) ||| s.1 (φ q) = T.2.1 p ||| T.2.1 q := by rw [hp1.2.2.1, hq1.2.2.1]
  have mem9 : ∀ y, Mem (maA s.2.2.2 (s.1 (φ p) ||| s.1 (φ q))).2 (maA s.2.2.2 (s.1 (φ p) ||| s.1 (φ q))).1 y ↔ Mem s.2.2.2.2 s.2.2.2.1 y ∨ y = T.2.1 p ||| T.2.1 q := fun y => by
    rw [m2 y, ea]
    exact ⟨fun z => z.elim Or.inl (fun w => Or.inr w.1), fun z => z.elim Or.inl (fun w => Or.inr ⟨w, hw0⟩)⟩
  have side : ∀ x, Mem s.2.2.2.2 s.2.2.2.1 x → Sb x (T.2.1 p ||| T.2.1 q) ∨ ∀ k, In k x → ¬ In k (T.2.1 p ||| T.2.1 q) := fun x hx => by
    obtain ⟨u, hu, hs⟩ := hF.2.2.2.2.1 x hx
    by_cases e5 : u = p
    · exact Or.inl (fun k hk => In_or.mpr (Or.inl (by rw [← e5]; exact hs k hk)))
    · by_cases e6 : u = q
      · exact Or.inl (fun k hk => In_or.mpr (Or.inr (by rw [← e6]; exact hs k hk)))
      · refine Or.inr (fun k hk w => ?_)
        rcases In_or.mp w with w | w
        · exact e5 (hL.2.2.1 u p k hu (by omega) (hs k hk) w)
        · exact e6 (hL.2.2.1 u q k hu hq (hs k hk) w)
  refine ⟨_, j1, j2, ?_, ⟨?_, ?_, ?_, ?_, ?_, ?_, ?_⟩, show p < 12 by omega, show q < 12 by omega⟩
  · have c1 := cnt_rm (q := fun k => ¬ T.2.1 k = 0) (b := q) N
    rw [if_pos hq] at c1
    have c2 : cntU (fun k => ¬ T.2.1 k = 0 ∧ ¬ k = q) N ≤ cntU (fun k => ¬ upd (upd T.2.1 p (T.2.1 p ||| T.2.1 q)) q (nI 0) k = 0) N := cnt_mono N (fun k hk w => by
      by_cases e5 : k = p
      · rw [e5, hcp]; exact hw0
      · rw [hck k e5 w.2]; exact w.1)
    show N ≤ cntU (fun k => ¬ upd (upd T.2.1 p (T.2.1 p ||| T.2.1 q)) q (nI 0) k = 0) N + (t + 1)
    omega
  · exact SL_addF (F := T.1) hF.1 hw
  · exact UL_maA hF.2.1 (by rw [ea]; exact hw)
  · have := maA_le (F := s.2.2.2) (x := s.1 (φ p) ||| s.1 (φ q))
    have h5 := hF.2.2.1
    show (maA s.2.2.2 (s.1 (φ p) ||| s.1 (φ q))).1 ≤ N + (t + 1)
    omega
  · intro y
    refine Iff.trans (m1 y) (Iff.trans ?_ (mem9 y).symm)
    rw [hF.2.2.2.1 y]
    exact ⟨fun z => z.elim Or.inl (fun w => Or.inr w.1), fun z => z.elim Or.inl (fun w => Or.inr ⟨w, hw0⟩)⟩
  · intro x hx
    rcases (mem9 x).mp hx with w | w
    · obtain ⟨u, hu, hs⟩ := hF.2.2.2.2.1 x w
      by_cases e5 : u = p
      · exact ⟨p, by omega, fun k hk => by show In k (upd (upd T.2.1 p (T.2.1 p ||| T.2.1 q)) q (nI 0) p); rw [hcp]; exact In_or.mpr (Or.inl (by rw [← e5]; exact hs k hk))⟩
      · by_cases e6 : u = q
        · exact ⟨p, by omega, fun k hk => by show In k (upd (upd T.2.1 p (T.2.1 p ||| T.2.1 q)) q (nI 0) p); rw [hcp]; exact In_or.mpr (Or.inr (by rw [← e6]; exact hs k hk))⟩
        · exact ⟨u, hu, fun k hk => by show In k (upd (upd T.2.1 p (T.2.1 p ||| T.2.1 q)) q (nI 0) u); rw [hck u e5 e6]; exact hs k hk⟩
    · exact ⟨p, by omega, fun k hk => by show In k (upd (upd T.2.1 p (T.2.1 p ||| T.2.1 q)) q (nI 0) p); rw [hcp, ← w]; exact hk⟩
  · intro x y hx hy
    rcases (mem9 x).mp hx with w | w
    · rcases (mem9 y).mp hy with v | v
      · exact hF.2.2.2.2.2.1 x y w v
      · rw [v]
        rcases side x w with z | z
        · exact Or.inl z
        · exact Or.inr (Or.inr z)
    · rcases (mem9 y).mp hy with v | v
      · rw [w]
        rcases side y v with z | z
        · exact Or.inr (Or.inl z)
        · exact Or.inr (Or.inr (fun k h1 h2 => z k h2 h1))
      · rw [w, v]; exact Or.inl (fun _ z => z)
  · intro k hk
    exact (mem9 _).mpr (Or.inl (hF.2.2.2.2.2.2 k hk))
/-! the start -/
theorem sjC_sp {d : Nat → Nat → Int32} {i : Nat} {y : Nat → Int64} : ∀ n, n ≤ 12 → (∀ k, k < n → sjC d i y n (i * 12 + k) = (d i k).toInt64 <<< ((nI 12).toInt64 &&& 63)) ∧ ∀ r k, ¬ r = i → k < 12 → sjC d i y n (r * 12 + k) = y (r * 12 + k)
  | 0, _ => ⟨fun k h => absurd h (by omega), fun _ _ _ _ => rfl⟩
  | n + 1, hn => by
    obtain ⟨h1, h2⟩ := sjC_sp (d := d) (i := i) (y := y) n (by omega)
    show (∀ k, k < n + 1 → vp_updL (sjC d i y n) (i * 12 + n) ((d i n).toInt64 <<< ((nI 12).toInt64 &&& 63)) (i * 12 + k) = _) ∧ ∀ r k, ¬ r = i → k < 12 → vp_updL (sjC d i y n) (i * 12 + n) ((d i n).toInt64 <<< ((nI 12).toInt64 &&& 63)) (r * 12 + k) = y (r * 12 + k)
    constructor
    · intro k hk
      by_cases e : k = n
      · subst e; exact pk_uLs
      · rw [pk_uLn (by omega)]; exact h1 k (by omega)
    · intro r k hr hk
      rw [pk_uLn (by omega)]
      exact h2 r k hr hk
theorem sjA_sp {d : Nat → Nat → Int32} {N : Nat} (hN : N ≤ 12) {y : Nat → Int64} : ∀ n, n ≤ N → ∀ i k, i < n → k < N → sjA d N y n (i * 12 + k) = (d i k).toInt64 <<< ((nI 12).toInt64 &&& 63)
  | 0, _, _, _, h, _ => absurd h (by omega)
  | n + 1, hn, i, k, hi, hk => by
    show sjC d n (sjA d N y n) N (i * 12 + k) = _
    obtain ⟨h1, h2⟩ := sjC_sp (d := d) (i := n) (y := sjA d N y n) N hN
    by_cases e : i = n
    · subst e; exact h1 k hk
    · rw [h2 i k e (by omega)]
      exact sjA_sp hN n (by omega) i k (by omega) hk
theorem nqR_sp {τ : St} {i : Nat} {d : Nat → Int64} : ∀ n, n ≤ 12 → (∀ k, k < n → nqR τ i d n (24 * i + k) = 4096 * (mD τ i k).toInt64) ∧ ∀ r k, ¬ r = i → k < 24 → nqR τ i d n (24 * r + k) = d (24 * r + k)
  | 0, _ => ⟨fun k h => absurd h (by omega), fun _ _ _ _ => rfl⟩
  | n + 1, hn => by
    obtain ⟨h1, h2⟩ := nqR_sp (τ := τ) (i := i) (d := d) n (by omega)
    show (∀ k, k < n + 1 → vp_updL (nqR τ i d n) (24 * i + n) (4096 * (mD τ i n).toInt64) (24 * i + k) = _) ∧ ∀ r k, ¬ r = i → k < 24 → vp_updL (nqR τ i d n) (24 * i + n) (4096 * (mD τ i n).toInt64) (24 * r + k) = d (24 * r + k)
    constructor
    · intro k hk
      by_cases e : k = n
      · subst e; exact pk_uLs
      · rw [pk_uLn (by omega)]; exact h1 k (by omega)
    · intro r k hr hk
      rw [pk_uLn (by omega)]
      exact h2 r k hr hk
theorem nq0_sp {τ : St} {N : Nat} (hN : N ≤ 12) : ∀ n, n ≤ N → (∀ k, k < n → (nq0 τ N n).1 k = bitI k ∧ (nq0 τ N n).2.1 k = nqOn) ∧ (∀ i k, i < n → k < N → (nq0 τ N n).2.2.1 (24 * i + k) = 4096 * (mD τ i k).toInt64) ∧ (nq0 τ N n).2.2.2 = maUp bitI (0, iA τ 13) n
  | 0, _ => ⟨fun k h => absurd h (by omega), fun i k h => absurd h (by omega), rfl⟩
  | n + 1, hn => by
    obtain ⟨h1, h2, h3⟩ := nq0_sp (τ := τ) hN n (by omega)
    refine ⟨?_, ?_, ?_⟩
    · intro k hk
      show upd (nq0 τ N n).1 n (bitI n) k = bitI k ∧ upd (nq0 τ N n).2.1 n nqOn k = nqOn
      by_cases e : k = n
      · subst e; exact ⟨pk_us, pk_us⟩
      · rw [pk_un e, pk_un e]; exact h1 k (by omega)
    · intro i k hi hk
      show nqR τ n (nq0 τ N n).2.2.1 N (24 * i + k) = _
      obtain ⟨g1, g2⟩ := nqR_sp (τ := τ) (i := n) (d := (nq0 τ N n).2.2.1) N hN
      by_cases e : i = n
      · subst e; exact g1 k hk
      · rw [g2 i k e (by omega)]; exact h2 i k (by omega) hk
    · show maA (nq0 τ N n).2.2.2 (bitI n) = maA (maUp bitI (0, iA τ 13) n) (bitI n)
      rw [h3]
theorem bit_ne {k : Nat} (hk : k < 12) : ¬ bitI k = 0 := fun e => by
  have : In k (bitI k) := (In_bit hk).mpr rfl
  rw [e] at this; exact In_0 this
theorem nr_0 {σ τ : St} (h : RX σ τ) {N a0 b0 : Nat} (hN : N ≤ 12) (ha : a0 < 12) (hb : b0 < 12) : NR N 0 (eachF (allK N) (0, iA σ 42), fillG bitI (iA σ 55) N, sjA (dS σ) N (jA σ 56) N, jA σ 57, a0, b0) (nqT τ N 0) (fun k => k) := by
  obtain ⟨q1, q2, q3⟩ := nq0_sp (τ := τ) hN N (Nat.le_refl _)
  have hc : ∀ k, k < N → fillG bitI (iA σ 55) N k = bitI k := fun k hk => if_pos hk
  have hy : ∀ p q, p < N → q < N → sjA (dS σ) N (jA σ 56) N (p * 12 + q) = 4096 * (dS σ p q).toInt64 := fun p q hp hq => by
    rw [sjA_sp hN N (Nat.le_refl _) p q hp hq, (t4096 _).1]
  have hfew : Few (fun x => ∃ k, k < N ∧ x = bitI k) := ⟨bitI, N, by omega, fun x => ⟨fun ⟨k, hk, e⟩ => ⟨k, hk, e.symm⟩, fun ⟨k, hk, e⟩ => ⟨k, hk, e.symm⟩⟩⟩
  have hKa : Ks (allK N) := fun k hk => by have := (allK_in hN).mp hk; omega
  obtain ⟨v1, v2⟩ := famUp_sp hfew (q := fun k => allK N &&& bitI k) (F := (0, iA σ 42)) (FI_0 _) 12 (fun v hv => ⟨Ks_and hKa, fun q => by
    have := (and_bit hv).mp ⟨rfl, q⟩
    exact ⟨v, (allK_in hN).mp this.1, this.2⟩⟩)
  obtain ⟨w1, w2⟩ := maUp_sp (q := bitI) (F := (0, iA τ 13)) (UL_0 _) N (fun v hv => fun k hk => by rw [(In_bit (by omega)).mp hk]; omega)
  have hm9 : ∀ x, Mem (maUp bitI (0, iA τ 13) N).2 (maUp bitI (0, iA τ 13) N).1 x ↔ ∃ k, k < N ∧ x = bitI k := fun x => by
    rw [w2 x]
    constructor
    · rintro (z | ⟨v, hv, e, _⟩)
      · exact absurd z mem_0
      · exact ⟨v, hv, e⟩
    · rintro ⟨v, hv, e⟩
      exact Or.inr ⟨v, hv, e, by rw [e]; exact bit_ne (by omega)⟩
  have hm : ∀ x, Mem (eachF (allK N) (0, iA σ 42)).2 (eachF (allK N) (0, iA σ 42)).1 x ↔ ∃ k, k < N ∧ x = bitI k := fun x => by
    refine Iff.trans (v2 x) ?_
    constructor
    · rintro (z | ⟨v, hv, e⟩)
      · exact absurd z mem_0
      · have := (and_bit hv).mp e
        exact ⟨v, (allK_in hN).mp this.1, this.2⟩
    · rintro ⟨v, hv, e⟩
      exact Or.inr ⟨v, by omega, (and_bit (by omega)).mpr ⟨(allK_in hN).mpr hv, e⟩⟩
  refine ⟨⟨?_, ?_, ?_, ?_⟩, ?_, ?_, ⟨v1.1, ?_, ?_, ?_, ?_, ?_, ?_⟩, ha, hb⟩
  · intro p hp _
    show p < N + 0 ∧ ¬ (nq0 τ N N).2.1 p = 0 ∧ (nq0 τ N N).1 p = fillG bitI (iA σ 55) N p ∧ In p (fillG bitI (iA σ 55) N p) ∧ ∀ k, In k (fillG bitI (iA σ 55) N p) → p ≤ k ∧ k < N
    rw [hc p hp, (q1 p hp).1, (q1 p hp).2]
    refine ⟨by omega, nqOn_1, rfl, (In_bit (by omega)).mpr rfl, fun k hk => ?_⟩
    have := (In_bit (by omega)).mp hk
    omega
  · intro k hk _
    refine ⟨k, by omega, ?_, rfl⟩
    show ¬ fillG bitI (iA σ 55) N k = 0
    rw [hc k (by omega)]
    exact bit_ne (by omega)
  · intro p q k hp hq h1 h2
    replace h1 : In k (fillG bitI (iA σ 55) N p) := h1
    replace h2 : In k (fillG bitI (iA σ 55) N q) := h2
    rw [hc p hp] at h1
    rw [hc q hq] at h2
    rw [← (In_bit (by omega)).mp h1, ← (In_bit (by omega)).mp h2]
  · intro p q hp hq _ _ _
    show sjA (dS σ) N (jA σ 56) N (p * 12 + q) = (nq0 τ N N).2.2.1 (24 * p + q)
    rw [hy p q hp hq, q2 p q hp hq, mD_dS h (by omega) (by omega)]
  · intro p q hp hq _ _ _
    show Dv 12 (sjA (dS σ) N (jA σ 56) N (p * 12 + q))
    rw [hy p q hp hq]
    exact (t4096 _).2
  · have : N ≤ cntU (fun p => ¬ fillG bitI (iA σ 55) N p = 0) N := by
      have e : ∀ n, n ≤ N → cntU (fun p => ¬ fillG bitI (iA σ 55) N p = 0) n = n := by
        intro n
        induction n with
        | zero => intro _; rfl
        | succ n ih =>
          intro hn
          rw [cntU_y (by rw [hc n (by omega)]; exact bit_ne (by omega)), ih (by omega)]
      rw [e N (Nat.le_refl _)]
      exact Nat.le_refl _
    exact this
  · show UL (nq0 τ N N).2.2.2.2 (nq0 τ N N).2.2.2.1
    rw [q3]; exact w1
  · exact nqT_le 0
  · intro x
    show _ ↔ Mem (nq0 τ N N).2.2.2.2 (nq0 τ N N).2.2.2.1 x
    rw [q3]
    exact (hm x).trans (hm9 x).symm
  · intro x hx
    replace hx : Mem (nq0 τ N N).2.2.2.2 (nq0 τ N N).2.2.2.1 x := hx
    rw [q3] at hx
    obtain ⟨k, hk, e⟩ := (hm9 x).mp hx
    refine ⟨k, hk, ?_⟩
    show Sb x (fillG bitI (iA σ 55) N k)
    rw [hc k hk, e]
    exact fun _ z => z
  · intro x y hx hy
    replace hx : Mem (nq0 τ N N).2.2.2.2 (nq0 τ N N).2.2.2.1 x := hx
    replace hy : Mem (nq0 τ N N).2.2.2.2 (nq0 τ N N).2.2.2.1 y := hy
    rw [q3] at hx hy
    obtain ⟨k, hk, e⟩ := (hm9 x).mp hx
    obtain ⟨j, hj, e9⟩ := (hm9 y).mp hy
    rw [e, e9]
    by_cases z : k = j
    · rw [z]; exact Or.inl (fun _ w => w)
    · refine Or.inr (Or.inr (fun u h1 h2 => z ?_))
      rw [← (In_bit (by omega)).mp h1, ← (In_bit (by omega)).mp h2]
  · intro k hk
    show Mem (nq0 τ N N).2.2.2.2 (nq0 τ N N).2.2.2.1 (bitI k)
    rw [q3]
    exact (hm9 _).mpr ⟨k, hk, rfl⟩
theorem nr_all {σ τ : St} (h : RX σ τ) {N a0 b0 : Nat} (hN : N ≤ 12) (ha : a0 < 12) (hb : b0 < 12) : ∀ t, t + 2 ≤ N → ∃ φ, NR N t (njQ N (eachF (allK N) (0, iA σ 42), fillG bitI (iA σ 55) N, sjA (dS σ) N (jA σ 56) N, jA σ 57, a0, b0) t) (nqT τ N t) φ
  | 0, _ => ⟨_, nr_0 h hN ha hb⟩
  | t + 1, ht => by
    obtain ⟨φ, hr⟩ := nr_all h hN ha hb t (by omega)
    exact (nr_step hr hN (by omega)).2
/-- what both calls ask, and the two families -/
theorem ne_sp {σ τ : St} (h : RX σ τ) {N a0 b0 : Nat} (hN : N ≤ 12) (h2 : 2 ≤ N) (ha : a0 < 12) (hb : b0 < 12) : (∀ t, t + 2 < N → ∃ x y, x < N + t ∧ y < N + t ∧ ¬ x = y ∧ (nqK N (nqT τ N t) t).1 = nI x ∧ (nqK N (nqT τ N t) t).2.1 = nI y) ∧ ((neT σ N a0 b0).2.2.2.2.1 < 12 ∧ (neT σ N a0 b0).2.2.2.2.2 < 12) ∧ ∃ M, GM M (allK N) ∧ (MemIs (neF σ N a0 b0).2 (neF σ N a0 b0).1 M ∧ SL (neF σ N a0 b0).2 (neF σ N a0 b0).1) ∧ MemIs (nqE τ N).2 (nqE τ N).1 M ∧ UL (nqE τ N).2 (nqE τ N).1 := by
  refine ⟨fun t ht => ?_, ?_⟩
  · obtain ⟨φ, hr⟩ := nr_all h hN ha hb t (by omega)
    exact (nr_step hr hN ht).1
  · obtain ⟨φ, hr⟩ := nr_all h hN ha hb (N - 2) (by omega)
    have e : neT σ N a0 b0 = njQ N (eachF (allK N) (0, iA σ 42), fillG bitI (iA σ 55) N, sjA (dS σ) N (jA σ 56) N, jA σ 57, a0, b0) (N - 2) := by
      have := njD_Q (N := N) (T0 := (eachF (allK N) (0, iA σ 42), fillG bitI (iA σ 55) N, sjA (dS σ) N (jA σ 56) N, jA σ 57, a0, b0)) (N - 2) 0 (by omega)
      rw [Nat.zero_add] at this
      exact this
    have hr : NR N (N - 2) (neT σ N a0 b0) (nqT τ N (N - 2)) φ := by rw [e]; exact hr
    obtain ⟨hL, _, _, hF, h5, h6⟩ := hr
    refine ⟨⟨h5, h6⟩, Mem (nqE τ N).2 (nqE τ N).1, ?_⟩
    have hKa : Ks (allK N) := fun k hk => by have := (allK_in hN).mp hk; omega
    have hA0 : ¬ allK N = 0 := fun z => by
      have : In 0 (allK N) := (allK_in hN).mpr (by omega)
      rw [z] at this; exact In_0 this
    have m1 := fun y => mem_addF (F := (neT σ N a0 b0).1) (x := allK N) (y := y) (nf_47 hF (by omega))
    have m2 : ∀ y, Mem (nqE τ N).2 (nqE τ N).1 y ↔ Mem (nqT τ N (N - 2)).2.2.2.2 (nqT τ N (N - 2)).2.2.2.1 y ∨ y = allK N := fun y => by
      refine Iff.trans (mem_maA (F := (nqT τ N (N - 2)).2.2.2) (x := allK N) (y := y)) ?_
      exact ⟨fun z => z.elim Or.inl (fun w => Or.inr w.1), fun z => z.elim Or.inl (fun w => Or.inr ⟨w, hA0⟩)⟩
    have sub : ∀ x, Mem (nqT τ N (N - 2)).2.2.2.2 (nqT τ N (N - 2)).2.2.2.1 x → Sb x (allK N) := fun x hx k hk => by
      obtain ⟨p, hp, hs⟩ := hF.2.2.2.2.1 x hx
      have hk9 := hs k hk
      have hp0 : ¬ (neT σ N a0 b0).2.1 p = 0 := fun z => by rw [z] at hk9; exact In_0 hk9
      exact (allK_in hN).mpr ((hL.1 p hp hp0).2.2.2.2 k hk9).2
    refine ⟨⟨(m2 _).mpr (Or.inr rfl), hKa, ?_, ?_, ?_⟩, ⟨?_, SL_addF (F := (neT σ N a0 b0).1) hF.1 hKa⟩, fun x => Iff.rfl, UL_maA hF.2.1 hKa⟩
    · intro x hx
      rcases (m2 x).mp hx with w | w
      · obtain ⟨v, hv, ev⟩ := w
        exact ⟨sub x ⟨v, hv, ev⟩, by rw [← ev]; exact (hF.2.1.1 v hv).2⟩
      · rw [w]; exact ⟨fun _ z => z, hA0⟩
    · intro x y hx hy
      rcases (m2 x).mp hx with w | w
      · rcases (m2 y).mp hy with v | v
        · exact hF.2.2.2.2.2.1 x y w v
        · rw [v]; exact Or.inl (sub x w)
      · rcases (m2 y).mp hy with v | v
        · rw [w]; exact Or.inr (Or.inl (sub y v))
        · rw [w, v]; exact Or.inl (fun _ z => z)
    · intro k hk
      exact (m2 _).mpr (Or.inl (hF.2.2.2.2.2.2 k ((allK_in hN).mp hk)))
    · intro y
      refine Iff.trans (m2 y) (Iff.trans ?_ (m1 y).symm)
      rw [← hF.2.2.2.1 y]
      exact ⟨fun z => z.elim Or.inl (fun w => Or.inr ⟨w, hA0⟩), fun z => z.elim Or.inl (fun w => Or.inr w.1)⟩
theorem ne_pre {σ τ : St} (h : RX σ τ) {N a0 b0 : Nat} (hN : N ≤ 12) (h2 : 2 ≤ N) (ha : a0 < 12) (hb : b0 < 12) : famG (neF σ N a0 b0) ∧ (∀ t, t + 2 < N → ∃ x y, x < N + t ∧ y < N + t ∧ ¬ x = y ∧ (nqK N (nqT τ N t) t).1 = nI x ∧ (nqK N (nqT τ N t) t).2.1 = nI y) ∧ 0 < (nqE τ N).1 ∧ (nqE τ N).1 ≤ 47 := by
  obtain ⟨h1, _, M, a, ⟨b1, b2⟩, c1, c2⟩ := ne_sp h hN h2 ha hb
  have := grow_fam h.tre a b1 b2 c1 c2
  exact ⟨this.1, h1, this.2.1, by omega⟩
theorem R7_ne {σ τ : St} {T : NT} (h : RX σ τ) (h5 : T.2.2.2.2.1 < 12) (h6 : T.2.2.2.2.2 < 12) : R7 (neX σ T) τ := by
  obtain ⟨N, n1, n2, n3, n4, _, _, n7⟩ := h.dis
  refine ⟨h.tape, h.fau, h.wri, h.tri, h.sig, h.sta, N, n1, n2, ?_, n4, ⟨_, h5, ?_⟩, ⟨_, h6, nF_s⟩, n7⟩
  · show nF (sN (sN (sJ (sJ (sI σ 55 T.2.1) 56 T.2.2.1) 57 T.2.2.2.1) 53 5 (nI T.2.2.2.2.1)) 53 6 (nI T.2.2.2.2.2)) 53 0 = nI N
    rw [nF_k (by decide), nF_k (by decide)]
    exact n3
  · show nF (sN (sN (sJ (sJ (sI σ 55 T.2.1) 56 T.2.2.1) 57 T.2.2.2.1) 53 5 (nI T.2.2.2.2.1)) 53 6 (nI T.2.2.2.2.2)) 53 5 = _
    rw [nF_k (by decide), nF_s]
theorem s_nearest {σ τ : St} (h : RX σ τ) (N a0 b0 : Nat) (hN : N ≤ 12) (h2 : 2 ≤ N) (ha : a0 < 12) (hb : b0 < 12) (u : Int32) : SV exClear (fun σ9 => ∃ k, k < 8 ∧ u = nI k ∧ σ9 = sfS (neX σ (neT σ N a0 b0)) (neF σ N a0 b0) k) (fun E σ9 => σ9 = σ ∧ E = xIOB ∧ ¬ okI 8 u) (mneaP τ N u) σ τ := by
  constructor
  · rintro σ8 ⟨k, hk, rfl, rfl⟩
    obtain ⟨_, ⟨h5, h6⟩, M, a, ⟨b1, b2⟩, c1, c2⟩ := ne_sp h hN h2 ha hb
    obtain ⟨-, -, -, -, hgr⟩ := grow_fam h.tre a b1 b2 c1 c2
    have hta : tAg σ (neX σ (neT σ N a0 b0)) := ((((tAg.rf.I (by omega)).J).J).N (by omega)).N (by omega)
    have hma : mAg σ (neX σ (neT σ N a0 b0)) := ((((mAg.rf.I (by omega)).J (by omega)).J (by omega)).N (by omega)).N (by omega)
    refine ⟨hma.tr (hgr k hk _ τ hta rfl rfl rfl).2.2.2, ?_⟩
    rintro τ9 (⟨hn, -⟩ | ⟨k9, s, hk9, e, rfl⟩)
    · exact absurd ⟨k, hk, rfl⟩ hn
    · have := (nI8 hk hk9).mp e
      subst this
      refine ⟨puS_c (((cAg_t.I (by omega)).I (by omega)).J (by omega)), mT_t (τ := τ), ?_⟩
      exact RX_fam h (R7_ne (τ := sJ (sI (sI (mT τ 0) 22 s.1) 23 s.2.1) 24 s.2.2.1) ⟨h.tape, h.fau, h.wri, h.tri, h.sig, h.sta, h.dis, rTre_m rfl rfl rfl h.tre⟩ h5 h6) hk (hgr k hk _ (sJ (sI (sI (mT τ 0) 22 s.1) 23 s.2.1) 24 s.2.2.1) hta rfl rfl rfl).1
  · rintro E σ8 ⟨rfl, rfl, hn⟩
    refine SV_no h (c := 1) (by decide) ?_
    rintro τ9 (⟨-, rfl⟩ | ⟨k9, s, hk9, e, -⟩)
    · rfl
    · exact absurd ⟨k9, hk9, e⟩ hn

/-! nearest: the class's clusters and the reference's nodes -/
/-- live kinds and the nodes that bear them -/
def NL (N m : Nat) (c : Nat → Int32) (y : Nat → Int64) (a b : Nat → Int32) (d : Nat → Int64) (φ : Nat → Nat) : Prop :=
  (∀ p, p < N → ¬ c p = 0 → φ p < m ∧ nqA b (φ p) ∧ a (φ p) = c p ∧ In p (c p) ∧ ∀ k, In k (c p) → p ≤ k ∧ k < N) ∧
  (∀ k, k < m → nqA b k → ∃ p, p < N ∧ ¬ c p = 0 ∧ φ p = k) ∧
  (∀ p q k, p < N → q < N → In k (c p) → In k (c q) → p = q) ∧
  ∀ p q, p < N → q < N → ¬ p = q → ¬ c p = 0 → ¬ c q = 0 → y (p * 12 + q) = d (24 * φ p + φ q)
section nl
variable {N m : Nat} {c : Nat → Int32} {y : Nat → Int64} {a b : Nat → Int32} {d : Nat → Int64} {φ : Nat → Nat}
theorem nl_inj (h : NL N m c y a b d φ) {p q : Nat} (hp : p < N) (hq : q < N) (cp : ¬ c p = 0) (cq : ¬ c q = 0) (e : φ p = φ q) : p = q := by
  have h1 := h.1 p hp cp
  have h2 := h.1 q hq cq
  refine h.2.2.1 p q p hp hq h1.2.2.2.1 ?_
  rw [← h2.2.2.1, ← e, h1.2.2.1]
  exact h1.2.2.2.1
theorem nl_ntz (h : NL N m c y a b d φ) (hN : N ≤ 12) {p : Nat} (hp : p < N) (cp : ¬ c p = 0) : ntz (c p) = nI p := by
  have h1 := h.1 p hp cp
  obtain ⟨k, hk, e, hi, hl⟩ := ntz_ls (x := c p) (fun k hk => by have := (h1.2.2.2.2 k hk).2; omega) cp
  have := (h1.2.2.2.2 k hi).1
  have : ¬ p < k := fun z => hl p z h1.2.2.2.1
  have e2 : k = p := by omega
  rw [e, e2]
theorem nqL_y {p k0 : Nat} : ∀ m, k0 < m → nqA b k0 → ntz (a k0) = nI p → (∀ k, k < m → nqA b k → ntz (a k) = nI p → k = k0) → nqL a b p m = nI k0
  | 0, h, _, _, _ => absurd h (by omega)
  | m + 1, h, h1, h2, h3 => by
    show cI (nqA b m ∧ ntz (a m) = nI p) (nI m) (nqL a b p m) = nI k0
    by_cases e : nqA b m ∧ ntz (a m) = nI p
    · rw [cI_t e, h3 m (by omega) e.1 e.2]
    · rw [cI_f e]
      have hne : ¬ k0 = m := fun z => e (by rw [← z]; exact ⟨h1, h2⟩)
      exact nqL_y m (by omega) h1 h2 (fun k hk => h3 k (by omega))
theorem nqL_no {p : Nat} : ∀ m, (∀ k, k < m → nqA b k → ¬ ntz (a k) = nI p) → nqL a b p m = -1
  | 0, _ => rfl
  | m + 1, h => by
    show cI (nqA b m ∧ ntz (a m) = nI p) (nI m) (nqL a b p m) = -1
    rw [cI_f (fun z => h m (by omega) z.1 z.2)]
    exact nqL_no m (fun k hk => h k (by omega))
theorem nl_L (h : NL N m c y a b d φ) (hN : N ≤ 12) {p : Nat} (hp : p < N) (cp : ¬ c p = 0) : nqL a b p m = nI (φ p) := by
  have h1 := h.1 p hp cp
  refine nqL_y m h1.1 h1.2.1 (by rw [h1.2.2.1]; exact nl_ntz h hN hp cp) ?_
  intro k hk hb hz
  obtain ⟨q, hq, cq, e⟩ := h.2.1 k hk hb
  have h2 := h.1 q hq cq
  rw [← e, h2.2.2.1, nl_ntz h hN hq cq] at hz
  have := (nI_eq (by omega) (by omega)).mp hz
  rw [← e, this]
theorem nl_Ln (h : NL N m c y a b d φ) (hN : N ≤ 12) {p : Nat} (hp : p < N) (cp : c p = 0) : nqL a b p m = -1 := by
  refine nqL_no m (fun k hk hb hz => ?_)
  obtain ⟨q, hq, cq, e⟩ := h.2.1 k hk hb
  have h2 := h.1 q hq cq
  rw [← e, h2.2.2.1, nl_ntz h hN hq cq] at hz
  have := (nI_eq (by omega) (by omega)).mp hz
  rw [this] at cq
  exact cq cp
/-- both sums -/
theorem nl_sum (h : NL N m c y a b d φ) {i : Nat} (hi : i < N) (ci : ¬ c i = 0) : sgS c y i N = nqS b d (φ i) m := by
  rw [sg_gs, nq_gs]
  let F : Nat → Nat → Int64 := fun k p => cI (¬ p = i ∧ ¬ c p = 0 ∧ φ p = k) (y (i * 12 + p)) 0
  have e1 : ∀ p, p < N → gs (fun k => F k p) m = cI (¬ p = i ∧ ¬ c p = 0) (y (i * 12 + p)) 0 := by
    intro p hp
    by_cases z : ¬ p = i ∧ ¬ c p = 0
    · rw [gs_1 (k0 := φ p) m (h.1 p hp z.2).1 (fun k hk hne => cI_f (fun q => hne q.2.2.symm))]
      show cI (¬ p = i ∧ ¬ c p = 0 ∧ φ p = φ p) (y (i * 12 + p)) 0 = _
      rw [cI_t ⟨z.1, z.2, rfl⟩, cI_t z]
    · rw [gs_0 m (fun k hk => cI_f (fun q => z ⟨q.1, q.2.1⟩)), cI_f z]
  have e2 : ∀ k, k < m → gs (F k) N = cI (nqA b k ∧ ¬ k = φ i) (d (24 * φ i + k)) 0 := by
    intro k hk
    by_cases z : nqA b k ∧ ¬ k = φ i
    · obtain ⟨p, hp, cp, e⟩ := h.2.1 k hk z.1
      have hpi : ¬ p = i := fun q => z.2 (by rw [← e, q])
      rw [gs_1 (k0 := p) N hp (fun q hq hne => cI_f (fun w => hne (nl_inj h hq hp w.2.1 cp (by rw [w.2.2, e])))), cI_t z]
      show cI (¬ p = i ∧ ¬ c p = 0 ∧ φ p = k) (y (i * 12 + p)) 0 = _
      rw [cI_t ⟨hpi, cp, e⟩, h.2.2.2 i p hi hp (fun q => hpi q.symm) ci cp, e]
    · rw [gs_0 N (fun p hp => cI_f (fun w => z ⟨by rw [← w.2.2]; exact (h.1 p hp w.2.1).2.1, fun q => w.1 (nl_inj h hp hi w.2.1 ci (by rw [w.2.2, q]))⟩)), cI_f z]
  rw [← gs_c N e1, ← gs_c m e2]
  exact (gs_sw m).symm
theorem nl_sc (h : NL N m c y a b d φ) {z : Nat → Int64} (hz : ∀ i, i < N → z i = sgS c y i N) {L i k : Nat} (hi : i < N) (hk : k < N) (hne : ¬ i = k) (ci : ¬ c i = 0) (ck : ¬ c k = 0) : scI y z L i k = nqV b d m L (φ i) (φ k) := by
  unfold scI nqV
  rw [hz i hi, hz k hk, nl_sum h hi ci, nl_sum h hk ck, h.2.2.2 i k hi hk hne ci ck]
/-- the best of both so far -/
def CR (N : Nat) (c : Nat → Int32) (φ : Nat → Nat) (t : CN) (s : NC) : Prop := (t.1 = 0 ∧ s.1 = -1) ∨ (t.1 = 1 ∧ t.2.2.1 < t.2.2.2 ∧ t.2.2.2 < N ∧ ¬ c t.2.2.1 = 0 ∧ ¬ c t.2.2.2 = 0 ∧ s.1 = nI (φ t.2.2.1) ∧ s.2.1 = nI (φ t.2.2.2) ∧ s.2.2 = t.2.1)
theorem nI_nn {n : Nat} (h : n < 2 ^ 31) : ¬ nI n < 0 := by
  have := (nI_ltI (a := n) (b := 0) h (by decide)).mp
  exact fun z => absurd (this z) (by omega)
theorem cr_S (h : NL N m c y a b d φ) (hN : N ≤ 12) (hm : m < 24) {z : Nat → Int64} (hz : ∀ i, i < N → z i = sgS c y i N) {L i k : Nat} (hik : i < k) (hk : k < N) {t : CN} {s : NC} (hc : CR N c φ t s) : CR N c φ (cnS c y z L i k t) (nqQ a b d m L i k s) ∧ (¬ c i = 0 → ¬ c k = 0 → (cnS c y z L i k t).1 = 1) ∧ (t.1 = 1 → (cnS c y z L i k t).1 = 1) := by
  by_cases ci : c i = 0
  · rw [cnS_a ci, show nqQ a b d m L i k s = s from cI_t (Or.inl (by rw [nl_Ln h hN (by omega) ci]; decide))]
    exact ⟨hc, fun q => absurd ci q, id⟩
  · by_cases ck : c k = 0
    · rw [cnS_b ck, show nqQ a b d m L i k s = s from cI_t (Or.inr (by rw [nl_Ln h hN hk ck]; decide))]
      exact ⟨hc, fun _ q => absurd ck q, id⟩
    · have hfi := (h.1 i (by omega) ci).1
      have hfk := (h.1 k hk ck).1
      have hq : nqQ a b d m L i k s = cI (¬ s.1 < 0 ∧ ¬ scI y z L i k < s.2.2) s (nI (φ i), nI (φ k), scI y z L i k) := by
        unfold nqQ
        rw [nl_L h hN (by omega) ci, nl_L h hN hk ck, cI_f (fun q => q.elim (nI_nn (by omega)) (nI_nn (by omega))), nI_clamp (by omega), nI_clamp (by omega), nl_sc h hz (L := L) (show i < N by omega) hk (by omega) ci ck]
      rw [hq]
      rcases hc with ⟨t1, s1⟩ | ⟨t1, p1, p2, p3, p4, p5, p6, p7⟩
      · rw [cnS_y ci ck (Or.inl t1), cI_f (fun q => q.1 (by rw [s1]; decide))]
        exact ⟨Or.inr ⟨rfl, hik, hk, ci, ck, rfl, rfl, rfl⟩, fun _ _ => rfl, fun _ => rfl⟩
      · have hlt := (h.1 _ (by omega) p3).1
        by_cases w : scI y z L i k < t.2.1
        · rw [cnS_y ci ck (Or.inr w), cI_f (fun q => q.2 (by rw [p7]; exact w))]
          exact ⟨Or.inr ⟨rfl, hik, hk, ci, ck, rfl, rfl, rfl⟩, fun _ _ => rfl, fun _ => rfl⟩
        · rw [cnS_n ci ck (by omega) w, cI_t ⟨by rw [p5]; exact nI_nn (by omega), by rw [p7]; exact w⟩]
          exact ⟨Or.inr ⟨t1, p1, p2, p3, p4, p5, p6, p7⟩, fun _ _ => t1, fun _ => t1⟩
theorem cr_I (h : NL N m c y a b d φ) (hN : N ≤ 12) (hm : m < 24) {z : Nat → Int64} (hz : ∀ i, i < N → z i = sgS c y i N) {L i : Nat} {t : CN} {s : NC} (hc : CR N c φ t s) : ∀ e, i + 1 + e ≤ N → CR N c φ (cnI c y z L i t e) (nqC1 a b d m L i s e) ∧ (∀ k, i < k → k < i + 1 + e → ¬ c i = 0 → ¬ c k = 0 → (cnI c y z L i t e).1 = 1) ∧ (t.1 = 1 → (cnI c y z L i t e).1 = 1)
  | 0, _ => ⟨hc, fun k h1 h2 => absurd h2 (by omega), id⟩
  | e + 1, he => by
    obtain ⟨i1, i2, i3⟩ := cr_I h hN hm hz (L := L) (i := i) hc e (by omega)
    obtain ⟨j1, j2, j3⟩ := cr_S h hN hm hz (L := L) (show i < i + 1 + e by omega) (by omega) i1
    refine ⟨j1, fun k h1 h2 ci ck => ?_, fun q => j3 (i3 q)⟩
    by_cases w : k = i + 1 + e
    · subst w; exact j2 ci ck
    · exact j3 (i2 k h1 (by omega) ci ck)
theorem cr_O (h : NL N m c y a b d φ) (hN : N ≤ 12) (hm : m < 24) {z : Nat → Int64} (hz : ∀ i, i < N → z i = sgS c y i N) {L a0 b0 : Nat} : ∀ i, i ≤ N → CR N c φ (cnO c y z L N (0, 0, a0, b0) i) (nqC a b d m L N i) ∧ ∀ p q, p < q → q < N → p < i → ¬ c p = 0 → ¬ c q = 0 → (cnO c y z L N (0, 0, a0, b0) i).1 = 1
  | 0, _ => ⟨Or.inl ⟨rfl, rfl⟩, fun p q _ _ h => absurd h (by omega)⟩
  | i + 1, hi => by
    obtain ⟨i1, i2⟩ := cr_O h hN hm hz (L := L) (a0 := a0) (b0 := b0) i (by omega)
    obtain ⟨j1, j2, j3⟩ := cr_I h hN hm hz (L := L) (i := i) i1 (N - (i + 1)) (by omega)
    refine ⟨j1, fun p q hpq hq hp cp cq => ?_⟩
    by_cases w : p = i
    · subst w; exact j2 q hpq (by omega) cp cq
    · exact j3 (i2 p q hpq hq (by omega) cp cq)
/-- the pair that both choose -/
theorem nl_pick (h : NL N m c y a b d φ) (hN : N ≤ 12) (hm : m < 24) {z : Nat → Int64} (hz : ∀ i, i < N → z i = sgS c y i N) {L a0 b0 : Nat} (h2 : 2 ≤ cntU (fun p => ¬ c p = 0) N) : ∃ p q, p < q ∧ q < N ∧ ¬ c p = 0 ∧ ¬ c q = 0 ∧ (cnO c y z L N (0, 0, a0, b0) N).2.2 = (p, q) ∧ (nqC a b d m L N N).1 = nI (φ p) ∧ (nqC a b d m L N N).2.1 = nI (φ q) := by
  obtain ⟨p, q, hpq, hq, cp, cq⟩ := two_of N h2
  obtain ⟨i1, i2⟩ := cr_O h hN hm hz (L := L) (a0 := a0) (b0 := b0) N (Nat.le_refl _)
  have hf := i2 p q hpq hq (by omega) cp cq
  rcases i1 with ⟨t1, _⟩ | ⟨_, p1, p2, p3, p4, p5, p6, _⟩
  · omega
  · exact ⟨_, _, p1, p2, p3, p4, rfl, p5, p6⟩
end nl
theorem nqOn_1 : ¬ nqOn = 0 := by decide +kernel
theorem nqOff_0 : nqOff = 0 := by decide +kernel
/-- behind a joining -/
theorem nl_join {N m : Nat} {c : Nat → Int32} {y : Nat → Int64} {a b : Nat → Int32} {d : Nat → Int64} {φ : Nat → Nat} (h : NL N m c y a b d φ) (hN : N ≤ 12) (hm : m < 24) {j : Nat} (hj : j < 12) (hD : ∀ p q, p < N → q < N → ¬ p = q → ¬ c p = 0 → ¬ c q = 0 → Dv (j + 1) (y (p * 12 + q))) {p q : Nat} (hpq : p < q) (hq : q < N) (cp : ¬ c p = 0) (cq : ¬ c q = 0) : NL N (m + 1) (upd (upd c p (c p ||| c q)) q (nI 0)) (mgU c p q (y (p * 12 + q)) y N) (upd a m (a (φ p) ||| a (φ q))) (upd (upd (upd b (φ p) nqOff) (φ q) nqOff) m nqOn) (vp_updL (nqF (φ p) (φ q) m d m) (24 * m + m) 0) (fun k => if k = p then m else φ k) ∧ ∀ u v, u < N → v < N → ¬ u = v → ¬ upd (upd c p (c p ||| c q)) q (nI 0) u = 0 → ¬ upd (upd c p (c p ||| c q)) q (nI 0) v = 0 → Dv j (mgU c p q (y (p * 12 + q)) y N (u * 12 + v)) := by
  have hp1 := h.1 p (by omega) cp
  have hq1 := h.1 q hq cq
  have hxy : ¬ φ p = φ q := fun e => by have := nl_inj h (by omega) hq cp cq e; omega
  have hc : ∀ k, upd (upd c p (c p ||| c q)) q (nI 0) k = if k = q then 0 else if k = p then c p ||| c q else c k := by
    intro k
    by_cases e : k = q
    · rw [if_pos e, e, pk_us]; rfl
    · rw [if_neg e, pk_un e]
      by_cases e2 : k = p
      · rw [if_pos e2, e2, pk_us]
      · rw [if_neg e2, pk_un e2]
  have hcq : upd (upd c p (c p ||| c q)) q (nI 0) q = 0 := by rw [hc, if_pos rfl]
  have hcp : upd (upd c p (c p ||| c q)) q (nI 0) p = c p ||| c q := by rw [hc, if_neg (by omega), if_pos rfl]
  have hck : ∀ k, ¬ k = p → ¬ k = q → upd (upd c p (c p ||| c q)) q (nI 0) k = c k := fun k h1 h2 => by rw [hc, if_neg h2, if_neg h1]
  have hwne : ¬ c p ||| c q = 0 := fun e => by
    have : In p (c p ||| c q) := In_or.mpr (Or.inl hp1.2.2.2.1)
    rw [e] at this; exact In_0 this
  have hwin : ∀ k, In k (c p ||| c q) → p ≤ k ∧ k < N := fun k hk => by
    rcases In_or.mp hk with w | w
    · exact hp1.2.2.2.2 k w
    · have := hq1.2.2.2.2 k w; omega
  have hφp : (fun k => if k = p then m else φ k) p = m := if_pos rfl
  have hφk : ∀ k, ¬ k = p → (fun k => if k = p then m else φ k) k = φ k := fun k e => if_neg e
  have hb : ∀ k, ¬ k = m → ¬ k = φ p → ¬ k = φ q → upd (upd (upd b (φ p) nqOff) (φ q) nqOff) m nqOn k = b k := fun k h1 h2 h3 => by rw [pk_un h1, pk_un h3, pk_un h2]
  obtain ⟨g1, g2⟩ := mg_sp (c := c) (a := p) (b := q) (x := y (p * 12 + q)) (y := y) (by omega) (show p < 12 by omega) (show q < 12 by omega) N hN
  obtain ⟨f1, f2⟩ := nf_sp (x := φ p) (y := φ q) (m := m) (d := d) hp1.1 hq1.1 hm m (Nat.le_refl _)
  have live : ∀ k, ¬ upd (upd c p (c p ||| c q)) q (nI 0) k = 0 → ¬ k = q ∧ (¬ k = p → ¬ c k = 0) := fun k w => by
    refine ⟨fun e => w (by rw [e]; exact hcq), fun e z => w ?_⟩
    by_cases e2 : k = q
    · rw [e2]; exact hcq
    · rw [hck k e e2]; exact z
  have mrg : ∀ k, k < N → ¬ k = p → ¬ k = q → ¬ c k = 0 → mgH p q (y (p * 12 + q)) y k = (d (24 * φ p + φ k) + d (24 * φ q + φ k) - d (24 * φ p + φ q)) / 2 ∧ Dv j (mgH p q (y (p * 12 + q)) y k) := fun k hk e1 e2 ck => by
    have t3 := Dv_3 hj (hD p k (by omega) hk (fun z => e1 z.symm) cp ck) (hD q k hq hk (fun z => e2 z.symm) cq ck) (hD p q (by omega) hq (by omega) cp cq)
    have t4 := half_eq hj t3
    rw [← h.2.2.2 p k (by omega) hk (fun z => e1 z.symm) cp ck, ← h.2.2.2 q k hq hk (fun z => e2 z.symm) cq ck, ← h.2.2.2 p q (by omega) hq (by omega) cp cq]
    exact t4
  refine ⟨⟨?_, ?_, ?_, ?_⟩, ?_⟩
  · intro k hk ck
    obtain ⟨kq, kc⟩ := live k ck
    by_cases e : k = p
    · subst e
      rw [hφp, hcp]
      refine ⟨by omega, ?_, ?_, In_or.mpr (Or.inl hp1.2.2.2.1), hwin⟩
      · show ¬ upd (upd (upd b (φ k) nqOff) (φ q) nqOff) m nqOn m = 0
        rw [pk_us]; exact nqOn_1
      · rw [pk_us, hp1.2.2.1, hq1.2.2.1]
    · have hk1 := h.1 k hk (kc e)
      have n1 : ¬ φ k = φ p := fun z => e (nl_inj h hk (by omega) (kc e) cp z)
      have n2 : ¬ φ k = φ q := fun z => kq (nl_inj h hk hq (kc e) cq z)
      rw [hφk k e, hck k e kq]
      refine ⟨by omega, ?_, ?_, hk1.2.2.2⟩
      · show ¬ upd (upd (upd b (φ p) nqOff) (φ q) nqOff) m nqOn (φ k) = 0
        rw [hb _ (by omega) n1 n2]; exact hk1.2.1
      · rw [pk_un (by omega)]; exact hk1.2.2.1
  · intro k hk hbk
    have hbk : ¬ upd (upd (upd b (φ p) nqOff) (φ q) nqOff) m nqOn k = 0 := hbk
    by_cases e : k = m
    · exact ⟨p, by omega, by rw [hcp]; exact hwne, by rw [hφp, e]⟩
    · by_cases e1 : k = φ q
      · rw [pk_un e, e1, pk_us] at hbk
        exact absurd nqOff_0 hbk
      · by_cases e2 : k = φ p
        · rw [pk_un e, pk_un e1, e2, pk_us] at hbk
          exact absurd nqOff_0 hbk
        · rw [hb k e e2 e1] at hbk
          obtain ⟨u, hu, cu, eu⟩ := h.2.1 k (by omega) hbk
          have u1 : ¬ u = p := fun z => e2 (by rw [← eu, z])
          have u2 : ¬ u = q := fun z => e1 (by rw [← eu, z])
          exact ⟨u, hu, by rw [hck u u1 u2]; exact cu, by rw [hφk u u1]; exact eu⟩
  · intro u v k hu hv iu iv
    have nz : ∀ {x : Int32} {k : Nat}, In k x → ¬ x = 0 := fun w z => by rw [z] at w; exact In_0 w
    obtain ⟨u1, u2⟩ := live u (nz iu)
    obtain ⟨v1, v2⟩ := live v (nz iv)
    by_cases eu : u = p
    · by_cases ev : v = p
      · rw [eu, ev]
      · subst eu
        rw [hcp] at iu
        rw [hck v ev v1] at iv
        rcases In_or.mp iu with w | w
        · exact h.2.2.1 u v k hu hv w iv
        · exact absurd (h.2.2.1 q v k hq hv w iv).symm v1
    · by_cases ev : v = p
      · subst ev
        rw [hcp] at iv
        rw [hck u eu u1] at iu
        rcases In_or.mp iv with w | w
        · exact h.2.2.1 u v k hu hv iu w
        · exact absurd (h.2.2.1 u q k hu hq iu w) u1
      · rw [hck u eu u1] at iu
        rw [hck v ev v1] at iv
        exact h.2.2.1 u v k hu hv iu iv
  · intro u v hu hv huv cu cv
    obtain ⟨u1, u2⟩ := live u cu
    obtain ⟨v1, v2⟩ := live v cv
    by_cases eu : u = p
    · subst eu
      have ev : ¬ v = u := fun z => huv z.symm
      have hlt := (h.1 v hv (v2 ev)).1
      rw [hφp, hφk v ev, pk_uLn (by omega), (f1 _ hlt).1, (g1 v hv ev v1 (v2 ev)).1]
      exact (mrg v hv ev v1 (v2 ev)).1
    · have hlu := (h.1 u hu (u2 eu)).1
      by_cases ev : v = p
      · subst ev
        rw [hφp, hφk u eu, pk_uLn (by omega), (f1 _ hlu).2, (g1 u hu eu u1 (u2 eu)).2]
        exact (mrg u hu eu u1 (u2 eu)).1
      · have hlv := (h.1 v hv (v2 ev)).1
        rw [hφk u eu, hφk v ev, pk_uLn (by omega), f2 _ _ hlu hlv, g2 u v (by omega) (by omega) (by omega) (by omega)]
        exact h.2.2.2 u v hu hv huv (u2 eu) (v2 ev)
  · intro u v hu hv huv cu cv
    obtain ⟨u1, u2⟩ := live u cu
    obtain ⟨v1, v2⟩ := live v cv
    by_cases eu : u = p
    · subst eu
      have ev : ¬ v = u := fun z => huv z.symm
      rw [(g1 v hv ev v1 (v2 ev)).1]
      exact (mrg v hv ev v1 (v2 ev)).2
    · by_cases ev : v = p
      · subst ev
        rw [(g1 u hu eu u1 (u2 eu)).2]
        exact (mrg u hu eu u1 (u2 eu)).2
      · rw [g2 u v (by omega) (by omega) (by omega) (by omega)]
        exact Dv_s hj (hD u v hu hv huv (u2 eu) (v2 ev))

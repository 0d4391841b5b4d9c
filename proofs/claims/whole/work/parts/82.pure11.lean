/-! Orders: both ways -/
def bn : Nat → Nat → Nat
  | 0, _ => 1
  | i + 1, j => if j = 0 ∨ j = i + 1 then 1 else bn i (j - 1) + bn i j
def fac : Nat → Nat
  | 0 => 1
  | n + 1 => (n + 1) * fac n
theorem fac_pos : ∀ n, 0 < fac n
  | 0 => by decide
  | n + 1 => Nat.mul_pos (by omega) (fac_pos n)
theorem cho_bn : ∀ i j, cho i j = Int64.ofNat (bn i j)
  | 0, _ => rfl
  | i + 1, j => by
    show (if j = 0 ∨ j = i + 1 then 1 else cho i (j - 1) + cho i j) = Int64.ofNat (if j = 0 ∨ j = i + 1 then 1 else bn i (j - 1) + bn i j)
    by_cases h : j = 0 ∨ j = i + 1
    · rw [if_pos h, if_pos h]; rfl
    · rw [if_neg h, if_neg h, cho_bn i (j - 1), cho_bn i j, Int64.ofNat_add]
theorem bn_fac : ∀ i j, j ≤ i → bn i j * (fac j * fac (i - j)) = fac i
  | 0, j, h => by
    rw [show j = 0 by omega]; rfl
  | i + 1, j, h => by
    show (if j = 0 ∨ j = i + 1 then 1 else bn i (j - 1) + bn i j) * (fac j * fac (i + 1 - j)) = fac (i + 1)
    by_cases h2 : j = 0 ∨ j = i + 1
    · rw [if_pos h2, Nat.one_mul]
      rcases h2 with e | e
      · rw [e]; show 1 * fac (i + 1) = _; rw [Nat.one_mul]
      · rw [e, Nat.sub_self]; show fac (i + 1) * 1 = _; rw [Nat.mul_one]
    · rw [if_neg h2]
      obtain ⟨k, rfl⟩ : ∃ k, j = k + 1 := ⟨j - 1, by omega⟩
      rw [show k + 1 - 1 = k by omega]
      have h3 := bn_fac i k (by omega)
      have h4 := bn_fac i (k + 1) (by omega)
      obtain ⟨d, hd⟩ : ∃ d, i = k + 1 + d := ⟨i - (k + 1), by omega⟩
      rw [show i + 1 - (k + 1) = d + 1 by omega]
      rw [show i - k = d + 1 by omega] at h3
      rw [show i - (k + 1) = d by omega] at h4
      have e1 : fac (d + 1) = (d + 1) * fac d := rfl
      have e2 : fac (k + 1) = (k + 1) * fac k := rfl
      rw [Nat.add_mul]
      have e3 : bn i k * (fac (k + 1) * fac (d + 1)) = (k + 1) * fac i := by
        rw [← h3, e2]
        simp only [Nat.mul_comm, Nat.mul_left_comm, Nat.mul_assoc]
      have e4 : bn i (k + 1) * (fac (k + 1) * fac (d + 1)) = (d + 1) * fac i := by
        rw [← h4, e1]
        simp only [Nat.mul_comm, Nat.mul_left_comm, Nat.mul_assoc]
      rw [e3, e4, ← Nat.add_mul, show k + 1 + (d + 1) = i + 1 by omega]
      rfl
theorem bn_sym (m x y : Nat) : bn (m + x) x * bn (m + x + y) y = bn (m + y) y * bn (m + y + x) x := by
  have h1 := bn_fac (m + x) x (by omega)
  have h2 := bn_fac (m + x + y) y (by omega)
  have h3 := bn_fac (m + y) y (by omega)
  have h4 := bn_fac (m + y + x) x (by omega)
  rw [show m + x - x = m by omega] at h1
  rw [show m + x + y - y = m + x by omega] at h2
  rw [show m + y - y = m by omega] at h3
  rw [show m + y + x - x = m + y by omega] at h4
  have e : m + y + x = m + x + y := by omega
  rw [e] at h4
  have key : (bn (m + x) x * bn (m + x + y) y) * (fac m * fac x * fac y) = (bn (m + y) y * bn (m + x + y) x) * (fac m * fac x * fac y) := by
    have l : (bn (m + x) x * bn (m + x + y) y) * (fac m * fac x * fac y) = bn (m + x + y) y * (fac y * (bn (m + x) x * (fac x * fac m))) := by
      simp only [Nat.mul_comm, Nat.mul_left_comm, Nat.mul_assoc]
    have r : (bn (m + y) y * bn (m + x + y) x) * (fac m * fac x * fac y) = bn (m + x + y) x * (fac x * (bn (m + y) y * (fac y * fac m))) := by
      simp only [Nat.mul_comm, Nat.mul_left_comm, Nat.mul_assoc]
    rw [l, r, h1, h2, h3, h4]
  rw [e]
  exact Nat.eq_of_mul_eq_mul_right (Nat.mul_pos (Nat.mul_pos (fac_pos m) (fac_pos x)) (fac_pos y)) key
abbrev chQ30 (a b : Nat) : Prop := b ≤ a → chU a b b = Int64.ofNat (fac a / (fac b * fac (a - b)))
theorem ch_all : ∀ a b : Fin 30, chQ30 a.val b.val := by decide +kernel
theorem ch_bn {a b : Nat} (h : b ≤ a) (ha : a ≤ 29) : chU a b b = Int64.ofNat (bn a b) := by
  rw [ch_all ⟨a, by omega⟩ ⟨b, by omega⟩ h]
  congr 1
  have h1 := bn_fac a b h
  rw [← h1]
  exact Nat.mul_div_cancel _ (Nat.mul_pos (fac_pos _) (fac_pos _))
/-- a child more -/
abbrev oS (y : Nat → Int64) (o : Nat → Nat) (u : Nat) (a : Int64 × Nat) : Int64 × Nat := (a.1 * (y u * Int64.ofNat (bn (a.2 + o u) (o u))), a.2 + o u)
theorem oS_c (y : Nat → Int64) (o : Nat → Nat) (u v : Nat) (a : Int64 × Nat) : oS y o u (oS y o v a) = oS y o v (oS y o u a) := by
  refine Prod.ext ?_ ?_
  · show a.1 * (y v * Int64.ofNat (bn (a.2 + o v) (o v))) * (y u * Int64.ofNat (bn (a.2 + o v + o u) (o u))) = a.1 * (y u * Int64.ofNat (bn (a.2 + o u) (o u))) * (y v * Int64.ofNat (bn (a.2 + o u + o v) (o v)))
    have e := bn_sym a.2 (o v) (o u)
    have e2 : Int64.ofNat (bn (a.2 + o v) (o v)) * Int64.ofNat (bn (a.2 + o v + o u) (o u)) = Int64.ofNat (bn (a.2 + o u) (o u)) * Int64.ofNat (bn (a.2 + o u + o v) (o v)) := by
      rw [← Int64.ofNat_mul, ← Int64.ofNat_mul, e]
    have l : ∀ p q r s t : Int64, p * (q * r) * (s * t) = p * q * s * (r * t) := by
      intro p q r s t
      simp only [Int64.mul_assoc]
      rw [← Int64.mul_assoc r s t, Int64.mul_comm r s, Int64.mul_assoc s r t]
    rw [l, l, e2, Int64.mul_assoc a.1 (y v) (y u), Int64.mul_comm (y v) (y u), ← Int64.mul_assoc a.1 (y u) (y v)]
  · show a.2 + o v + o u = a.2 + o u + o v
    omega
theorem cfo_mv {α : Type} {q : Nat → Prop} {g : Nat → α → α} {s : α → α} (hc : ∀ u b, s (g u b) = g u (s b)) {a : α} : ∀ n, cfo q g (s a) n = s (cfo q g a n)
  | 0 => rfl
  | n + 1 => by
    by_cases h : q n
    · rw [cfo_y h, cfo_y h, cfo_mv hc n, hc]
    · rw [cfo_n h, cfo_n h, cfo_mv hc n]
/-- the class's walk up, with both rows -/
def orE (P : Nat → Nat) (K : Nat → Int32) : Nat → (Nat → Int64) → (Nat → Nat) → (Nat → Int64) × (Nat → Nat)
  | 0, y, B => (y, B)
  | v + 1, y, B => orE P K v (vp_updL y (P (v + 1)) (y (P (v + 1)) * (y (v + 1) * Int64.ofNat (bn (B (P (v + 1)) + (B (v + 1) + oN (K (v + 1)))) (B (v + 1) + oN (K (v + 1))))))) (va_up B (P (v + 1)) (B (P (v + 1)) + (B (v + 1) + oN (K (v + 1)))))
theorem va_us {f : Nat → Nat} {k x : Nat} : va_up f k x k = x := by unfold va_up; exact if_pos rfl
theorem va_un {f : Nat → Nat} {k x i : Nat} (h : i ≠ k) : va_up f k x i = f i := by unfold va_up; exact if_neg h
theorem two_le {f : Nat → Nat} {a b : Nat} : ∀ n, a < b → b < n → f a + f b ≤ sumU f n
  | 0, _, h => absurd h (by omega)
  | n + 1, h1, h2 => by
    show f a + f b ≤ sumU f n + f n
    by_cases e : b = n
    · subst e
      have := le_sumU (f := f) b h1
      omega
    · have := two_le (f := f) n h1 (by omega)
      omega
theorem orD_E {P : Nat → Nat} {K : Nat → Int32} : ∀ (m : Nat) (y : Nat → Int64) (B : Nat → Nat), (∀ u, 0 < u → u ≤ m → P u < u) → sumU (fun u => B u + oN (K u)) (m + 1) ≤ 29 → orD P K m y B = (orE P K m y B).1
  | 0, _, _, _, _ => rfl
  | m + 1, y, B, hP, hs => by
    have hPm := hP (m + 1) (by omega) (Nat.le_refl _)
    have h2 := two_le (f := fun u => B u + oN (K u)) (m + 1 + 1) hPm (by omega)
    show orD P K m _ _ = (orE P K m _ _).1
    rw [ch_bn (by omega) (by have h5 : (B (P (m + 1)) + oN (K (P (m + 1)))) + (B (m + 1) + oN (K (m + 1))) ≤ sumU (fun u => B u + oN (K u)) (m + 1 + 1) := h2; omega)]
    refine orD_E m _ _ (fun u h1 h3 => hP u h1 (by omega)) ?_
    have e : sumU (fun u => va_up B (P (m + 1)) (B (P (m + 1)) + (B (m + 1) + oN (K (m + 1)))) u + oN (K u)) (m + 1) = sumU (fun u => (B u + oN (K u)) + (if u = P (m + 1) then B (m + 1) + oN (K (m + 1)) else 0)) (m + 1) := by
      refine sumU_c (m + 1) (fun u _ => ?_)
      by_cases z : u = P (m + 1)
      · rw [if_pos z, z, va_us]; omega
      · rw [if_neg z, va_un z]; omega
    rw [e, sumU_add, sumU_one (m + 1) hPm]
    exact hs
theorem orE_hi {P : Nat → Nat} {K : Nat → Int32} : ∀ (m : Nat) (y : Nat → Int64) (B : Nat → Nat) (v : Nat), (∀ u, 0 < u → u ≤ m → P u < u) → m ≤ v → (orE P K m y B).1 v = y v ∧ (orE P K m y B).2 v = B v
  | 0, _, _, _, _, _ => ⟨rfl, rfl⟩
  | m + 1, y, B, v, hP, hv => by
    have hPm := hP (m + 1) (by omega) (Nat.le_refl _)
    have ih := orE_hi (K := K) m (vp_updL y (P (m + 1)) (y (P (m + 1)) * (y (m + 1) * Int64.ofNat (bn (B (P (m + 1)) + (B (m + 1) + oN (K (m + 1)))) (B (m + 1) + oN (K (m + 1))))))) (va_up B (P (m + 1)) (B (P (m + 1)) + (B (m + 1) + oN (K (m + 1))))) v (fun u h1 h2 => hP u h1 (by omega)) (by omega)
    rw [pk_unL (by omega), va_un (by omega)] at ih
    exact ih
theorem orE_eq {P : Nat → Nat} {K : Nat → Int32} : ∀ (m : Nat) (y : Nat → Int64) (B : Nat → Nat) (v : Nat), (∀ u, 0 < u → u ≤ m → P u < u) → ((orE P K m y B).1 v, (orE P K m y B).2 v) = cfo (chQ P v) (oS (orE P K m y B).1 (fun u => (orE P K m y B).2 u + oN (K u))) (y v, B v) (m + 1)
  | 0, y, B, v, _ => by
    rw [cfo_n (show ¬ chQ P v 0 from fun z => absurd z.1 (by omega))]
    rfl
  | m + 1, y, B, v, hP => by
    have hPm := hP (m + 1) (by omega) (Nat.le_refl _)
    have hR : orE P K (m + 1) y B = orE P K m (vp_updL y (P (m + 1)) (y (P (m + 1)) * (y (m + 1) * Int64.ofNat (bn (B (P (m + 1)) + (B (m + 1) + oN (K (m + 1)))) (B (m + 1) + oN (K (m + 1))))))) (va_up B (P (m + 1)) (B (P (m + 1)) + (B (m + 1) + oN (K (m + 1))))) := rfl
    have ih := orE_eq (K := K) m (vp_updL y (P (m + 1)) (y (P (m + 1)) * (y (m + 1) * Int64.ofNat (bn (B (P (m + 1)) + (B (m + 1) + oN (K (m + 1)))) (B (m + 1) + oN (K (m + 1))))))) (va_up B (P (m + 1)) (B (P (m + 1)) + (B (m + 1) + oN (K (m + 1))))) v (fun u h1 h2 => hP u h1 (by omega))
    rw [← hR] at ih
    have hhi := orE_hi (K := K) (m + 1) y B (m + 1) hP (Nat.le_refl _)
    rw [ih]
    by_cases e : P (m + 1) = v
    · rw [cfo_y (u := m + 1) (q := chQ P v) ⟨by omega, e⟩, ← e, pk_usL, va_us]
      have := cfo_mv (q := chQ P (P (m + 1))) (g := oS (orE P K (m + 1) y B).1 (fun u => (orE P K (m + 1) y B).2 u + oN (K u))) (s := oS (orE P K (m + 1) y B).1 (fun u => (orE P K (m + 1) y B).2 u + oN (K u)) (m + 1)) (fun u b => oS_c _ _ _ _ b) (a := (y (P (m + 1)), B (P (m + 1)))) (m + 1)
      rw [← this]
      have e2 : oS (orE P K (m + 1) y B).1 (fun u => (orE P K (m + 1) y B).2 u + oN (K u)) (m + 1) (y (P (m + 1)), B (P (m + 1))) = (y (P (m + 1)) * (y (m + 1) * Int64.ofNat (bn (B (P (m + 1)) + (B (m + 1) + oN (K (m + 1)))) (B (m + 1) + oN (K (m + 1))))), B (P (m + 1)) + (B (m + 1) + oN (K (m + 1)))) := by
        show (y (P (m + 1)) * ((orE P K (m + 1) y B).1 (m + 1) * Int64.ofNat (bn (B (P (m + 1)) + ((orE P K (m + 1) y B).2 (m + 1) + oN (K (m + 1)))) ((orE P K (m + 1) y B).2 (m + 1) + oN (K (m + 1))))), B (P (m + 1)) + ((orE P K (m + 1) y B).2 (m + 1) + oN (K (m + 1)))) = _
        rw [hhi.1, hhi.2]
      rw [e2]
    · rw [cfo_n (u := m + 1) (q := chQ P v) (fun z => e z.2), pk_unL (fun z => e z.symm), va_un (fun z => e z.symm)]
/-- both ways -/
theorem or_eq {n : Nat} {P P9 : Nat → Nat} {K K9 : Nat → Int32} {π ρ : Nat → Nat} {y g : Nat → Int64} {B I : Nat → Nat} {q9 : Nat → Nat → Prop} (h : Iso n P K P9 K9 π ρ) (hP : PB n P)
    (hR : ∀ v, v < n → (y v, B v) = cfo (chQ P v) (oS y (fun u => B u + oN (K u))) (1, 0) n)
    (hg : ∀ v, v < n → g v = (cfo (q9 v) (fun u a => (a.1 * (g u * cho (a.2 + I u) (I u)), a.2 + I u)) ((1 : Int64), 0) n).1)
    (hI : ∀ v, v < n → I v = (cfo (q9 v) (fun u a => (a.1 * (g u * cho (a.2 + I u) (I u)), a.2 + I u)) ((1 : Int64), 0) n).2 + oN (K9 v))
    (hq : ∀ v u, v < n → u < n → (q9 v u ↔ 0 < u ∧ P9 u = v)) : ∀ v, v < n → y v = g (π v) ∧ B v + oN (K v) = I (π v) := by
  refine down ?_
  intro v hv ih
  have hb : cfo (chQ P v) (oS y (fun u => B u + oN (K u))) (1, 0) n = cfo (q9 (π v)) (fun u a => (a.1 * (g u * cho (a.2 + I u) (I u)), a.2 + I u)) ((1 : Int64), 0) n := by
    refine cfo_bij h.1 ?_ ?_ ?_
    · intro u hu
      rw [hq (π v) (π u) (h.1 v hv).1 (h.1 u hu).1]
      constructor
      · intro z
        exact ⟨iso_pos h z.1 hu, (iso_ch h hP z.1 hu hv).mp z.2⟩
      · intro z
        have hu0 : 0 < u := by
          rcases Nat.eq_zero_or_pos u with y | y
          · rw [y, h.2.1] at z; exact absurd z.1 (by omega)
          · exact y
        exact ⟨hu0, (iso_ch h hP hu0 hu hv).mpr z.2⟩
    · intro u hu hqu b
      have hlt := hP u hqu.1 hu
      have h1 := ih u (by rw [hqu.2] at hlt; exact hlt) hu
      show (b.1 * (y u * Int64.ofNat (bn (b.2 + (B u + oN (K u))) (B u + oN (K u)))), b.2 + (B u + oN (K u))) = _
      rw [h1.1, h1.2, cho_bn]
    · intro u w _ _ _ _ b
      rw [cho_bn, cho_bn, cho_bn, cho_bn]
      exact oS_c g I u w b
  have h1 := hR v hv
  rw [hb] at h1
  have h2 := hg (π v) (h.1 v hv).1
  have h3 := hI (π v) (h.1 v hv).1
  rw [← h1] at h2 h3
  rw [← h.2.2.1 v hv] at h3
  exact ⟨h2.symm, h3.symm⟩

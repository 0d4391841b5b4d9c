/-! Sums over what is below a node -/
def upN (d : Nat → Nat) (k x : Nat) : Nat → Nat := fun i => if i = k then x else d i
def acc (P : Nat → Nat) : Nat → (Nat → Nat) → (Nat → Nat)
  | 0, d => d
  | v + 1, d => acc P v (upN d (P (v + 1)) (d (P (v + 1)) + d (v + 1)))
theorem upN_s {d : Nat → Nat} {k x : Nat} : upN d k x k = x := if_pos rfl
theorem upN_n {d : Nat → Nat} {k x i : Nat} (h : i ≠ k) : upN d k x i = d i := if_neg h
theorem acc_hi {P : Nat → Nat} : ∀ (m : Nat) (d : Nat → Nat) (v : Nat), (∀ u, 0 < u → u ≤ m → P u < u) → m ≤ v → acc P m d v = d v
  | 0, _, _, _, _ => rfl
  | m + 1, d, v, hP, hv => by
    show acc P m _ v = d v
    rw [acc_hi m _ v (fun u h1 h2 => hP u h1 (by omega)) (by omega)]
    have := hP (m + 1) (by omega) (Nat.le_refl _)
    exact upN_n (by omega)
theorem acc_eq {P : Nat → Nat} : ∀ (m : Nat) (d : Nat → Nat) (v : Nat), (∀ u, 0 < u → u ≤ m → P u < u) → acc P m d v = d v + sumU (fun u => if 0 < u ∧ P u = v then acc P m d u else 0) (m + 1)
  | 0, d, v, _ => by
    have e : sumU (fun u => if 0 < u ∧ P u = v then acc P 0 d u else 0) (0 + 1) = 0 + (if 0 < 0 ∧ P 0 = v then acc P 0 d 0 else 0) := rfl
    rw [e, if_neg (by omega)]
    rfl
  | m + 1, d, v, hP => by
    have hPm := hP (m + 1) (by omega) (Nat.le_refl _)
    have ih := acc_eq m (upN d (P (m + 1)) (d (P (m + 1)) + d (m + 1))) v (fun u h1 h2 => hP u h1 (by omega))
    have hhi : acc P (m + 1) d (m + 1) = d (m + 1) := acc_hi (m + 1) d (m + 1) hP (Nat.le_refl _)
    have hR : acc P (m + 1) d = acc P m (upN d (P (m + 1)) (d (P (m + 1)) + d (m + 1))) := rfl
    rw [← hR] at ih
    rw [ih]
    show _ = d v + (sumU _ (m + 1) + (if 0 < m + 1 ∧ P (m + 1) = v then acc P (m + 1) d (m + 1) else 0))
    by_cases e : P (m + 1) = v
    · rw [if_pos ⟨by omega, e⟩, hhi, ← e, upN_s]; omega
    · rw [if_neg (fun z => e z.2), upN_n (fun z => e z.symm)]; omega
theorem acc_tot {P : Nat → Nat} : ∀ (m : Nat) (d : Nat → Nat), (∀ u, 0 < u → u ≤ m → P u < u) → acc P m d 0 = sumU d (m + 1)
  | 0, d, _ => by show d 0 = 0 + d 0; omega
  | m + 1, d, hP => by
    have hPm := hP (m + 1) (by omega) (Nat.le_refl _)
    show acc P m _ 0 = sumU d (m + 1) + d (m + 1)
    rw [acc_tot m _ (fun u h1 h2 => hP u h1 (by omega))]
    have : sumU (upN d (P (m + 1)) (d (P (m + 1)) + d (m + 1))) (m + 1) = sumU (fun u => d u + (if u = P (m + 1) then d (m + 1) else 0)) (m + 1) := by
      refine sumU_c (m + 1) (fun u _ => ?_)
      by_cases e : u = P (m + 1)
      · rw [if_pos e, e, upN_s]
      · rw [if_neg e, upN_n e]; rfl
    rw [this, sumU_add, sumU_one (m + 1) hPm]
theorem le_sumU {f : Nat → Nat} {a : Nat} : ∀ n, a < n → f a ≤ sumU f n
  | 0, h => absurd h (by omega)
  | n + 1, h => by
    show f a ≤ sumU f n + f n
    by_cases e : a = n
    · rw [e]; omega
    · have := le_sumU (f := f) n (show a < n by omega); omega
/-- the sum of w over v and all below it -/
def wS (n : Nat) (P : Nat → Nat) (w : Nat → Nat) : Nat → Nat := acc P (n - 1) w
section ws
variable {n : Nat} {P : Nat → Nat} {w : Nat → Nat}
theorem wS_eq (hP : PB n P) (h0 : 0 < n) (v : Nat) : wS n P w v = w v + sumU (fun u => if 0 < u ∧ P u = v then wS n P w u else 0) n := by
  have h1 := acc_eq (n - 1) w v (P := P) (fun u h1 h2 => hP u h1 (by omega))
  rw [show n - 1 + 1 = n by omega] at h1
  exact h1
theorem wS_0 (hP : PB n P) (h0 : 0 < n) : wS n P w 0 = sumU w n := by
  have h1 := acc_tot (n - 1) w (P := P) (fun u h1 h2 => hP u h1 (by omega))
  rw [show n - 1 + 1 = n by omega] at h1
  exact h1
theorem wS_le (hP : PB n P) (h0 : 0 < n) : ∀ v, v < n → wS n P w v ≤ sumU w n := by
  intro v
  induction v using Nat.strongRecOn with
  | _ v ih =>
    intro hv
    rcases Nat.eq_zero_or_pos v with z | z
    · rw [z, wS_0 hP h0]; exact Nat.le_refl _
    · have hp := hP v z hv
      refine Nat.le_trans ?_ (ih (P v) hp (by omega))
      rw [wS_eq hP h0 (P v)]
      have := le_sumU (f := fun u => if 0 < u ∧ P u = P v then wS n P w u else 0) n hv
      have e : (if 0 < v ∧ P v = P v then wS n P w v else 0) = wS n P w v := if_pos ⟨z, rfl⟩
      have h3 : wS n P w v ≤ sumU (fun u => if 0 < u ∧ P u = P v then wS n P w u else 0) n := by
        have := this
        rw [e] at this
        exact this
      omega
end ws
/-! sums of ints over the children -/
abbrev chQ (P : Nat → Nat) (v : Nat) : Nat → Prop := fun u => 0 < u ∧ P u = v
theorem cfo_add {q : Nat → Prop} {f : Nat → Int32} {a : Int32} : ∀ n, cfo q (fun u b => b + f u) a n = a + cfo q (fun u b => b + f u) 0 n
  | 0 => by show a = a + 0; simp
  | n + 1 => by
    by_cases h : q n
    · rw [cfo_y h, cfo_y h, cfo_add n, Int32.add_assoc]
    · rw [cfo_n h, cfo_n h, cfo_add n]
theorem cfo_cg {α : Type} {q r : Nat → Prop} {g h : Nat → α → α} {a : α} : ∀ (n : Nat), (∀ u, u < n → (q u ↔ r u)) → (∀ u, u < n → q u → ∀ b, g u b = h u b) → cfo q g a n = cfo r h a n
  | 0, _, _ => rfl
  | n + 1, hq, hh => by
    have ih := cfo_cg (a := a) n (fun u hu => hq u (by omega)) (fun u hu => hh u (by omega))
    by_cases e : q n
    · rw [cfo_y e, cfo_y ((hq n (by omega)).mp e), ih, hh n (by omega) e]
    · rw [cfo_n e, cfo_n (fun z => e ((hq n (by omega)).mpr z)), ih]
/-! least changes: the class's way -/
theorem fcT_o {a v : Nat} {d : Int32} {g : Nat → Int32} {i : Nat} : ∀ k, (∀ s, s < k → ¬ i = a * 4 + s) → fcT a v d g k i = g i
  | 0, _ => rfl
  | k + 1, h => by
    show upd (fcT a v d g k) (a * 4 + k) _ i = g i
    rw [pk_un (h k (by omega)), fcT_o k (fun s hs => h s (by omega))]
theorem fcT_i {a v : Nat} {d : Int32} {g : Nat → Int32} {s : Nat} (hav : ¬ a = v) : ∀ k, s < k → k ≤ 4 → fcT a v d g k (a * 4 + s) = g (a * 4 + s) + mn (g (v * 4 + s)) d
  | 0, h, _ => absurd h (by omega)
  | k + 1, h, h4 => by
    show upd (fcT a v d g k) (a * 4 + k) _ (a * 4 + s) = _
    by_cases e : s = k
    · subst e
      rw [pk_us, fcT_o s (fun t ht => by omega), fcT_o s (fun t ht => by omega)]
    · rw [pk_un (by omega)]
      exact fcT_i hav k (by omega) (by omega)
theorem fcD_hi {P : Nat → Nat} : ∀ (m : Nat) (g : Nat → Int32) (i : Nat), (∀ u, 0 < u → u ≤ m → P u < u) → m * 4 ≤ i → fcD P m g i = g i
  | 0, _, _, _, _ => rfl
  | m + 1, g, i, hP, hi => by
    show fcD P m _ i = g i
    rw [fcD_hi m _ i (fun u h1 h2 => hP u h1 (by omega)) (by omega)]
    have := hP (m + 1) (by omega) (Nat.le_refl _)
    exact fcT_o 4 (fun s hs => by omega)
theorem fcD_eq {P : Nat → Nat} {s : Nat} (hs : s < 4) : ∀ (m : Nat) (g : Nat → Int32) (v : Nat), (∀ u, 0 < u → u ≤ m → P u < u) → fcD P m g (v * 4 + s) = g (v * 4 + s) + cfo (chQ P v) (fun u b => b + mn (fcD P m g (u * 4 + s)) (lcC (fcD P m g) u + nI 1)) 0 (m + 1)
  | 0, g, v, _ => by
    rw [cfo_n (show ¬ chQ P v 0 from fun z => absurd z.1 (by omega))]
    show g _ = g _ + 0
    simp
  | m + 1, g, v, hP => by
    have hPm := hP (m + 1) (by omega) (Nat.le_refl _)
    have hR : fcD P (m + 1) g = fcD P m (fcT (P (m + 1)) (m + 1) (lcC g (m + 1) + nI 1) g 4) := rfl
    have ih := fcD_eq hs m (fcT (P (m + 1)) (m + 1) (lcC g (m + 1) + nI 1) g 4) v (fun u h1 h2 => hP u h1 (by omega))
    rw [← hR] at ih
    have hhi : ∀ t, t < 4 → fcD P (m + 1) g ((m + 1) * 4 + t) = g ((m + 1) * 4 + t) := fun t ht => fcD_hi (m + 1) g _ hP (by omega)
    have hlc : lcC (fcD P (m + 1) g) (m + 1) = lcC g (m + 1) := by
      unfold lcC
      rw [show (m + 1) * 4 = (m + 1) * 4 + 0 from rfl, hhi 0 (by omega), hhi 1 (by omega), hhi 2 (by omega), hhi 3 (by omega)]
    rw [ih]
    by_cases e : P (m + 1) = v
    · rw [cfo_y (u := m + 1) (q := chQ P v) ⟨by omega, e⟩, hhi s hs, hlc, ← e, fcT_i (by omega) 4 (by omega) (by omega)]
      rw [Int32.add_assoc]
      congr 1
      rw [Int32.add_comm]
    · rw [cfo_n (u := m + 1) (q := chQ P v) (fun z => e z.2), fcT_o 4 (fun t ht => by omega)]
/-- a sum of small numbers is small -/
theorem cfo_nI {q : Nat → Prop} {f : Nat → Int32} {c : Nat → Nat} : ∀ n, (∀ u, u < n → q u → f u = nI (c u)) → cfo q (fun u b => b + f u) 0 n = nI (sumU (fun u => cI (q u) (c u) 0) n)
  | 0, _ => rfl
  | n + 1, h => by
    have ih := cfo_nI n (fun u hu => h u (by omega))
    show _ = nI (sumU _ n + cI (q n) (c n) 0)
    by_cases e : q n
    · rw [cfo_y e, ih, h n (by omega) e, cI_t e, nI_add]
    · rw [cfo_n e, ih, cI_f e, Nat.add_zero]
theorem mn_nI {a b : Nat} (ha : a < 2 ^ 31) (hb : b < 2 ^ 31) : mn (nI a) (nI b) = nI (min a b) := by
  unfold mn
  by_cases h : b < a
  · rw [if_pos ((nI_ltI hb ha).mpr h), Nat.min_eq_right (by omega)]
  · rw [if_neg (fun z => h ((nI_ltI hb ha).mp z)), Nat.min_eq_left (by omega)]
/-- both ways of the least with one change more -/
theorem bs_lc {t : Nat → Int32} {c : Nat → Nat} {q : Nat} (hq : q < 4) (h : ∀ p, p < 4 → t p = nI (c p) ∧ c p ≤ 50000) : bsU t q 4 = nI (min (c q) (min (min (min (c 0) (c 1)) (c 2)) (c 3) + 1)) := by
  have e : ∀ p, p < 4 → t p + (if p = q then nI 0 else nI 1) = nI (c p + (if p = q then 0 else 1)) := by
    intro p hp
    rw [(h p hp).1]
    split <;> rw [nI_add]
  have hb := fun p hp => (h p hp).2
  have b0 := hb 0 (by omega)
  have b1 := hb 1 (by omega)
  have b2 := hb 2 (by omega)
  have b3 := hb 3 (by omega)
  show mn (mn (mn (mn (nI 100000) _) _) _) _ = _
  rw [e 0 (by omega), e 1 (by omega), e 2 (by omega), e 3 (by omega)]
  have k0 : (if (0 : Nat) = q then 0 else 1) ≤ 1 := by split <;> omega
  have k1 : (if (1 : Nat) = q then 0 else 1) ≤ 1 := by split <;> omega
  have k2 : (if (2 : Nat) = q then 0 else 1) ≤ 1 := by split <;> omega
  have k3 : (if (3 : Nat) = q then 0 else 1) ≤ 1 := by split <;> omega
  rw [mn_nI (by omega) (by omega), mn_nI (by omega) (by omega), mn_nI (by omega) (by omega), mn_nI (by omega) (by omega)]
  congr 1
  rcases (show q = 0 ∨ q = 1 ∨ q = 2 ∨ q = 3 by omega) with rfl | rfl | rfl | rfl <;> simp <;> omega

/-! Counting: sums and maps below n -/
/-- an injection from below a into below b -/
theorem inj_le : ∀ (b a : Nat) (f : Nat → Nat), (∀ x, x < a → f x < b) → (∀ x y, x < a → y < a → f x = f y → x = y) → a ≤ b
  | 0, a, f, h1, _ => by
    rcases Nat.eq_zero_or_pos a with h | h
    · omega
    · exact absurd (h1 0 h) (by omega)
  | b + 1, a, f, h1, h2 => by
    -- who goes to b: taken out
    by_cases h : ∃ x, x < a ∧ f x = b
    · obtain ⟨x, hx, hxb⟩ := h
      have key := inj_le b (a - 1) (fun y => f (if y < x then y else y + 1)) (fun y hy => ?_) (fun y z hy hz e => ?_)
      · omega
      · show f _ < b
        have h3 : (if y < x then y else y + 1) < a := by split <;> omega
        have h4 := h1 _ h3
        have h5 : f (if y < x then y else y + 1) ≠ b := fun e => by
          have := h2 _ _ h3 hx (e.trans hxb.symm)
          split at this <;> omega
        omega
      · have h3 : (if y < x then y else y + 1) < a := by split <;> omega
        have h4 : (if z < x then z else z + 1) < a := by split <;> omega
        have := h2 _ _ h3 h4 e
        split at this <;> split at this <;> omega
    · have := inj_le b a f (fun x hx => by
        have h3 := h1 x hx
        have h4 : f x ≠ b := fun e => h ⟨x, hx, e⟩
        omega) h2
      omega
/-- sums below n -/
def sumU (f : Nat → Nat) : Nat → Nat
  | 0 => 0
  | k + 1 => sumU f k + f k
theorem sumU_c {f g : Nat → Nat} : ∀ n, (∀ k, k < n → f k = g k) → sumU f n = sumU g n
  | 0, _ => rfl
  | n + 1, h => by
    show sumU f n + f n = sumU g n + g n
    rw [sumU_c n (fun k hk => h k (by omega)), h n (by omega)]
theorem sumU_le {f g : Nat → Nat} : ∀ n, (∀ k, k < n → f k ≤ g k) → sumU f n ≤ sumU g n
  | 0, _ => Nat.le_refl _
  | n + 1, h => by
    show sumU f n + f n ≤ sumU g n + g n
    have h1 := sumU_le n (fun k hk => h k (by omega))
    have h2 := h n (by omega)
    omega
theorem sumU_add {f g : Nat → Nat} : ∀ n, sumU (fun k => f k + g k) n = sumU f n + sumU g n
  | 0 => rfl
  | n + 1 => by
    show sumU (fun k => f k + g k) n + (f n + g n) = sumU f n + f n + (sumU g n + g n)
    rw [sumU_add n]; omega
theorem sumU_0 : ∀ n, sumU (fun _ => 0) n = 0
  | 0 => rfl
  | n + 1 => by show sumU (fun _ => 0) n + 0 = 0; rw [sumU_0 n]
theorem sumU_k {c : Nat} : ∀ n, sumU (fun _ => c) n = c * n
  | 0 => rfl
  | n + 1 => by show sumU (fun _ => c) n + c = c * (n + 1); rw [sumU_k n, Nat.mul_succ]
/-- exactly one place counts -/
theorem sumU_one {a : Nat} {x : Nat} : ∀ n, a < n → sumU (fun k => if k = a then x else 0) n = x
  | 0, h => absurd h (by omega)
  | n + 1, h => by
    show sumU (fun k => if k = a then x else 0) n + (if n = a then x else 0) = x
    by_cases e : n = a
    · rw [if_pos e]
      rw [sumU_c n (g := fun _ => 0) (fun k hk => if_neg (by omega)), sumU_0]
      omega
    · rw [if_neg e, sumU_one n (by omega), Nat.add_zero]
/-- sums in another order -/
theorem sumU_swap {f : Nat → Nat → Nat} {m : Nat} : ∀ n, sumU (fun a => sumU (f a) m) n = sumU (fun b => sumU (fun a => f a b) n) m
  | 0 => (sumU_0 m).symm
  | n + 1 => by
    show sumU (fun a => sumU (f a) m) n + sumU (f n) m = sumU (fun b => sumU (fun a => f a b) n + f n b) m
    rw [sumU_swap n, sumU_add]
theorem cnt_sm {q : Nat → Prop} : ∀ n, cntU q n = sumU (fun k => cI (q k) 1 0) n
  | 0 => rfl
  | n + 1 => by
    show cntU q (n + 1) = sumU (fun k => cI (q k) 1 0) n + cI (q n) 1 0
    by_cases h : q n
    · rw [cntU_y h, cI_t h, cnt_sm n]
    · rw [cntU_n h, cI_f h, cnt_sm n, Nat.add_zero]
theorem cnt_c {q r : Nat → Prop} : ∀ n, (∀ k, k < n → (q k ↔ r k)) → cntU q n = cntU r n
  | 0, _ => rfl
  | n + 1, h => by
    have h1 := cnt_c n (fun k hk => h k (by omega))
    by_cases e : q n
    · rw [cntU_y e, cntU_y ((h n (by omega)).mp e), h1]
    · rw [cntU_n e, cntU_n (fun q => e ((h n (by omega)).mpr q)), h1]
theorem cnt_mono {q r : Nat → Prop} : ∀ n, (∀ k, k < n → q k → r k) → cntU q n ≤ cntU r n
  | 0, _ => Nat.le_refl _
  | n + 1, h => by
    have h1 := cnt_mono n (fun k hk => h k (by omega))
    by_cases e : q n
    · rw [cntU_y e, cntU_y (h n (by omega) e)]; omega
    · rw [cntU_n e]
      by_cases e2 : r n
      · rw [cntU_y e2]; omega
      · rw [cntU_n e2]; exact h1
theorem cnt_pos {q : Nat → Prop} {a : Nat} : ∀ n, a < n → q a → 0 < cntU q n
  | 0, h, _ => absurd h (by omega)
  | n + 1, h, hq => by
    by_cases e : a = n
    · subst e; rw [cntU_y hq]; omega
    · have := cnt_pos n (show a < n by omega) hq
      by_cases e2 : q n
      · rw [cntU_y e2]; omega
      · rw [cntU_n e2]; exact this
theorem cnt_two {q : Nat → Prop} {a b : Nat} : ∀ n, a < b → b < n → q a → q b → 2 ≤ cntU q n
  | 0, _, h, _, _ => absurd h (by omega)
  | n + 1, h1, h2, ha, hb => by
    by_cases e : b = n
    · subst e
      rw [cntU_y hb]
      have := cnt_pos (q := q) b h1 ha
      omega
    · have := cnt_two n h1 (show b < n by omega) ha hb
      by_cases e2 : q n
      · rw [cntU_y e2]; omega
      · rw [cntU_n e2]; exact this
/-- a bijection of what is below n -/
def Bij (n : Nat) (π ρ : Nat → Nat) : Prop := ∀ v, v < n → π v < n ∧ ρ v < n ∧ ρ (π v) = v ∧ π (ρ v) = v
theorem Bij.symm {n : Nat} {π ρ : Nat → Nat} (h : Bij n π ρ) : Bij n ρ π := fun v hv => ⟨(h v hv).2.1, (h v hv).1, (h v hv).2.2.2, (h v hv).2.2.1⟩
theorem Bij_id (n : Nat) : Bij n id id := fun v hv => ⟨hv, hv, rfl, rfl⟩
theorem Bij.inj {n : Nat} {π ρ : Nat → Nat} (h : Bij n π ρ) {a b : Nat} (ha : a < n) (hb : b < n) (e : π a = π b) : a = b := by
  rw [← (h a ha).2.2.1, e, (h b hb).2.2.1]
theorem Bij.perm {n : Nat} {π ρ : Nat → Nat} (h : Bij n π ρ) : ((List.range n).map π).Perm (List.range n) := by
  have hnd : ((List.range n).map π).Nodup := by
    refine List.pairwise_map.mpr ?_
    refine List.Pairwise.imp_of_mem ?_ List.nodup_range
    intro a b ha hb hne e
    exact hne (h.inj (List.mem_range.mp ha) (List.mem_range.mp hb) e)
  refine (List.perm_ext_iff_of_nodup hnd List.nodup_range).mpr (fun a => ?_)
  rw [List.mem_map, List.mem_range]
  constructor
  · rintro ⟨b, hb, rfl⟩
    exact (h b (List.mem_range.mp hb)).1
  · intro ha
    exact ⟨ρ a, List.mem_range.mpr (h a ha).2.1, (h a ha).2.2.2⟩
theorem sumU_l {f : Nat → Nat} : ∀ n, sumU f n = ((List.range n).map f).sum
  | 0 => rfl
  | n + 1 => by
    rw [List.range_succ, List.map_append, List.sum_append_nat, ← sumU_l n]
    simp [sumU]
theorem sumU_bij {n : Nat} {π ρ : Nat → Nat} (h : Bij n π ρ) (f : Nat → Nat) : sumU (fun k => f (π k)) n = sumU f n := by
  rw [sumU_l, sumU_l, show (fun k => f (π k)) = f ∘ π from rfl, ← List.map_map]
  exact (h.perm.map f).sum_nat
theorem cnt_bij {n : Nat} {π ρ : Nat → Nat} (h : Bij n π ρ) (q : Nat → Prop) : cntU (fun k => q (π k)) n = cntU q n := by
  rw [cnt_sm, cnt_sm]
  exact sumU_bij h (fun k => cI (q k) 1 0)
/-! folds over the places below n where q holds -/
theorem cfo_l {α : Type} {q : Nat → Prop} {g : Nat → α → α} {a : α} : ∀ n, cfo q g a n = (List.range n).foldl (fun b u => cI (q u) (g u b) b) a
  | 0 => rfl
  | n + 1 => by
    rw [List.range_succ, List.foldl_append, ← cfo_l n]
    rfl
theorem cfo_bij {α : Type} {n : Nat} {π ρ : Nat → Nat} (h : Bij n π ρ) {q q9 : Nat → Prop} {g g9 : Nat → α → α} {a : α} (hq : ∀ u, u < n → (q u ↔ q9 (π u))) (hg : ∀ u, u < n → q u → ∀ b, g u b = g9 (π u) b) (hc : ∀ u v, u < n → v < n → q9 u → q9 v → ∀ b, g9 u (g9 v b) = g9 v (g9 u b)) : cfo q g a n = cfo q9 g9 a n := by
  rw [cfo_l, cfo_l]
  have h1 : (List.range n).foldl (fun b u => cI (q u) (g u b) b) a = (List.range n).foldl (fun b u => cI (q9 (π u)) (g9 (π u) b) b) a := by
    have key : ∀ (l : List Nat) (b : α), (∀ u, u ∈ l → u < n) → l.foldl (fun b u => cI (q u) (g u b) b) b = l.foldl (fun b u => cI (q9 (π u)) (g9 (π u) b) b) b := by
      intro l
      induction l with
      | nil => intro b _; rfl
      | cons x l ih =>
        intro b hl
        rw [List.foldl_cons, List.foldl_cons]
        have hx := hl x List.mem_cons_self
        have e : cI (q x) (g x b) b = cI (q9 (π x)) (g9 (π x) b) b := by
          by_cases z : q x
          · rw [cI_t z, cI_t ((hq x hx).mp z), hg x hx z]
          · rw [cI_f z, cI_f (fun y => z ((hq x hx).mpr y))]
        rw [e]
        exact ih _ (fun u hu => hl u (List.mem_cons_of_mem _ hu))
    exact key _ a (fun u hu => List.mem_range.mp hu)
  rw [h1]
  have h2 : (List.range n).foldl (fun b u => cI (q9 (π u)) (g9 (π u) b) b) a = ((List.range n).map π).foldl (fun b u => cI (q9 u) (g9 u b) b) a := by
    rw [List.foldl_map]
  rw [h2]
  refine List.Perm.foldl_eq' h.perm ?_ a
  intro x hx y hy b
  have hx2 : x < n := List.mem_range.mp (h.perm.mem_iff.mp hx)
  have hy2 : y < n := List.mem_range.mp (h.perm.mem_iff.mp hy)
  by_cases e1 : q9 x
  · by_cases e2 : q9 y
    · rw [cI_t e1, cI_t e2, cI_t e2, cI_t e1]
      exact hc y x hy2 hx2 e2 e1 b
    · rw [cI_f e2, cI_f e2]
  · rw [cI_f e1, cI_f e1]

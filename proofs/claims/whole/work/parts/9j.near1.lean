/-! nearest: sums, halves, the two scans -/
def gs (f : Nat → Int64) : Nat → Int64
  | 0 => 0
  | n + 1 => gs f n + f n
theorem gs_c {f g : Nat → Int64} : ∀ n, (∀ k, k < n → f k = g k) → gs f n = gs g n
  | 0, _ => rfl
  | n + 1, h => by
    show gs f n + f n = gs g n + g n
    rw [gs_c n (fun k hk => h k (by omega)), h n (by omega)]
theorem gs_0 {f : Nat → Int64} : ∀ n, (∀ k, k < n → f k = 0) → gs f n = 0
  | 0, _ => rfl
  | n + 1, h => by
    show gs f n + f n = 0
    rw [gs_0 n (fun k hk => h k (by omega)), h n (by omega)]
    rfl
theorem gs_ad {f g : Nat → Int64} : ∀ n, gs (fun k => f k + g k) n = gs f n + gs g n
  | 0 => rfl
  | n + 1 => by
    show gs (fun k => f k + g k) n + (f n + g n) = (gs f n + f n) + (gs g n + g n)
    rw [gs_ad n, Int64.add_assoc, Int64.add_assoc, ← Int64.add_assoc (gs g n), ← Int64.add_assoc (f n), Int64.add_comm (gs g n) (f n)]
theorem gs_sw {F : Nat → Nat → Int64} {N : Nat} : ∀ m, gs (fun k => gs (F k) N) m = gs (fun p => gs (fun k => F k p) m) N
  | 0 => (gs_0 N (fun _ _ => rfl)).symm
  | m + 1 => by
    show gs (fun k => gs (F k) N) m + gs (F m) N = gs (fun p => gs (fun k => F k p) m + F m p) N
    rw [gs_sw m, ← gs_ad]
theorem gs_1 {f : Nat → Int64} {k0 : Nat} : ∀ n, k0 < n → (∀ k, k < n → ¬ k = k0 → f k = 0) → gs f n = f k0
  | 0, h, _ => absurd h (by omega)
  | n + 1, h, hz => by
    show gs f n + f n = f k0
    by_cases e : k0 = n
    · subst e
      rw [gs_0 k0 (fun k hk => hz k (by omega) (by omega)), Int64.zero_add]
    · rw [gs_1 n (by omega) (fun k hk => hz k (by omega)), hz n (by omega) (fun z => e z.symm), Int64.add_zero]
theorem sg_gs {c : Nat → Int32} {y : Nat → Int64} {i : Nat} : ∀ n, sgS c y i n = gs (fun k => cI (¬ k = i ∧ ¬ c k = 0) (y (i * 12 + k)) 0) n
  | 0 => rfl
  | n + 1 => by
    show _ = gs _ n + cI (¬ n = i ∧ ¬ c n = 0) (y (i * 12 + n)) 0
    by_cases e : n = i
    · rw [sgS_a e, sg_gs n, cI_f (fun q => q.1 e), Int64.add_zero]
    · by_cases e2 : c n = 0
      · rw [sgS_b e2, sg_gs n, cI_f (fun q => q.2 e2), Int64.add_zero]
      · rw [sgS_n e e2, sg_gs n, cI_t ⟨e, e2⟩]
theorem nq_gs {b : Nat → Int32} {d : Nat → Int64} {i : Nat} : ∀ n, nqS b d i n = gs (fun k => cI (nqA b k ∧ ¬ k = i) (d (24 * i + k)) 0) n
  | 0 => rfl
  | n + 1 => by
    show nqS b d i n + cI (nqA b n ∧ ¬ n = i) (d (24 * i + n)) 0 = gs _ n + cI (nqA b n ∧ ¬ n = i) (d (24 * i + n)) 0
    rw [nq_gs n]
/-! halves -/
theorem bm64 (x : Int) : ∃ k : Int, x.bmod (2 ^ 64) = x + 18446744073709551616 * k := by
  rw [Int.bmod_def]
  by_cases h : x % ((2 ^ 64 : Nat) : Int) < (((2 ^ 64 : Nat) : Int) + 1) / 2
  · rw [if_pos h]
    exact ⟨-(x / 18446744073709551616), by omega⟩
  · rw [if_neg h]
    exact ⟨-(x / 18446744073709551616) - 1, by omega⟩
def Dv (j : Nat) (v : Int64) : Prop := v.toInt % (2 ^ j : Int) = 0
theorem Dv_s {j : Nat} (hj : j < 12) {v : Int64} (h : Dv (j + 1) v) : Dv j v := by
  unfold Dv at h ⊢
  have e : j = 0 ∨ j = 1 ∨ j = 2 ∨ j = 3 ∨ j = 4 ∨ j = 5 ∨ j = 6 ∨ j = 7 ∨ j = 8 ∨ j = 9 ∨ j = 10 ∨ j = 11 := by omega
  rcases e with e | e | e | e | e | e | e | e | e | e | e | e <;> subst e <;> omega
theorem Dv_3 {j : Nat} (hj : j < 12) {a b x : Int64} (ha : Dv (j + 1) a) (hb : Dv (j + 1) b) (hx : Dv (j + 1) x) : Dv (j + 1) (a + b - x) := by
  unfold Dv at *
  rw [Int64.toInt_sub, Int64.toInt_add]
  obtain ⟨k1, e1⟩ := bm64 (a.toInt + b.toInt)
  rw [e1]
  obtain ⟨k2, e2⟩ := bm64 (a.toInt + b.toInt + 18446744073709551616 * k1 - x.toInt)
  rw [e2]
  have e : j = 0 ∨ j = 1 ∨ j = 2 ∨ j = 3 ∨ j = 4 ∨ j = 5 ∨ j = 6 ∨ j = 7 ∨ j = 8 ∨ j = 9 ∨ j = 10 ∨ j = 11 := by omega
  rcases e with e | e | e | e | e | e | e | e | e | e | e | e <;> subst e <;> omega
theorem sh_1 {v : Int64} : (v >>> ((nI 1).toInt64 &&& 63)).toInt = v.toInt / 2 := by
  have e : ((nI 1).toInt64 &&& 63) = 1 := by decide +kernel
  have e3 : ((1 : Int64).toBitVec.smod 64).toNat = 1 := by decide +kernel
  rw [e]
  show (v.toBitVec.sshiftRight ((1 : Int64).toBitVec.smod 64).toNat).toInt = v.toInt / 2
  rw [e3, BitVec.toInt_sshiftRight, Int.shiftRight_eq_div_pow]
  rfl
theorem dv_2 {v : Int64} (h : v.toInt % 2 = 0) : (v / 2).toInt = v.toInt / 2 := by
  have hl := v.le_toInt
  have hu := v.toInt_lt
  rw [Int64.toInt_div, show (2 : Int64).toInt = 2 from rfl]
  have ht : v.toInt.tdiv 2 = v.toInt / 2 := by
    obtain ⟨w, hw⟩ : ∃ w, v.toInt = 2 * w := ⟨v.toInt / 2, by omega⟩
    rw [hw, Int.mul_tdiv_cancel_left _ (by decide), Int.mul_ediv_cancel_left _ (by decide)]
  rw [ht]
  obtain ⟨k, e⟩ := bm64 (v.toInt / 2)
  have h1 := Int.le_bmod (x := v.toInt / 2) (m := 2 ^ 64) (by decide)
  have h2 := Int.bmod_lt (x := v.toInt / 2) (m := 2 ^ 64) (by decide)
  omega
/-- halving is exact: a shift is a division -/
theorem half_eq {j : Nat} (hj : j < 12) {v : Int64} (h : Dv (j + 1) v) : v >>> ((nI 1).toInt64 &&& 63) = v / 2 ∧ Dv j (v >>> ((nI 1).toInt64 &&& 63)) := by
  have h2 : v.toInt % 2 = 0 := by
    unfold Dv at h
    have e : j = 0 ∨ j = 1 ∨ j = 2 ∨ j = 3 ∨ j = 4 ∨ j = 5 ∨ j = 6 ∨ j = 7 ∨ j = 8 ∨ j = 9 ∨ j = 10 ∨ j = 11 := by omega
    rcases e with e | e | e | e | e | e | e | e | e | e | e | e <;> subst e <;> omega
  refine ⟨Int64.toInt_inj.mp (by rw [sh_1, dv_2 h2]), ?_⟩
  unfold Dv at h ⊢
  rw [sh_1]
  have e : j = 0 ∨ j = 1 ∨ j = 2 ∨ j = 3 ∨ j = 4 ∨ j = 5 ∨ j = 6 ∨ j = 7 ∨ j = 8 ∨ j = 9 ∨ j = 10 ∨ j = 11 := by omega
  rcases e with e | e | e | e | e | e | e | e | e | e | e | e <;> subst e <;> omega
/-- times 4096 -/
theorem t4096 (x : Int64) : x <<< ((nI 12).toInt64 &&& 63) = 4096 * x ∧ Dv 12 (4096 * x) := by
  constructor
  · have e : ((nI 12).toInt64 &&& 63) = 12 := by decide +kernel
    have e3 : ((12 : Int64).toBitVec.smod 64).toNat = 12 := by decide +kernel
    have e4 : BitVec.twoPow 64 12 = (4096 : Int64).toBitVec := by decide +kernel
    rw [e]
    refine Int64.toBitVec_inj.mp ?_
    show x.toBitVec <<< ((12 : Int64).toBitVec.smod 64) = (4096 : Int64).toBitVec * x.toBitVec
    rw [BitVec.shiftLeft_eq', e3, BitVec.shiftLeft_eq_mul_twoPow, e4, BitVec.mul_comm]
  · unfold Dv
    rw [Int64.toInt_mul, show (4096 : Int64).toInt = 4096 from rfl]
    obtain ⟨k, e⟩ := bm64 (4096 * x.toInt)
    rw [e]
    omega
/-! merging -/
section mg
variable {c : Nat → Int32} {a b : Nat} {x : Int64} {y : Nat → Int64}
abbrev mgH (a b : Nat) (x : Int64) (y : Nat → Int64) (k : Nat) : Int64 := ((y (a * 12 + k) + y (b * 12 + k)) - x) >>> ((nI 1).toInt64 &&& 63)
theorem mg_sp (hab : ¬ a = b) (ha : a < 12) (hb : b < 12) : ∀ k, k ≤ 12 → (∀ j, j < k → ¬ j = a → ¬ j = b → ¬ c j = 0 → mgU c a b x y k (a * 12 + j) = mgH a b x y j ∧ mgU c a b x y k (j * 12 + a) = mgH a b x y j) ∧ ∀ r q, r < 12 → q < 12 → ¬ (r = a ∧ q < k ∧ ¬ q = a) → ¬ (q = a ∧ r < k ∧ ¬ r = a) → mgU c a b x y k (r * 12 + q) = y (r * 12 + q)
  | 0, _ => ⟨fun j h => absurd h (by omega), fun _ _ _ _ _ _ => rfl⟩
  | k + 1, hk => by
    obtain ⟨h1, h2⟩ := mg_sp hab ha hb k (by omega)
    show (∀ j, j < k + 1 → ¬ j = a → ¬ j = b → ¬ c j = 0 → mgS c a b x k (mgU c a b x y k) (a * 12 + j) = mgH a b x y j ∧ mgS c a b x k (mgU c a b x y k) (j * 12 + a) = mgH a b x y j) ∧ ∀ r q, r < 12 → q < 12 → ¬ (r = a ∧ q < k + 1 ∧ ¬ q = a) → ¬ (q = a ∧ r < k + 1 ∧ ¬ r = a) → mgS c a b x k (mgU c a b x y k) (r * 12 + q) = y (r * 12 + q)
    by_cases e : k = a ∨ k = b ∨ c k = 0
    · rw [mgS_y e]
      refine ⟨fun j hj ja jb jc => h1 j ?_ ja jb jc, fun r q hr hq z1 z2 => h2 r q hr hq (by omega) (by omega)⟩
      rcases e with e | e | e
      · omega
      · omega
      · by_cases z : j = k
        · subst z; exact absurd e jc
        · omega
    · have ka : ¬ k = a := fun q => e (Or.inl q)
      have kb : ¬ k = b := fun q => e (Or.inr (Or.inl q))
      have kc : ¬ c k = 0 := fun q => e (Or.inr (Or.inr q))
      have e1 := h2 a k ha (by omega) (by omega) (by omega)
      have e2 := h2 b k hb (by omega) (by omega) (by omega)
      rw [mgS_n ka kb kc, e1, e2]
      constructor
      · intro j hj ja jb jc
        by_cases z : j = k
        · subst z
          exact ⟨by rw [pk_uLn (by omega), pk_uLs], pk_uLs⟩
        · have := h1 j (by omega) ja jb jc
          exact ⟨by rw [pk_uLn (by omega), pk_uLn (by omega)]; exact this.1, by rw [pk_uLn (by omega), pk_uLn (by omega)]; exact this.2⟩
      · intro r q hr hq z1 z2
        rw [pk_uLn (by omega), pk_uLn (by omega)]
        exact h2 r q hr hq (by omega) (by omega)
end mg
section nf
variable {x y m : Nat} {d : Nat → Int64}
theorem nf_sp (hx : x < m) (hy : y < m) (hm : m < 24) : ∀ k, k ≤ m → (∀ j, j < k → nqF x y m d k (24 * m + j) = (d (24 * x + j) + d (24 * y + j) - d (24 * x + y)) / 2 ∧ nqF x y m d k (24 * j + m) = (d (24 * x + j) + d (24 * y + j) - d (24 * x + y)) / 2) ∧ ∀ r q, r < m → q < m → nqF x y m d k (24 * r + q) = d (24 * r + q)
  | 0, _ => ⟨fun j h => absurd h (by omega), fun _ _ _ _ => rfl⟩
  | k + 1, hk => by
    obtain ⟨h1, h2⟩ := nf_sp hx hy hm k (by omega)
    have e1 := h2 x k hx (by omega)
    have e2 := h2 y k hy (by omega)
    have e3 := h2 x y hx hy
    have hs : nqF x y m d (k + 1) = vp_updL (vp_updL (nqF x y m d k) (24 * m + k) ((d (24 * x + k) + d (24 * y + k) - d (24 * x + y)) / 2)) (24 * k + m) ((d (24 * x + k) + d (24 * y + k) - d (24 * x + y)) / 2) := by
      show vp_updL (vp_updL (nqF x y m d k) (24 * m + k) ((nqF x y m d k (24 * x + k) + nqF x y m d k (24 * y + k) - nqF x y m d k (24 * x + y)) / 2)) (24 * k + m) (vp_updL (nqF x y m d k) (24 * m + k) ((nqF x y m d k (24 * x + k) + nqF x y m d k (24 * y + k) - nqF x y m d k (24 * x + y)) / 2) (24 * m + k)) = _
      rw [pk_uLs, e1, e2, e3]
    rw [hs]
    constructor
    · intro j hj
      by_cases z : j = k
      · subst z
        exact ⟨by rw [pk_uLn (by omega), pk_uLs], pk_uLs⟩
      · have := h1 j (by omega)
        exact ⟨by rw [pk_uLn (by omega), pk_uLn (by omega)]; exact this.1, by rw [pk_uLn (by omega), pk_uLn (by omega)]; exact this.2⟩
    · intro r q hr hq
      rw [pk_uLn (by omega), pk_uLn (by omega)]
      exact h2 r q hr hq
end nf
theorem cnt_rm {q : Nat → Prop} {b : Nat} : ∀ n, cntU q n ≤ cntU (fun p => q p ∧ ¬ p = b) n + (if b < n then 1 else 0)
  | 0 => by exact Nat.zero_le _
  | n + 1 => by
    have ih := cnt_rm (q := q) (b := b) n
    by_cases h : q n
    · rw [cntU_y h]
      by_cases e : n = b
      · subst e
        rw [cntU_n (fun z => z.2 rfl), if_pos (by omega)]
        rw [if_neg (by omega)] at ih
        omega
      · rw [cntU_y (q := fun p => q p ∧ ¬ p = b) ⟨h, e⟩]
        by_cases z : b < n
        · rw [if_pos z] at ih; rw [if_pos (by omega)]; omega
        · rw [if_neg z] at ih; rw [if_neg (by omega)]; omega
    · rw [cntU_n h, cntU_n (q := fun p => q p ∧ ¬ p = b) (fun z => h z.1)]
      by_cases z : b < n
      · rw [if_pos z] at ih; rw [if_pos (by omega)]; omega
      · rw [if_neg z] at ih
        omega

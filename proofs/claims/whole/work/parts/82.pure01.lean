/-! Sets of kinds as bits -/
/-- k is in x -/
def In (k : Nat) (x : Int32) : Prop := x.toBitVec.getLsbD k = true
theorem In_or {k : Nat} {x y : Int32} : In k (x ||| y) ↔ In k x ∨ In k y := by
  unfold In
  rw [Int32.toBitVec_or, BitVec.getLsbD_or, Bool.or_eq_true]
theorem In_and {k : Nat} {x y : Int32} : In k (x &&& y) ↔ In k x ∧ In k y := by
  unfold In
  rw [Int32.toBitVec_and, BitVec.getLsbD_and, Bool.and_eq_true]
theorem In_32 {k : Nat} {x : Int32} (h : In k x) : k < 32 := by
  unfold In at h
  rcases Nat.lt_or_ge k 32 with q | q
  · exact q
  · rw [BitVec.getLsbD_of_ge _ _ q] at h
    exact absurd h (by decide)
theorem In_m1 {k : Nat} : In k (-1 : Int32) ↔ k < 32 := by
  refine ⟨In_32, fun h => ?_⟩
  unfold In
  rw [show ((-1 : Int32)).toBitVec = BitVec.allOnes 32 by decide, BitVec.getLsbD_allOnes]
  exact decide_eq_true h
theorem In_not {k : Nat} {x : Int32} : In k (x ^^^ (-1)) ↔ k < 32 ∧ ¬ In k x := by
  unfold In
  rw [Int32.toBitVec_xor, BitVec.getLsbD_xor, show ((-1 : Int32)).toBitVec = BitVec.allOnes 32 by decide, BitVec.getLsbD_allOnes]
  by_cases h : k < 32
  · rw [decide_eq_true h]
    cases x.toBitVec.getLsbD k <;> simp [h]
  · rw [decide_eq_false h, BitVec.getLsbD_of_ge _ _ (by omega)]
    simp [h]
theorem In_ext {x y : Int32} (h : ∀ k, k < 32 → (In k x ↔ In k y)) : x = y := by
  refine Int32.toBitVec_inj.mp (BitVec.eq_of_getLsbD_eq fun i hi => ?_)
  have := h i hi
  unfold In at this
  cases hx : x.toBitVec.getLsbD i <;> cases hy : y.toBitVec.getLsbD i <;> simp [hx, hy] at this ⊢
theorem In_0 {k : Nat} : ¬ In k (0 : Int32) := by
  unfold In
  rw [show ((0 : Int32)).toBitVec = 0#32 by decide, BitVec.getLsbD_zero]
  decide
theorem In_ne {x : Int32} (h : ¬ x = 0) : ∃ k, k < 32 ∧ In k x := by
  refine Classical.byContradiction (fun hc => h (In_ext (fun k hk => ?_)))
  exact ⟨fun q => absurd ⟨k, hk, q⟩ hc, fun q => absurd q In_0⟩
theorem bit_eq : ∀ k : Fin 12, (bitI k.val).toBitVec = BitVec.twoPow 32 k.val := by decide +kernel
theorem In_bit {k j : Nat} (h : k < 12) : In j (bitI k) ↔ j = k := by
  unfold In
  rw [bit_eq ⟨k, h⟩, BitVec.getLsbD_twoPow]
  simp
  omega
/-- x within y -/
abbrev Sb (x y : Int32) : Prop := ∀ k, In k x → In k y
theorem sb_not {x y : Int32} : x &&& (y ^^^ (-1)) = 0 ↔ Sb x y := by
  constructor
  · intro h k hk
    refine Classical.byContradiction (fun hn => ?_)
    have : In k (x &&& (y ^^^ (-1))) := In_and.mpr ⟨hk, In_not.mpr ⟨In_32 hk, hn⟩⟩
    rw [h] at this
    exact In_0 this
  · intro h
    refine In_ext (fun k _ => ⟨fun q => ?_, fun q => absurd q In_0⟩)
    rw [In_and, In_not] at q
    exact absurd (h k q.1) q.2.2
theorem sb_and {x y : Int32} : y &&& x = x ↔ Sb x y := by
  constructor
  · intro h k hk
    rw [← h, In_and] at hk
    exact hk.1
  · intro h
    exact In_ext (fun k _ => ⟨fun q => (In_and.mp q).2, fun q => In_and.mpr ⟨h k q, q⟩⟩)
theorem sb_and2 {x y : Int32} : x &&& y = x ↔ Sb x y := by
  rw [Int32.and_comm]; exact sb_and
theorem dj_and {x y : Int32} : x &&& y = 0 ↔ ∀ k, In k x → ¬ In k y := by
  constructor
  · intro h k h1 h2
    have : In k (x &&& y) := In_and.mpr ⟨h1, h2⟩
    rw [h] at this
    exact In_0 this
  · intro h
    exact In_ext (fun k _ => ⟨fun q => absurd (In_and.mp q).2 (h k (In_and.mp q).1), fun q => absurd q In_0⟩)
theorem sb_eq {x y : Int32} (h1 : Sb x y) (h2 : Sb y x) : x = y := In_ext (fun k _ => ⟨h1 k, h2 k⟩)
/-- a set of the twelve kinds -/
abbrev Ks (x : Int32) : Prop := ∀ k, In k x → k < 12
theorem Ks_n {x : Int32} (h : Ks x) : ∃ n, n < 4096 ∧ x = nI n := by
  refine ⟨x.toBitVec.toNat, ?_, ?_⟩
  · refine Nat.lt_pow_two_of_testBit (n := 12) _ (fun j hj => ?_)
    have := mt (h j) (by omega)
    unfold In at this
    rw [BitVec.getLsbD] at this
    simpa using this
  · exact Int32.toBitVec_inj.mp (by simp [nI, Int32.ofNat])
theorem n_Ks {n : Nat} (h : n < 4096) : Ks (nI n) := by
  intro k hk
  unfold In at hk
  refine Classical.byContradiction (fun hn => ?_)
  rw [show (nI n).toBitVec = BitVec.ofNat 32 n from rfl, BitVec.getLsbD_ofNat] at hk
  have h2 : n < 2 ^ k := Nat.lt_of_lt_of_le h (Nat.pow_le_pow_right (n := 2) (by decide) (show 12 ≤ k by omega))
  rw [Nat.testBit_lt_two_pow h2] at hk
  simp at hk
/-- how many -/
def pcF (x : Int32) : Nat → Nat
  | 0 => 0
  | k + 1 => pcF x k + (if x.toBitVec.getLsbD k = true then 1 else 0)
abbrev pcn (x : Int32) : Nat := pcF x 12
theorem fin4096 {P : Nat → Prop} (h : ∀ a b : Fin 64, P (64 * a.val + b.val)) : ∀ n, n < 4096 → P n := by
  intro n hn
  have := h ⟨n / 64, by omega⟩ ⟨n % 64, by omega⟩
  rwa [show 64 * (n / 64) + n % 64 = n by omega] at this
theorem bC_all : ∀ a b : Fin 64, bC (nI (64 * a.val + b.val)) = nI (pcn (nI (64 * a.val + b.val))) := by decide +kernel
theorem bC_pc {x : Int32} (h : Ks x) : bC x = nI (pcn x) := by
  obtain ⟨n, hn, rfl⟩ := Ks_n h
  exact fin4096 (P := fun n => bC (nI n) = nI (pcn (nI n))) bC_all n hn
theorem pcF_le {x : Int32} : ∀ k, pcF x k ≤ k
  | 0 => Nat.le_refl _
  | k + 1 => by
    have := pcF_le (x := x) k
    show pcF x k + _ ≤ _
    split <;> omega
theorem pcF_mono {x y : Int32} (h : Sb x y) : ∀ k, pcF x k ≤ pcF y k
  | 0 => Nat.le_refl _
  | k + 1 => by
    have h1 := pcF_mono h k
    have h2 : In k x → In k y := h k
    unfold In at h2
    show pcF x k + _ ≤ pcF y k + _
    split
    · rename_i q; rw [if_pos (h2 q)]; omega
    · omega
theorem pcF_eq {x y : Int32} (h : Sb x y) : ∀ k, pcF x k = pcF y k → ∀ j, j < k → In j y → In j x
  | 0, _, _, hj, _ => absurd hj (by omega)
  | k + 1, he, j, hj, hy => by
    have h1 := pcF_mono h k
    have h2 : In k x → In k y := h k
    have he2 : pcF x k + (if x.toBitVec.getLsbD k = true then 1 else 0) = pcF y k + (if y.toBitVec.getLsbD k = true then 1 else 0) := he
    have h3 : (if x.toBitVec.getLsbD k = true then 1 else 0) ≤ (if y.toBitVec.getLsbD k = true then 1 else 0) := by
      split
      · rename_i q; rw [if_pos (show y.toBitVec.getLsbD k = true from h2 q)]; exact Nat.le_refl _
      · omega
    by_cases e : j = k
    · subst e
      unfold In at hy ⊢
      rw [if_pos hy] at he2 h3
      refine Classical.byContradiction (fun hn => ?_)
      rw [if_neg hn] at he2
      omega
    · exact pcF_eq h k (by omega) j (by omega) hy
theorem pc_mono {x y : Int32} (h : Sb x y) : pcn x ≤ pcn y := pcF_mono h 12
theorem pc_eq {x y : Int32} (hy : Ks y) (h : Sb x y) (e : pcn x = pcn y) : x = y := sb_eq h (fun k hk => pcF_eq h 12 e k (hy k hk) hk)
theorem pc_lt {x y : Int32} (hy : Ks y) (h : Sb x y) (hn : ¬ x = y) : pcn x < pcn y := Nat.lt_of_le_of_ne (pc_mono h) (fun e => hn (pc_eq hy h e))
theorem pc_12 (x : Int32) : pcn x ≤ 12 := pcF_le 12
theorem nI_lt12 : ∀ a b : Fin 13, (nI a.val < nI b.val ↔ a.val < b.val) := by decide +kernel
theorem bC_lt {x y : Int32} (hx : Ks x) (hy : Ks y) : bC x < bC y ↔ pcn x < pcn y := by
  rw [bC_pc hx, bC_pc hy]
  exact nI_lt12 ⟨pcn x, by have := pc_12 x; omega⟩ ⟨pcn y, by have := pc_12 y; omega⟩
theorem kd_all : ∀ a b : Fin 64, mKd (nI (64 * a.val + b.val)) = kindUp (nI (64 * a.val + b.val)) 12 0 := by decide +kernel
theorem kd_eq {x : Int32} (h : Ks x) : mKd x = kindUp x 12 0 := by
  obtain ⟨n, hn, rfl⟩ := Ks_n h
  exact fin4096 (P := fun n => mKd (nI n) = kindUp (nI n) 12 0) kd_all n hn
/-- the least -/
def lsF (x : Int32) : Nat → Nat → Nat
  | 0, k => k
  | d + 1, k => if x.toBitVec.getLsbD k = true then k else lsF x d (k + 1)
abbrev ntzQ (n : Nat) : Prop := n = 0 ∨ (ntz (nI n) = nI (lsF (nI n) 12 0) ∧ lsF (nI n) 12 0 < 12)
theorem ntz_all : ∀ a b : Fin 64, ntzQ (64 * a.val + b.val) := by decide +kernel
theorem lsF_in {x : Int32} : ∀ d k, lsF x d k < k + d → In (lsF x d k) x ∧ ∀ j, k ≤ j → j < lsF x d k → ¬ In j x
  | 0, k, h => by have : k < k + 0 := h; omega
  | d + 1, k, h => by
    unfold lsF at h ⊢
    split
    · rename_i q; exact ⟨q, fun j h1 h2 => absurd h1 (by omega)⟩
    · rename_i q
      rw [if_neg q] at h
      have := lsF_in (x := x) d (k + 1) (by omega)
      refine ⟨this.1, fun j h1 h2 => ?_⟩
      by_cases e : j = k
      · subst e; exact q
      · exact this.2 j (by omega) h2
theorem ntz_ls {x : Int32} (h : Ks x) (hn : ¬ x = 0) : ∃ k, k < 12 ∧ ntz x = nI k ∧ In k x ∧ ∀ j, j < k → ¬ In j x := by
  obtain ⟨n, hn2, rfl⟩ := Ks_n h
  rcases fin4096 (P := ntzQ) ntz_all n hn2 with q | q
  · exact absurd (show nI n = 0 by rw [show n = 0 from q]; rfl) hn
  · have h3 := lsF_in (x := nI n) 12 0 (by have := q.2; omega)
    exact ⟨_, q.2, q.1, h3.1, fun j hj => h3.2 j (by omega) hj⟩
theorem kdU_y {x : Int32} {k : Nat} (h : x = bitI k) : ∀ d k0, k0 ≤ k → k < k0 + d → k < 12 → kindUp x d k0 = nI k
  | 0, _, _, h2, _ => absurd h2 (by omega)
  | d + 1, k0, h1, h2, h3 => by
    unfold kindUp
    by_cases e : k0 = k
    · rw [if_pos (by rw [h, e]), e]
    · rw [if_neg (fun q => e ?_), kdU_y h d (k0 + 1) (by omega) (by omega) h3]
      have : In k (bitI k0) := by show In k (nI 1 <<< (nI k0 &&& 31)); rw [← q, h]; exact (In_bit h3).mpr rfl
      exact ((In_bit (by omega)).mp this).symm
theorem kdU_n {x : Int32} (h : ∀ k, k < 12 → ¬ x = bitI k) : ∀ d k0, k0 + d ≤ 12 → kindUp x d k0 = -1
  | 0, _, _ => rfl
  | d + 1, k0, h1 => by
    unfold kindUp
    rw [if_neg (h k0 (by omega)), kdU_n h d (k0 + 1) (by omega)]

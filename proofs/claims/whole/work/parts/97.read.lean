/-! read -/
/-- characters alike for the reader -/
def cq (x y : Int32) : Prop := (x = nI 32 ↔ y = nI 32) ∧ (x = nI 40 ↔ y = nI 40) ∧ (x = nI 41 ↔ y = nI 41) ∧ (x = nI 44 ↔ y = nI 44) ∧ (x = nI 59 ↔ y = nI 59) ∧ (letP x ↔ letP y) ∧ (letP y → x = y)
theorem b8_c {y z : Int32} (h : ∀ k, k < 8 → (In k z ↔ In k y)) : z.toInt8.toInt32 = y.toInt8.toInt32 := by
  have e : z.toInt8 = y.toInt8 := by
    refine Int8.toBitVec_inj.mp (BitVec.eq_of_getLsbD_eq fun i hi => ?_)
    rw [Int32.toBitVec_toInt8, Int32.toBitVec_toInt8, BitVec.getLsbD_signExtend, BitVec.getLsbD_signExtend]
    have := h i hi
    unfold In at this
    simp only [hi, show i < 32 by omega, if_true, decide_true, Bool.true_and]
    cases hx : z.toBitVec.getLsbD i <;> cases hy : y.toBitVec.getLsbD i <;> simp [hx, hy] at this ⊢
  rw [e]
theorem asc {x y : Int32} (h1 : x = y &&& nI 255) (h2 : y.toInt8.toInt32 = y) {c : Nat} (hc : c < 128) : x = nI c ↔ y = nI c := by
  have hb := b128 ⟨c, hc⟩
  constructor
  · intro e
    have e2 : y.toInt8.toInt32 = (nI c).toInt8.toInt32 := by
      refine (b8_c (fun k hk => ?_)).symm
      rw [← e, h1, In_and, In_255]
      exact ⟨fun q => q.1, fun q => ⟨q, hk⟩⟩
    rw [← h2, e2]; exact hb.2
  · intro e
    rw [h1, e]; exact hb.1
theorem let_iff {x : Int32} : letP x ↔ ∃ k, k < 12 ∧ x = nI (97 + k) := by
  refine ⟨letP_k, ?_⟩
  rintro ⟨k, hk, rfl⟩
  exact ⟨fun z => by have := (nI_ltI (by omega) (by decide)).mp z; omega, fun z => by have := (nI_leI (by decide) (by omega)).mp z; omega⟩
theorem cq_of {x y : Int32} (h1 : x = y &&& nI 255) (h2 : y.toInt8.toInt32 = y) : cq x y := by
  refine ⟨asc h1 h2 (by omega), asc h1 h2 (by omega), asc h1 h2 (by omega), asc h1 h2 (by omega), asc h1 h2 (by omega), ?_, ?_⟩
  · rw [let_iff, let_iff]
    constructor
    · rintro ⟨k, hk, e⟩; exact ⟨k, hk, (asc h1 h2 (by omega)).mp e⟩
    · rintro ⟨k, hk, e⟩; exact ⟨k, hk, (asc h1 h2 (by omega)).mpr e⟩
  · intro h
    obtain ⟨k, hk, e⟩ := letP_k h
    rw [e]; exact (asc h1 h2 (by omega)).mpr e
/-- readers alike -/
def rq (r r9 : RdS) : Prop := r.1 = r9.1 ∧ r.2.1 = r9.2.1 ∧ r.2.2.1 = r9.2.2.1 ∧ ∀ k, k < r.1 → r.2.2.2 k = r9.2.2.2 k
theorem rq_step {x y : Int32} {r r9 : RdS} (hc : cq x y) (h : rq r r9) : (rdR x r).1 = (rdR y r9).1 ∧ rq (rdR x r).2 (rdR y r9).2 := by
  obtain ⟨o, lf, ph, c⟩ := r
  obtain ⟨o9, lf9, ph9, c9⟩ := r9
  obtain ⟨e1, e2, e3, e4⟩ := h
  have e1 : o = o9 := e1
  have e2 : lf = lf9 := e2
  have e3 : ph = ph9 := e3
  subst e1; subst e2; subst e3
  have e4 : ∀ k, k < o → c k = c9 k := e4
  obtain ⟨c32, c40, c41, c44, c59, cl, -⟩ := hc
  show (rdA x o lf ph c).1 = (rdA y o lf ph c9).1 ∧ rq (rdA x o lf ph c).2 (rdA y o lf ph c9).2
  have hrf : rq (o, lf, ph, c) (o, lf, ph, c9) := ⟨rfl, rfl, rfl, e4⟩
  unfold rdA
  by_cases h32 : x = nI 32
  · rw [if_pos h32, if_pos (c32.mp h32)]; exact ⟨rfl, hrf⟩
  · rw [if_neg h32, if_neg (fun z => h32 (c32.mpr z))]
    by_cases hp : ph = 0
    · rw [if_pos hp, if_pos hp]
      unfold rdN
      by_cases h40 : x = nI 40
      · rw [if_pos h40, if_pos (c40.mp h40)]
        by_cases ho : o < 23
        · rw [if_pos ho, if_pos ho]
          refine ⟨rfl, rfl, rfl, rfl, fun k hk => ?_⟩
          have hk : k < o + 1 := hk
          show upd c o (nI 0) k = upd c9 o (nI 0) k
          by_cases e : k = o
          · rw [e, pk_us, pk_us]
          · rw [pk_un e, pk_un e]; exact e4 k (by omega)
        · rw [if_neg ho, if_neg ho]; exact ⟨rfl, hrf⟩
      · rw [if_neg h40, if_neg (fun z => h40 (c40.mpr z))]
        by_cases hl : letP x
        · rw [if_pos hl, if_pos (cl.mp hl)]
          by_cases hf : lf < 24
          · rw [if_pos hf, if_pos hf]; exact ⟨rfl, rfl, rfl, rfl, e4⟩
          · rw [if_neg hf, if_neg hf]; exact ⟨rfl, hrf⟩
        · rw [if_neg hl, if_neg (fun z => hl (cl.mpr z))]; exact ⟨rfl, hrf⟩
    · rw [if_neg hp, if_neg hp]
      by_cases h1 : ph = 1
      · rw [if_pos h1, if_pos h1]
        by_cases ho : o = 0
        · rw [if_pos ho, if_pos ho]
          unfold rdE
          by_cases h59 : x = nI 59
          · rw [if_pos h59, if_pos (c59.mp h59)]; exact ⟨rfl, rfl, rfl, rfl, e4⟩
          · rw [if_neg h59, if_neg (fun z => h59 (c59.mpr z))]; exact ⟨rfl, hrf⟩
        · rw [if_neg ho, if_neg ho]
          have e5 := e4 (o - 1) (by omega)
          unfold rdB
          by_cases h44 : x = nI 44
          · rw [if_pos h44, if_pos (c44.mp h44)]
            refine ⟨rfl, rfl, rfl, rfl, fun k hk => ?_⟩
            show upd c (o - 1) (c (o - 1) + nI 1) k = upd c9 (o - 1) (c9 (o - 1) + nI 1) k
            rw [e5]
            by_cases e : k = o - 1
            · rw [e, pk_us, pk_us]
            · rw [pk_un e, pk_un e]; exact e4 k hk
          · rw [if_neg h44, if_neg (fun z => h44 (c44.mpr z))]
            by_cases h41 : x = nI 41
            · rw [if_pos h41, if_pos (c41.mp h41), e5]
              by_cases hz : c9 (o - 1) ≤ 0
              · rw [if_pos hz, if_pos hz]; exact ⟨rfl, hrf⟩
              · rw [if_neg hz, if_neg hz]
                exact ⟨rfl, rfl, rfl, rfl, fun k hk => e4 k (by have hk : k < o - 1 := hk; omega)⟩
            · rw [if_neg h41, if_neg (fun z => h41 (c41.mpr z))]; exact ⟨rfl, hrf⟩
      · rw [if_neg h1, if_neg h1]; exact ⟨rfl, hrf⟩
theorem rq_U {f g : Nat → Int32} {r r9 : RdS} (h : rq r r9) : ∀ i, (∀ j, j < i → cq (f j) (g j)) → rq (rdU f r i) (rdU g r9 i)
  | 0, _ => h
  | i + 1, hc => (rq_step (hc i (by omega)) (rq_U h i (fun j hj => hc j (by omega)))).2
theorem exF_c {f g : Nat → Int32} {L : Nat} (hc : ∀ j, j < L → cq (f j) (g j)) : ∀ k i r r9, i + k ≤ L → rq r r9 → (exF f L k i r).1 = (exF g L k i r9).1 ∧ (exF f L k i r).2.1 = (exF g L k i r9).2.1
  | 0, i, r, r9, _, h => by
    show (if r.2.2.1 = 2 then ((nI 0, -1, r) : Int32 × Int32 × RdS) else (nI 1, nI L, r)).1 = (if r9.2.2.1 = 2 then ((nI 0, -1, r9) : Int32 × Int32 × RdS) else (nI 1, nI L, r9)).1 ∧ (if r.2.2.1 = 2 then ((nI 0, -1, r) : Int32 × Int32 × RdS) else (nI 1, nI L, r)).2.1 = (if r9.2.2.1 = 2 then ((nI 0, -1, r9) : Int32 × Int32 × RdS) else (nI 1, nI L, r9)).2.1
    rw [h.2.2.1]
    by_cases e : r9.2.2.1 = 2
    · rw [if_pos e, if_pos e]; exact ⟨rfl, rfl⟩
    · rw [if_neg e, if_neg e]; exact ⟨rfl, rfl⟩
  | k + 1, i, r, r9, hi, h => by
    have hs := rq_step (hc i (by omega)) h
    unfold exF
    by_cases e : (rdR (f i) r).1 = 0
    · rw [if_pos e, if_pos (by rw [← hs.1]; exact e)]
      exact exF_c hc k (i + 1) _ _ (by omega) hs.2
    · rw [if_neg e, if_neg (by rw [← hs.1]; exact e)]
      exact ⟨hs.1, rfl⟩
/-! trees that grow alike -/
def wq (q q9 : GT) : Prop := q.1 = q9.1 ∧ q.2.1 = q9.2.1 ∧ ∀ v, v < q.1 → q.2.2.2.1 v = q9.2.2.2.1 v ∧ q.2.2.2.2.1 v = q9.2.2.2.2.1 v
theorem wq_step {x y : Int32} {q q9 : GT} (hc : cq x y) (h : wq q q9) (hcl : x = nI 41 → q.2.1.toNatClampNeg < q.1) : wq (gwS x q) (gwS y q9) := by
  obtain ⟨c32, c40, c41, c44, c59, cl, ce⟩ := hc
  obtain ⟨e1, e2, e3⟩ := h
  have add : ∀ k, wq (q.1 + 1, nI q.1, tdA q.1 q.2.1.toNatClampNeg k q.2.2) (q9.1 + 1, nI q9.1, tdA q9.1 q9.2.1.toNatClampNeg k q9.2.2) ∧ wq (q.1 + 1, q.2.1, tdA q.1 q.2.1.toNatClampNeg k q.2.2) (q9.1 + 1, q9.2.1, tdA q9.1 q9.2.1.toNatClampNeg k q9.2.2) := by
    intro k
    have hrow : ∀ v, v < q.1 + 1 → (tdA q.1 q.2.1.toNatClampNeg k q.2.2).2.1 v = (tdA q9.1 q9.2.1.toNatClampNeg k q9.2.2).2.1 v ∧ (tdA q.1 q.2.1.toNatClampNeg k q.2.2).2.2.1 v = (tdA q9.1 q9.2.1.toNatClampNeg k q9.2.2).2.2.1 v := by
      intro v hv
      rw [← e1, ← e2]
      show upd q.2.2.2.1 q.1 _ v = upd q9.2.2.2.1 q.1 _ v ∧ upd q.2.2.2.2.1 q.1 k v = upd q9.2.2.2.2.1 q.1 k v
      by_cases e : v = q.1
      · rw [e, pk_us, pk_us, pk_us, pk_us]; exact ⟨rfl, rfl⟩
      · rw [pk_un e, pk_un e, pk_un e, pk_un e]; exact e3 v (by omega)
    refine ⟨⟨?_, ?_, hrow⟩, ⟨?_, e2, hrow⟩⟩
    · show q.1 + 1 = q9.1 + 1; rw [e1]
    · show nI q.1 = nI q9.1; rw [e1]
    · show q.1 + 1 = q9.1 + 1; rw [e1]
  by_cases h40 : x = nI 40
  · rw [gw_40 h40, gw_40 (c40.mp h40)]; exact (add (-1)).1
  · have h40y : ¬ y = nI 40 := fun z => h40 (c40.mpr z)
    by_cases h41 : x = nI 41
    · rw [gw_41 h41, gw_41 (c41.mp h41)]
      refine ⟨e1, ?_, e3⟩
      show q.2.2.2.1 q.2.1.toNatClampNeg = q9.2.2.2.1 q9.2.1.toNatClampNeg
      rw [← e2]; exact (e3 _ (hcl h41)).1
    · have h41y : ¬ y = nI 41 := fun z => h41 (c41.mpr z)
      by_cases hl : letP x
      · rw [gw_let h40 h41 hl, gw_let h40y h41y (cl.mp hl), ce (cl.mp hl)]; exact (add _).2
      · rw [gw_skip h40 h41 hl, gw_skip h40y h41y (fun z => hl (cl.mpr z))]; exact ⟨e1, e2, e3⟩
theorem wq_U {f g : Nat → Int32} {c : Nat → Int32} {q q9 : GT} {L : Nat} (hL : L ≤ 400) (h0 : q.1 = 0 ∧ q.2.1 = -1 ∧ q.2.2.1 = 0) (hn : noF f (0, 0, 0, c) L) (hc : ∀ j, j < L → cq (f j) (g j)) (h : wq q q9) : ∀ i, i ≤ L → wq (gwU f q i) (gwU g q9 i)
  | 0, _ => h
  | i + 1, hi => by
    have ih := wq_U hL h0 hn hc h i (by omega)
    have hg := gw_all hL h0 hn i (by omega)
    have hr := rdU_ok (f := f) (r := (0, 0, 0, c)) ⟨Nat.zero_le _, Nat.zero_le _, Nat.zero_le _⟩ i
    refine wq_step (hc i (by omega)) ih (fun e => ?_)
    have h1 := hn.1 i (by omega)
    rw [e] at h1
    exact (gw_ab hg hr (rd_close h1).1).2
/-! the tree that is read is one -/
theorem tdA_f {n u : Nat} {k : Int32} {D : TD} (hu : 0 < n → u < n) (hn : n < 1000) : (∀ v, v < n → (tdA n u k D).2.2.1 v = D.2.2.1 v) ∧ (tdA n u k D).2.2.1 n = k ∧ (∀ v, v < n → (tdA n u k D).2.1 v = D.2.1 v) ∧ (∀ v, v < n → tdP (tdA n u k D) v = tdP D v) ∧ (0 < n → tdP (tdA n u k D) n = u) ∧ ∀ v, nCh (n + 1) (tdP (tdA n u k D)) v = nCh n (tdP D) v + (if 0 < n ∧ u = v then 1 else 0) := by
  have hP : ∀ v, v < n → (tdA n u k D).2.1 v = D.2.1 v := fun v hv => pk_un (by omega)
  have hp : ∀ v, v < n → tdP (tdA n u k D) v = tdP D v := fun v hv => by show ((tdA n u k D).2.1 v).toNatClampNeg = _; rw [hP v hv]
  have hpn : 0 < n → tdP (tdA n u k D) n = u := fun h => by
    have e : (tdA n u k D).2.1 n = nI u := by
      show upd D.2.1 n (if n = 0 then -1 else nI u) n = _
      rw [pk_us, if_neg (by omega)]
    show ((tdA n u k D).2.1 n).toNatClampNeg = u
    rw [e]; exact nI_clamp (by have := hu h; omega)
  refine ⟨fun v hv => pk_un (by omega), pk_us, hP, hp, hpn, fun v => ?_⟩
  have hc : cntU (fun w => 0 < w ∧ tdP (tdA n u k D) w = v) n = nCh n (tdP D) v := cnt_c n (fun w hw => by rw [hp w hw])
  by_cases e : 0 < n ∧ u = v
  · rw [nCh, cntU_y (q := fun w => 0 < w ∧ tdP (tdA n u k D) w = v) ⟨e.1, by rw [hpn e.1]; exact e.2⟩, hc, if_pos e]
  · rw [nCh, cntU_n (q := fun w => 0 < w ∧ tdP (tdA n u k D) w = v) (fun z => e ⟨z.1, by rw [← hpn z.1]; exact z.2⟩), hc, if_neg e, Nat.add_zero]
def gT (i : Nat) (r : RdS) (q : GT) : Prop := ∃ a cc : Nat → Nat,
  (0 < r.1 → q.2.1 = nI (a (r.1 - 1))) ∧ (∀ k, k < r.1 → a k < q.1 ∧ q.2.2.2.2.1 (a k) = -1 ∧ r.2.2.2 k = nI (cc k) ∧ cc k ≤ i) ∧ (∀ k, k + 1 < r.1 → q.2.2.2.1 (a (k + 1)) = nI (a k) ∧ a k < a (k + 1)) ∧ (r.1 = 0 → r.2.2.1 = 0 → q.1 = 0) ∧ tdI q.1 q.2.2 ∧ (∀ v, v < q.1 → q.2.2.2.2.1 v = -1 ∨ ∃ k, k < 12 ∧ q.2.2.2.2.1 v = nI k) ∧ (∀ v, 0 < v → v < q.1 → q.2.2.2.2.1 (tdP q.2.2 v) = -1) ∧
  (∀ k, k < r.1 → nCh q.1 (tdP q.2.2) (a k) = cc k + (if k + 1 < r.1 ∨ ¬ r.2.2.1 = 0 then 1 else 0)) ∧ ∀ v, v < q.1 → q.2.2.2.2.1 v = -1 → (∀ k, k < r.1 → ¬ v = a k) → 2 ≤ nCh q.1 (tdP q.2.2) v
theorem chain_lt {r : RdS} {a : Nat → Nat} (h : ∀ k, k + 1 < r.1 → a k < a (k + 1)) : ∀ d k, k + d + 1 ≤ r.1 → 0 < d → a k < a (k + d)
  | 0, _, _, h0 => absurd h0 (by omega)
  | d + 1, k, hk, _ => by
    rcases Nat.eq_zero_or_pos d with z | z
    · subst z; exact h k (by omega)
    · have h1 := chain_lt h d k (by omega) z
      have h2 := h (k + d) (by omega)
      rw [show k + (d + 1) = k + d + 1 by omega]
      omega
theorem chain_inj {r : RdS} {a : Nat → Nat} (h : ∀ k, k + 1 < r.1 → a k < a (k + 1)) {k j : Nat} (hk : k < r.1) (hj : j < r.1) (e : a k = a j) : k = j := by
  rcases Nat.lt_trichotomy k j with z | z | z
  · have := chain_lt h (j - k) k (by omega) (by omega)
    rw [show k + (j - k) = j by omega] at this
    omega
  · exact z
  · have := chain_lt h (k - j) j (by omega) (by omega)
    rw [show j + (k - j) = k by omega] at this
    omega
/-- a node more below the last open bracket -/
theorem gT_add {i : Nat} {r : RdS} {q : GT} {kk : Int32} {a cc : Nat → Nat} (hb : q.1 < 500)
    (h1 : 0 < r.1 → q.2.1 = nI (a (r.1 - 1))) (h2 : ∀ k, k < r.1 → a k < q.1) (h3 : ∀ k, k + 1 < r.1 → a k < a (k + 1)) (hz : q.1 = 0 ↔ r.1 = 0) (h4 : ∀ k, k < r.1 → q.2.2.2.2.1 (a k) = -1)
    (h5 : tdI q.1 q.2.2) (h6 : ∀ v, v < q.1 → q.2.2.2.2.1 v = -1 ∨ ∃ k, k < 12 ∧ q.2.2.2.2.1 v = nI k) (h7 : ∀ v, 0 < v → v < q.1 → q.2.2.2.2.1 (tdP q.2.2 v) = -1) (hk : kk = -1 ∨ ∃ k, k < 12 ∧ kk = nI k)
    (h8 : ∀ k, k < r.1 → nCh q.1 (tdP q.2.2) (a k) = cc k + (if k + 1 < r.1 then 1 else 0)) (h9 : ∀ v, v < q.1 → q.2.2.2.2.1 v = -1 → (∀ k, k < r.1 → ¬ v = a k) → 2 ≤ nCh q.1 (tdP q.2.2) v) :
    tdI (q.1 + 1) (tdA q.1 q.2.1.toNatClampNeg kk q.2.2) ∧ (∀ v, v < q.1 + 1 → (tdA q.1 q.2.1.toNatClampNeg kk q.2.2).2.2.1 v = -1 ∨ ∃ k, k < 12 ∧ (tdA q.1 q.2.1.toNatClampNeg kk q.2.2).2.2.1 v = nI k) ∧ (∀ v, 0 < v → v < q.1 + 1 → (tdA q.1 q.2.1.toNatClampNeg kk q.2.2).2.2.1 (tdP (tdA q.1 q.2.1.toNatClampNeg kk q.2.2) v) = -1) ∧
    (∀ k, k < r.1 → nCh (q.1 + 1) (tdP (tdA q.1 q.2.1.toNatClampNeg kk q.2.2)) (a k) = cc k + 1) ∧ (∀ v, v < q.1 → (tdA q.1 q.2.1.toNatClampNeg kk q.2.2).2.2.1 v = -1 → (∀ k, k < r.1 → ¬ v = a k) → 2 ≤ nCh (q.1 + 1) (tdP (tdA q.1 q.2.1.toNatClampNeg kk q.2.2)) v) ∧ (∀ v, v < q.1 → (tdA q.1 q.2.1.toNatClampNeg kk q.2.2).2.2.1 v = q.2.2.2.2.1 v ∧ (tdA q.1 q.2.1.toNatClampNeg kk q.2.2).2.1 v = q.2.2.2.1 v) ∧ nCh (q.1 + 1) (tdP (tdA q.1 q.2.1.toNatClampNeg kk q.2.2)) q.1 = 0 ∧ (tdA q.1 q.2.1.toNatClampNeg kk q.2.2).2.2.1 q.1 = kk ∧ (0 < q.1 → (tdA q.1 q.2.1.toNatClampNeg kk q.2.2).2.1 q.1 = nI (a (r.1 - 1))) := by
  have hu : 0 < q.1 → q.2.1.toNatClampNeg = a (r.1 - 1) ∧ a (r.1 - 1) < q.1 ∧ 0 < r.1 := fun h => by
    have hr : 0 < r.1 := by omega
    have := h2 (r.1 - 1) (by omega)
    rw [h1 hr, nI_clamp (by omega)]
    exact ⟨rfl, this, hr⟩
  have hu2 : 0 < q.1 → q.2.1.toNatClampNeg < q.1 := fun h => by have := hu h; omega
  obtain ⟨f1, f2, f3, f4, f5, f6⟩ := tdA_f (k := kk) (D := q.2.2) hu2 (by omega)
  refine ⟨tdI_A h5 (by omega) hu2, fun v hv => ?_, fun v hv0 hv => ?_, fun k hk9 => ?_, fun v hv hv2 hv3 => ?_, fun v hv => ⟨f1 v hv, f3 v hv⟩, ?_, f2, fun h => ?_⟩
  · by_cases e : v = q.1
    · rw [e, f2]; exact hk
    · rw [f1 v (by omega)]; exact h6 v (by omega)
  · by_cases e : v = q.1
    · subst e
      have hh := hu hv0
      rw [f5 hv0, f1 _ (hu2 hv0), hh.1]
      exact h4 _ (by omega)
    · rw [f4 v (by omega)]
      have h10 := h7 v hv0 (by omega)
      obtain ⟨u, hu9, e9⟩ := h5.2.2.2.2 v hv0 (by omega)
      have : tdP q.2.2 v = u := by show (q.2.2.2.1 v).toNatClampNeg = u; rw [e9]; exact nI_clamp (by omega)
      rw [f1 _ (by omega)]
      exact h10
  · rw [f6, h8 k hk9]
    have hq0 : 0 < q.1 := by have := h2 k hk9; omega
    have hh := hu hq0
    by_cases e : k + 1 < r.1
    · rw [if_pos e, if_neg (fun z => ?_)]
      rw [hh.1] at z
      have := chain_inj (r := r) h3 (show r.1 - 1 < r.1 by omega) hk9 z.2
      omega
    · rw [if_neg e, if_pos ⟨hq0, by rw [hh.1, show r.1 - 1 = k by omega]⟩]
  · rw [f6]
    rw [f1 v hv] at hv2
    have := h9 v hv hv2 hv3
    omega
  · rw [f6, if_neg (fun z => by have := hu2 z.1; omega)]
    have hz2 : nCh q.1 (tdP q.2.2) q.1 = cntU (fun _ => False) q.1 := cnt_c q.1 (fun w hw => ⟨fun z => by
      obtain ⟨u, hu9, e9⟩ := h5.2.2.2.2 w z.1 hw
      have : tdP q.2.2 w = u := by show (q.2.2.2.1 w).toNatClampNeg = u; rw [e9]; exact nI_clamp (by omega)
      rw [this] at z
      omega, fun z => absurd z id⟩)
    rw [hz2, cnt_sm, sumU_c q.1 (g := fun _ => 0) (fun v _ => cI_f id), sumU_0]
  · have hh := hu h
    show upd q.2.2.2.1 q.1 (if q.1 = 0 then -1 else nI q.2.1.toNatClampNeg) q.1 = _
    rw [pk_us, if_neg (by omega), hh.1]
theorem gT_step {i : Nat} {x : Int32} {r : RdS} {q : GT} (h : gT i r q) (hg : gwOk i r q) (hr : rdOk r) (hz : (rdR x r).1 = 0) : gT (i + 1) (rdR x r).2 (gwS x q) := by
  have hb := (gw_80 hg hr).1
  obtain ⟨a, cc, h1, h2, h3, h4, h5, h6, h7, h8, h9⟩ := h
  have mono : gT (i + 1) r q := ⟨a, cc, h1, fun k hk => ⟨(h2 k hk).1, (h2 k hk).2.1, (h2 k hk).2.2.1, by have := (h2 k hk).2.2.2; omega⟩, h3, h4, h5, h6, h7, h8, h9⟩
  have nx : ∀ {c : Nat} {n : Int32}, x = n → (n = nI 32 ∨ n = nI 59 ∨ n = nI 44) → gwS x q = q := by
    intro c n e hn
    refine gw_skip ?_ ?_ ?_ <;> rw [e] <;> rcases hn with rfl | rfl | rfl <;> decide
  by_cases h32 : x = nI 32
  · rw [rd_32 h32, nx (c := 0) h32 (Or.inl rfl)]; exact mono
  by_cases hp : r.2.2.1 = 0
  · have hqr : q.1 = 0 ↔ r.1 = 0 := ⟨fun z => Classical.byContradiction (fun n => by have := (h2 0 (by omega)).1; omega), fun z => h4 z hp⟩
    have h8' : ∀ k, k < r.1 → nCh q.1 (tdP q.2.2) (a k) = cc k + (if k + 1 < r.1 then 1 else 0) := fun k hk => by
      rw [h8 k hk]
      by_cases e : k + 1 < r.1
      · rw [if_pos e, if_pos (Or.inl e)]
      · rw [if_neg e, if_neg (fun z => z.elim e (fun z2 => z2 hp))]
    have add := fun (kk : Int32) (hk : kk = -1 ∨ ∃ k, k < 12 ∧ kk = nI k) => gT_add (i := i) (kk := kk) (a := a) (cc := cc) (r := r) (q := q) (by omega) h1 (fun k hk => (h2 k hk).1) (fun k hk => (h3 k hk).2) hqr (fun k hk => (h2 k hk).2.1) h5 h6 h7 hk h8' h9
    by_cases h40 : x = nI 40
    · have ho : r.1 < 23 := Classical.byContradiction (fun z => by rw [rd_40x h40 hp z] at hz; exact absurd hz (by decide))
      obtain ⟨b1, b2, b3, b4, b5, b6, b7, b8, b9⟩ := add (-1) (Or.inl rfl)
      rw [rd_40 h40 hp ho, gw_40 h40]
      refine ⟨fun k => if k = r.1 then q.1 else a k, fun k => if k = r.1 then 0 else cc k, fun _ => ?_, fun k hk => ?_, fun k hk => ?_, fun z => absurd (show r.1 + 1 = 0 from z) (by omega), b1, b2, b3, fun k hk => ?_, fun v hv hv2 hv3 => ?_⟩
      · show nI q.1 = nI (if r.1 + 1 - 1 = r.1 then q.1 else _)
        rw [if_pos (by omega)]
      · have hk : k < r.1 + 1 := hk
        show (if k = r.1 then q.1 else a k) < q.1 + 1 ∧ (tdA q.1 q.2.1.toNatClampNeg (-1) q.2.2).2.2.1 (if k = r.1 then q.1 else a k) = -1 ∧ upd r.2.2.2 r.1 (nI 0) k = nI (if k = r.1 then 0 else cc k) ∧ (if k = r.1 then 0 else cc k) ≤ i + 1
        by_cases e : k = r.1
        · rw [if_pos e, if_pos e, e, pk_us]
          exact ⟨by omega, b8, rfl, by omega⟩
        · rw [if_neg e, if_neg e, pk_un e]
          obtain ⟨q1, q2, q3, q4⟩ := h2 k (by omega)
          exact ⟨by omega, by rw [(b6 _ q1).1]; exact q2, q3, by omega⟩
      · have hk : k + 1 < r.1 + 1 := hk
        show (tdA q.1 q.2.1.toNatClampNeg (-1) q.2.2).2.1 (if k + 1 = r.1 then q.1 else a (k + 1)) = nI (if k = r.1 then q.1 else a k) ∧ (if k = r.1 then q.1 else a k) < (if k + 1 = r.1 then q.1 else a (k + 1))
        rw [if_neg (show ¬ k = r.1 by omega)]
        have hka := (h2 k (by omega)).1
        by_cases e : k + 1 = r.1
        · rw [if_pos e, b9 (by omega), show r.1 - 1 = k by omega]
          exact ⟨rfl, hka⟩
        · rw [if_neg e]
          have := h3 k (by omega)
          rw [(b6 _ (h2 (k + 1) (by omega)).1).2]
          exact this
      · have hk : k < r.1 + 1 := hk
        show nCh (q.1 + 1) (tdP (tdA q.1 q.2.1.toNatClampNeg (-1) q.2.2)) (if k = r.1 then q.1 else a k) = (if k = r.1 then 0 else cc k) + (if k + 1 < r.1 + 1 ∨ ¬ r.2.2.1 = 0 then 1 else 0)
        by_cases e : k = r.1
        · rw [if_pos e, if_pos e, b7, if_neg (fun z => z.elim (fun z => by omega) (fun z => z hp))]
        · rw [if_neg e, if_neg e, if_pos (Or.inl (by omega))]
          exact b4 k (by omega)
      · have hv : v < q.1 + 1 := hv
        have hv3 : ∀ k, k < r.1 + 1 → ¬ v = (if k = r.1 then q.1 else a k) := hv3
        have hne : ¬ v = q.1 := fun e => hv3 r.1 (by omega) (by rw [if_pos rfl]; exact e)
        exact b5 v (by omega) hv2 (fun k hk e => hv3 k (by omega) (by rw [if_neg (by omega)]; exact e))
    · by_cases hl : letP x
      · have hf : r.2.1 < 24 := Classical.byContradiction (fun z => by rw [rd_letx hl hp z] at hz; exact absurd hz (by decide))
        obtain ⟨kx, hkx, ekx⟩ := letP_k hl
        have esub : x - nI 97 = nI kx := by rw [ekx]; exact let_sub hkx
        obtain ⟨b1, b2, b3, b4, b5, b6, b7, b8, b9⟩ := add (x - nI 97) (Or.inr ⟨kx, hkx, esub⟩)
        rw [rd_let hl hp hf, gw_let h40 (let_no hl).2.2 hl]
        refine ⟨a, cc, h1, fun k hk => ?_, fun k hk => ?_, fun _ z => absurd (show 1 = 0 from z) (by omega), b1, b2, b3, fun k hk => ?_, fun v hv hv2 hv3 => ?_⟩
        · obtain ⟨q1, q2, q3, q4⟩ := h2 k hk
          exact ⟨Nat.lt_succ_of_lt q1, by show (tdA q.1 q.2.1.toNatClampNeg (x - nI 97) q.2.2).2.2.1 (a k) = -1; rw [(b6 _ q1).1]; exact q2, q3, by omega⟩
        · refine ⟨?_, (h3 k hk).2⟩
          show (tdA q.1 q.2.1.toNatClampNeg (x - nI 97) q.2.2).2.1 (a (k + 1)) = nI (a k)
          rw [(b6 _ (h2 (k + 1) hk).1).2]
          exact (h3 k hk).1
        · show nCh (q.1 + 1) (tdP (tdA q.1 q.2.1.toNatClampNeg (x - nI 97) q.2.2)) (a k) = cc k + (if k + 1 < r.1 ∨ ¬ 1 = 0 then 1 else 0)
          rw [if_pos (Or.inr (by omega))]
          exact b4 k hk
        · have hv : v < q.1 + 1 := hv
          have hv2 : (tdA q.1 q.2.1.toNatClampNeg (x - nI 97) q.2.2).2.2.1 v = -1 := hv2
          have hne : ¬ v = q.1 := fun e => by
            rw [e, b8, esub] at hv2
            exact absurd hv2 (nI_m1 (by omega))
          exact b5 v (by omega) hv2 hv3
      · rw [rd_nox h32 h40 hl hp] at hz
        exact absurd hz (by decide)
  · by_cases hp1 : r.2.2.1 = 1
    · by_cases ho : r.1 = 0
      · by_cases h59 : x = nI 59
        · rw [rd_59 h59 hp1 ho, nx (c := 0) h59 (Or.inr (Or.inl rfl))]
          refine ⟨a, cc, h1, fun k hk => absurd (show k < r.1 from hk) (by omega), fun k hk => absurd (show k + 1 < r.1 from hk) (by omega), fun _ z => absurd (show 2 = 0 from z) (by omega), h5, h6, h7, fun k hk => absurd (show k < r.1 from hk) (by omega), h9⟩
        · rw [rd_59x h32 h59 hp1 ho] at hz
          exact absurd hz (by decide)
      · by_cases h44 : x = nI 44
        · rw [rd_44 h44 hp1 ho, nx (c := 0) h44 (Or.inr (Or.inr rfl))]
          refine ⟨a, fun k => if k = r.1 - 1 then cc k + 1 else cc k, h1, fun k hk => ?_, h3, fun z => absurd z ho, h5, h6, h7, fun k hk => ?_, h9⟩
          · have hk : k < r.1 := hk
            obtain ⟨q1, q2, q3, q4⟩ := h2 k hk
            refine ⟨q1, q2, ?_, ?_⟩
            · show upd r.2.2.2 (r.1 - 1) (r.2.2.2 (r.1 - 1) + nI 1) k = nI (if k = r.1 - 1 then cc k + 1 else cc k)
              by_cases e : k = r.1 - 1
              · rw [if_pos e, ← e, pk_us, q3, nI_add]
              · rw [if_neg e, pk_un e, q3]
            · show (if k = r.1 - 1 then cc k + 1 else cc k) ≤ i + 1
              split <;> omega
          · have hk : k < r.1 := hk
            show nCh q.1 (tdP q.2.2) (a k) = (if k = r.1 - 1 then cc k + 1 else cc k) + (if k + 1 < r.1 ∨ ¬ 0 = 0 then 1 else 0)
            rw [h8 k hk, if_pos (Or.inr hp)]
            by_cases e : k = r.1 - 1
            · rw [if_pos e, if_neg (by omega)]
            · rw [if_neg e, if_pos (Or.inl (by omega))]
        · by_cases h41 : x = nI 41
          · have hc : ¬ r.2.2.2 (r.1 - 1) ≤ 0 := fun z => by rw [rd_41x h41 hp1 ho z] at hz; exact absurd hz (by decide)
            rw [rd_41 h41 hp1 ho hc, gw_41 h41]
            have htop := h2 (r.1 - 1) (by omega)
            have hcc : 0 < cc (r.1 - 1) := by
              rcases Nat.eq_zero_or_pos (cc (r.1 - 1)) with z | z
              · rw [htop.2.2.1, z] at hc
                exact absurd (by decide) hc
              · exact z
            have hqa : q.2.1.toNatClampNeg = a (r.1 - 1) := by rw [h1 (by omega)]; exact nI_clamp (by omega)
            refine ⟨a, cc, fun z => ?_, fun k hk => ?_, fun k hk => h3 k (by have hk : k + 1 < r.1 - 1 := hk; omega), fun _ z => absurd (show r.2.2.1 = 0 from z) hp, h5, h6, h7, fun k hk => ?_, fun v hv hv2 hv3 => ?_⟩
            · have z : 0 < r.1 - 1 := z
              show q.2.2.2.1 q.2.1.toNatClampNeg = nI (a (r.1 - 1 - 1))
              rw [hqa]
              have := (h3 (r.1 - 2) (by omega)).1
              rw [show r.1 - 2 + 1 = r.1 - 1 by omega] at this
              rw [show r.1 - 1 - 1 = r.1 - 2 by omega]
              exact this
            · have hk : k < r.1 - 1 := hk
              obtain ⟨q1, q2, q3, q4⟩ := h2 k (by omega)
              exact ⟨q1, q2, q3, by omega⟩
            · have hk : k < r.1 - 1 := hk
              show nCh q.1 (tdP q.2.2) (a k) = cc k + (if k + 1 < r.1 - 1 ∨ ¬ r.2.2.1 = 0 then 1 else 0)
              rw [h8 k (by omega), if_pos (Or.inr hp), if_pos (Or.inr hp)]
            · have hv3 : ∀ k, k < r.1 - 1 → ¬ v = a k := hv3
              by_cases e : v = a (r.1 - 1)
              · show 2 ≤ nCh q.1 (tdP q.2.2) v
                rw [e, h8 (r.1 - 1) (by omega), if_pos (Or.inr hp)]
                omega
              · refine h9 v hv hv2 (fun k hk e2 => ?_)
                by_cases e3 : k = r.1 - 1
                · rw [e3] at e2; exact e e2
                · exact hv3 k (by omega) e2
          · rw [rd_brx h32 h44 h41 hp1 ho] at hz
            exact absurd hz (by decide)
    · have h2x : r.2.2.1 = 2 := by have := hr.2.2; omega
      rw [rd_2x h32 h2x] at hz
      exact absurd hz (by decide)
theorem gT_all {f : Nat → Int32} {c : Nat → Int32} {q : GT} {L : Nat} (hL : L ≤ 400) (h0 : q.1 = 0 ∧ q.2.1 = -1 ∧ q.2.2.1 = 0) (h : noF f (0, 0, 0, c) L) : ∀ i, i ≤ L → gT i (rdU f (0, 0, 0, c) i) (gwU f q i)
  | 0, _ => ⟨fun _ => 0, fun _ => 0, fun z => absurd (show 0 < 0 from z) (by omega), fun k hk => absurd (show k < 0 from hk) (by omega), fun k hk => absurd (show k + 1 < 0 from hk) (by omega), fun _ _ => h0.1, by show tdI q.1 q.2.2; rw [h0.1]; exact tdI_0 _ h0.2.2, fun v hv => absurd (show v < q.1 from hv) (by omega), fun v _ hv => absurd (show v < q.1 from hv) (by omega), fun k hk => absurd (show k < 0 from hk) (by omega), fun v hv => absurd (show v < q.1 from hv) (by omega)⟩
  | i + 1, hi => gT_step (gT_all hL h0 h i (by omega)) (gw_all hL h0 h i (by omega)) (rdU_ok ⟨Nat.zero_le _, Nat.zero_le _, Nat.zero_le _⟩ i) (h.1 i (by omega))
theorem two_of {q : Nat → Prop} : ∀ n, 2 ≤ cntU q n → ∃ a b, a < b ∧ b < n ∧ q a ∧ q b
  | 0, h => absurd h (by simp [cntU])
  | n + 1, h => by
    by_cases e : q n
    · rw [cntU_y e] at h
      obtain ⟨a, ha, hq⟩ := cnt_ex n (show 0 < cntU q n by omega)
      exact ⟨a, n, ha, by omega, hq, e⟩
    · rw [cntU_n e] at h
      obtain ⟨a, b, h1, h2, h3⟩ := two_of n h
      exact ⟨a, b, h1, by omega, h3⟩
/-- a tape without a fault: a tree -/
theorem gT_TV {f : Nat → Int32} {c : Nat → Int32} {q : GT} {L : Nat} (hL : L ≤ 400) (h0 : q.1 = 0 ∧ q.2.1 = -1 ∧ q.2.2.1 = 0) (h : noF f (0, 0, 0, c) L) : tdI (gwU f q L).1 (gwU f q L).2.2 ∧ TV (gwU f q L).1 (tdP (gwU f q L).2.2) (gwU f q L).2.2.2.2.1 ∧ (gwU f q L).1 ≤ 47 ∧ (gwU f q L).2.2.1 = (rdU f (0, 0, 0, c) L).2.1 := by
  obtain ⟨a, cc, h1, h2, h3, h4, h5, h6, h7, h8, h9⟩ := gT_all hL h0 h L (Nat.le_refl _)
  have h47 := gw_47 hL h0 h
  obtain ⟨a', cc', br, i1, i2, i3, i4, i5, i6, i7, i8, i9, i10, i11, i12, i13⟩ := gw_all hL h0 h L (Nat.le_refl _)
  have hr0 := i12 h.2
  refine ⟨h5, ⟨h47.1, fun v hv0 hv => ⟨?_, h7 v hv0 hv⟩, h6, fun v hv hk => ?_⟩, h47.2, i7⟩
  · obtain ⟨u, hu, e⟩ := h5.2.2.2.2 v hv0 hv
    show ((gwU f q L).2.2.2.1 v).toNatClampNeg < v
    rw [e, nI_clamp (by omega)]
    exact hu
  · obtain ⟨x, y, q1, q2, q3, q4⟩ := two_of _ (h9 v hv hk (fun k hk9 => absurd hk9 (by omega)))
    exact ⟨x, y, q3.1, q1, q2, q3.2, q4.2⟩
/-! the call -/
theorem rTape_cq {σ τ : St} (h : RX σ τ) : ∀ j, j < 400 → cq (iA σ 33 j) (iA τ 1 j) := fun j hj => by
  obtain ⟨n, _, _, _, e⟩ := h.tape
  exact cq_of (e j hj).1 (e j hj).2
theorem rd0_rq {c c9 : Nat → Int32} : rq (0, 0, 0, c) (0, 0, 0, c9) := ⟨rfl, rfl, rfl, fun k hk => absurd (show k < 0 from hk) (by omega)⟩
theorem rX_eq {σ τ : St} (h : RX σ τ) {L : Nat} (hL : L ≤ 400) : (rX σ L).1 = (mX τ L).1 ∧ (rX σ L).2.1 = (mX τ L).2.1 := exF_c (fun j hj => rTape_cq h j (by omega)) L 0 _ _ (by omega) rd0_rq

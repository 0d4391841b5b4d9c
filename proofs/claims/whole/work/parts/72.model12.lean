/-! The reference: changes -/
/-- over the places below n where q holds, from the first on -/
noncomputable def cfo {α : Type} (q : Nat → Prop) (g : Nat → α → α) (a : α) : Nat → α
  | 0 => a
  | u + 1 => cI (q u) (g u (cfo q g a u)) (cfo q g a u)
theorem cfo_y {α : Type} {q : Nat → Prop} {g : Nat → α → α} {a : α} {u : Nat} (h : q u) : cfo q g a (u + 1) = g u (cfo q g a u) := cI_t h
theorem cfo_n {α : Type} {q : Nat → Prop} {g : Nat → α → α} {a : α} {u : Nat} (h : ¬ q u) : cfo q g a (u + 1) = cfo q g a u := cI_f h
theorem cfo_skip {α : Type} {q : Nat → Prop} {g : Nat → α → α} {a : α} {u : Nat} : ∀ {v : Nat}, u ≤ v → (∀ x, u ≤ x → x < v → ¬ q x) → cfo q g a v = cfo q g a u
  | 0, h, _ => by rw [show u = 0 by omega]
  | v + 1, h, hq => by
    by_cases e : u = v + 1
    · rw [e]
    · rw [cfo_n (hq v (by omega) (by omega))]
      exact cfo_skip (by omega) (fun x h1 h2 => hq x h1 (by omega))
theorem cfo_c {α : Type} {q : Nat → Prop} {g h : Nat → α → α} {a : α} : ∀ (n : Nat), (∀ u, u < n → q u → ∀ b, g u b = h u b) → cfo q g a n = cfo q h a n
  | 0, _ => rfl
  | n + 1, hh => by
    by_cases e : q n
    · rw [cfo_y e, cfo_y e, cfo_c n (fun u h1 h2 => hh u (by omega) h2), hh n (by omega) e]
    · rw [cfo_n e, cfo_n e, cfo_c n (fun u h1 h2 => hh u (by omega) h2)]
/-- u is a child of v -/
abbrev mCq (σ : St) (i v : Nat) : Nat → Prop := fun u => v < u ∧ mP σ i u = nI v
def bsU (t : Nat → Int32) (q : Nat) : Nat → Int32
  | 0 => nI 100000
  | p + 1 => mn (bsU t q p) (t p + (if p = q then nI 0 else nI 1))
theorem bsU_0 {t : Nat → Int32} {q : Nat} : bsU t q 0 = nI 100000 := rfl
def mcI (σ : St) (i w : Nat) (v q : Nat) : Int32 := if mK σ i v < 0 then nI 0 else if iA σ 9 (12 * w + (mK σ i v).toNatClampNeg) = nI q then nI 0 else nI 1000
noncomputable def mcR (σ : St) (i w v q : Nat) (g : Nat → Int32) (m : Nat) : Int32 := cfo (mCq σ i v) (fun u a => a + bsU (fun p => g (4 * u + p)) q 4) (mcI σ i w v q) m
theorem mcR_c {σ : St} {i w v q m : Nat} {g h : Nat → Int32} (hh : ∀ u p, v < u → p < 4 → g (4 * u + p) = h (4 * u + p)) : mcR σ i w v q g m = mcR σ i w v q h m := by
  refine cfo_c m (fun u _ hq b => ?_)
  refine congrArg (b + ·) ?_
  have : ∀ k, k ≤ 4 → bsU (fun p => g (4 * u + p)) q k = bsU (fun p => h (4 * u + p)) q k := by
    intro k
    induction k with
    | zero => intro _; rfl
    | succ k ih =>
      intro hk
      show mn (bsU _ q k) (g (4 * u + k) + _) = mn (bsU _ q k) (h (4 * u + k) + _)
      rw [ih (by omega), hh u k hq.1 (by omega)]
  exact this 4 (Nat.le_refl _)
/-- the costs are right from v on -/
abbrev mcE (σ : St) (i w : Nat) (g : Nat → Int32) (v : Nat) : Prop := ∀ x, v ≤ x → x < mN σ i → ∀ q, q < 4 → g (4 * x + q) = mcR σ i w x q g (mN σ i)
def mchP (σ : St) (x y : Int32) (r : Int32) (σ9 : St) : Prop := mt1 σ x σ9 ∨ (∃ i, i < 8 ∧ x = nI i ∧ ¬ mN σ i = 0 ∧ ((¬ okI 8 y ∧ σ9 = mT σ 3) ∨ (∃ w g, w < 8 ∧ y = nI w ∧ mcE σ i w g 0 ∧ σ9 = sI (mT σ 0) 21 g ∧ r = mn (mn (mn (g 0) (g 1)) (g 2)) (g 3))))
theorem g_lv {p : Program} {l : Launch} {e : Env} {R : Room} {s : State} {m : MethodId} {args : Array Value} {below : List Frame} {meth : Method} {c : Code} {Q : State → Prop} {w : Wd} {A : Nat → Prop} {nL : Nat} {σ : St} {cells slots pc : Nat} {lv lv9 : List (Nat × Value)} {st : List Value} (h : lv = lv9) (k : G p l e R s m args below meth c Q w A nL σ cells slots pc lv9 st) : G p l e R s m args below meth c Q w A nL σ cells slots pc lv st := h ▸ k
def lq4 (g : Nat → Int32) : Nat → Int32
  | 0 => g 0
  | q + 1 => if q = 0 then g 0 else mn (lq4 g q) (g q)
theorem lq4_1 {g : Nat → Int32} : lq4 g 1 = g 0 := if_pos rfl
theorem lq4_s {g : Nat → Int32} {q : Nat} (h : ¬ q = 0) : lq4 g (q + 1) = mn (lq4 g q) (g q) := if_neg h
theorem lq4_4 {g : Nat → Int32} : lq4 g 4 = mn (mn (mn (g 0) (g 1)) (g 2)) (g 3) := by
  rw [lq4_s (q := 3) (by decide), lq4_s (q := 2) (by decide), lq4_s (q := 1) (by decide), lq4_1]
theorem lq4_n {g : Nat → Int32} {q : Nat} (h : 1 ≤ q) (h2 : ¬ g q < lq4 g q) : lq4 g (q + 1) = lq4 g q := by
  show (if q = 0 then g 0 else mn (lq4 g q) (g q)) = _
  rw [if_neg (by omega)]; exact if_neg h2
theorem lq4_y {g : Nat → Int32} {q : Nat} (h : 1 ≤ q) (h2 : g q < lq4 g q) : lq4 g (q + 1) = g q := by
  show (if q = 0 then g 0 else mn (lq4 g q) (g q)) = _
  rw [if_neg (by omega)]; exact if_pos h2
theorem mcI_y {σ : St} {i w v q c : Nat} (h : mK σ i v = nI c) (hc : c < 12) (h2 : iA σ 9 (12 * w + c) = nI q) : mcI σ i w v q = nI 0 := by
  unfold mcI
  rw [h, nI_clamp (by omega), if_neg (nI_pos (by omega)), if_pos h2]
theorem mcI_n {σ : St} {i w v q c : Nat} (h : mK σ i v = nI c) (hc : c < 12) (h2 : ¬ iA σ 9 (12 * w + c) = nI q) : mcI σ i w v q = nI 1000 := by
  unfold mcI
  rw [h, nI_clamp (by omega), if_neg (nI_pos (by omega)), if_neg h2]
theorem mcR_0 {σ : St} {i w v q m : Nat} {g : Nat → Int32} (h : ∀ z, z < m → ¬ mCq σ i v z) : mcR σ i w v q g m = mcI σ i w v q := cfo_skip (u := 0) (Nat.zero_le _) (fun x _ h2 => h x h2)
theorem mcE_s {σ : St} {i w k : Nat} {g h : Nat → Int32} (hE : mcE σ i w g (k + 1)) (h1 : ∀ z, (∀ p, p < 4 → z ≠ 4 * k + p) → h z = g z) (h2 : ∀ p, p < 4 → h (4 * k + p) = mcR σ i w k p g (mN σ i)) : mcE σ i w h k := by
  have hg : ∀ x, k < x → ∀ p, p < 4 → h (4 * x + p) = g (4 * x + p) := fun x hx p hp => h1 _ (fun p9 h9 => by omega)
  intro x hx hn q hq
  by_cases e : x = k
  · subst e
    rw [h2 q hq]
    exact mcR_c (fun u p hu hp => (hg u hu p hp).symm)
  · rw [hg x (by omega) q hq, hE x (by omega) hn q hq]
    exact mcR_c (fun u p hu hp => (hg u (by omega) p hp).symm)
theorem mcQ_s {σ : St} {i w k q : Nat} {g h : Nat → Int32} {y : Int32} (hq : q ≤ 4) (h1 : ∀ z, (∀ p, p < 4 → z ≠ 4 * k + p) → h z = g z) (h2 : ∀ p, p < q → h (4 * k + p) = mcR σ i w k p g (mN σ i)) (h4 : q < 4) (hy : y = mcR σ i w k q h (mN σ i)) : q + 1 ≤ 4 ∧ (∀ z, (∀ p, p < 4 → z ≠ 4 * k + p) → upd h (4 * k + q) y z = g z) ∧ ∀ p, p < q + 1 → upd h (4 * k + q) y (4 * k + p) = mcR σ i w k p g (mN σ i) := by
  refine ⟨by omega, fun z hz => ?_, fun p hp => ?_⟩
  · rw [pk_un (hz q h4)]; exact h1 z hz
  · by_cases e : p = q
    · rw [e, pk_us, hy]
      exact mcR_c (fun u p9 hu hp9 => h1 _ (fun p8 h8 => by omega))
    · rw [pk_un (by omega)]; exact h2 p (by omega)
theorem mcR_ini {σ : St} {i w k q : Nat} {h : Nat → Int32} {r : Int32} (hx : nxC σ i k k r) : (r = -1 ∧ mcI σ i w k q = mcR σ i w k q h (mN σ i)) ∨ (∃ u, r = nI u ∧ k < u ∧ u < mN σ i ∧ mP σ i u = nI k ∧ mcI σ i w k q = mcR σ i w k q h u) := by
  rcases hx with ⟨u, h1, h2, h3, h4, e⟩ | ⟨e, h4⟩
  · exact Or.inr ⟨u, e, h1, h2, h3, (mcR_0 (fun z hz hq => h4 z hq.1 hz hq.2)).symm⟩
  · exact Or.inl ⟨e, (mcR_0 (fun z hz hq => h4 z hq.1 hz hq.2)).symm⟩
theorem mcR_nx {σ : St} {i w k q u : Nat} {h : Nat → Int32} {r y : Int32} (h1 : k < u) (h2 : u < mN σ i) (h3 : mP σ i u = nI k) (hy : y = mcR σ i w k q h u) (hx : nxC σ i k u r) : (r = -1 ∧ y + bsU (fun p => h (4 * u + p)) q 4 = mcR σ i w k q h (mN σ i)) ∨ (∃ v, r = nI v ∧ k < v ∧ v < mN σ i ∧ mP σ i v = nI k ∧ y + bsU (fun p => h (4 * u + p)) q 4 = mcR σ i w k q h v) := by
  have hs : y + bsU (fun p => h (4 * u + p)) q 4 = mcR σ i w k q h (u + 1) := by
    rw [hy]
    exact (cfo_y (q := mCq σ i k) (g := fun u a => a + bsU (fun p => h (4 * u + p)) q 4) (a := mcI σ i w k q) ⟨h1, h3⟩).symm
  rw [hs]
  rcases hx with ⟨v, h5, h6, h7, h8, e⟩ | ⟨e, h8⟩
  · exact Or.inr ⟨v, e, by omega, h6, h7, (cfo_skip (by omega) (fun z q1 q2 hq => h8 z (by omega) q2 hq.2)).symm⟩
  · exact Or.inl ⟨e, (cfo_skip (by omega) (fun z q1 q2 hq => h8 z (by omega) q2 hq.2)).symm⟩
theorem nx_mu {σ : St} {i x b : Nat} {r : Int32} (hn : mN σ i ≤ 47) (hb : b < mN σ i) (h : nxC σ i x b r) : (if r = -1 then 0 else mN σ i + 1 - r.toNatClampNeg) < (if nI b = -1 then 0 else mN σ i + 1 - (nI b).toNatClampNeg) := by
  rw [if_neg (nI_m1 (by omega)), nI_clamp (by omega)]
  rcases h with ⟨k, h1, h2, h3, h4, e⟩ | ⟨e, h4⟩
  · subst e
    rw [if_neg (nI_m1 (by omega)), nI_clamp (by omega)]; omega
  · rw [if_pos e]; omega
set_option maxRecDepth 100000 in
set_option maxHeartbeats 4000000 in
theorem m12_best {p : Program} {l : Launch} {e : Env} {s : State} {m : MethodId} {args : Array Value} {below : List Frame} {meth : Method} {c : Code} {Q : State → Prop} {w : Wd} {A : Nat → Prop} (C : Cx p s m args c w A cX11_changes RX11 11 wsX11_changes) (σ : St) (hM : ∀ i, i < 8 → mtOk σ i) (i : Nat) (hb_i : i < 8) (w9 k q : Nat) (hk : k < mN σ i) (hq4 : q < 4) (u : Nat) (hu : u < mN σ i) (h : Nat → Int32) (y9 : Int32) (kont : G p l e (rmL 2) s m args below meth c Q w A 11 (sI (sN σ (0) 0 (nI (0))) (21) (h)) 0 0 206 [(9, .int (nI (4))), (8, .int (bsU (fun p => h (4 * u + p)) q 4)), (7, .int (nI (u))), (6, .int (y9)), (4, .int (nI (q))), (3, .int (nI (k))), (0, .ref (w.1 (0))), (1, .int (nI (i))), (2, .int (nI (w9)))] []) : G p l e (rmL 2) s m args below meth c Q w A 11 (sI (sN σ (0) 0 (nI (0))) (21) (h)) 0 0 151 [(9, .int (nI (0))), (8, .int (bsU (fun p => h (4 * u + p)) q 0)), (7, .int (nI (u))), (6, .int (y9)), (4, .int (nI (q))), (3, .int (nI (k))), (0, .ref (w.1 (0))), (1, .int (nI (i))), (2, .int (nI (w9)))] [] := by
  have hin_11 : ∀ u ∈ wsX110, u ∈ wsX11_changes := by decide +kernel
  have hl_79 : Cond.fieldLink RX11 79 "LineageBenchModel" "costs" "[I" ∈ wsX11_changes := by decide +kernel
  have h47 := (hM i hb_i).2.1
  refine g_lp1 (α := Nat) (fun p9 => p9 ≤ 4) (fun p9 => 4 - p9) (fun p9 => G p l e _ s m args below meth c _ w A _ (sI (sN σ (0) 0 (nI (0))) (21) (h)) 0 0 151 [(9, .int (nI (p9))), (8, .int (bsU (fun p => h (4 * u + p)) q p9)), (7, .int (nI (u))), (6, .int (y9)), (4, .int (nI (q))), (3, .int (nI (k))), (0, .ref (w.1 (0))), (1, .int (nI (i))), (2, .int (nI (w9)))] []) (fun p9 hI ih => ?_) (0) (Nat.zero_le _)
  refine g_iload (pc9 := 153) C rfl 0 dX11_changes_151 rfl ?_
  refine g_iconst (pc9 := 154) C rfl (nI (4)) dX11_changes_153 rfl ?_
  refine g_icmp_ge (pc9 := 157) C rfl 206 dX11_changes_154 rfl (fun c_1 => ?_) (fun c_1 => ?_)
  · replace c_1 := (nI_leI (by omega) (by omega)).mp c_1
    refine g_sub [0, 1, 2, 3, 4, 5, 6, 7, 8] [(9, .int (nI (p9))), (8, .int (bsU (fun p => h (4 * u + p)) q p9)), (7, .int (nI (u))), (6, .int (y9)), (4, .int (nI (q))), (3, .int (nI (k))), (0, .ref (w.1 (0))), (1, .int (nI (i))), (2, .int (nI (w9)))] rfl ?_
    have hp4 : p9 = 4 := by omega
    subst hp4
    exact kont
  · replace c_1 := (not_congr (nI_leI (by omega) (by omega))).mp c_1
    refine g_aload_n (pc9 := 158) C rfl 6 dX11_changes_157 rfl rfl ?_
    refine g_get (v := .ref (w.1 (21))) (pc9 := 161) C rfl (0) 30 dX11_changes_158 (by decide) (ce_0 w (sI (sN σ (0) 0 (nI (0))) (21) (h))) hin_11 hl_79 rfl (by decide) rfl rfl ?_
    refine g_iconst (pc9 := 162) C rfl (nI (4)) dX11_changes_161 rfl ?_
    refine g_iload (pc9 := 164) C rfl 2 dX11_changes_162 rfl ?_
    refine g_imulN (pc9 := 165) C rfl dX11_changes_164 ?_
    refine g_iload (pc9 := 167) C rfl 0 dX11_changes_165 rfl ?_
    refine g_iaddN (pc9 := 168) C rfl dX11_changes_167 ?_
    refine g_iald (x := h ((4 * u) + p9)) (pc9 := 169) C rfl (21) ((4 * u) + p9) dX11_changes_168 (by decide) (ce_21 w (sI (sN σ (0) 0 (nI (0))) (21) (h))) rfl (by omega) (by decide) (congrFun (iA_s) _) ?_
    refine g_iload (pc9 := 171) C rfl 0 dX11_changes_169 rfl ?_
    refine g_iload (pc9 := 173) C rfl 4 dX11_changes_171 rfl ?_
    refine g_icmp_ne (pc9 := 176) C rfl 180 dX11_changes_173 rfl (fun c_2 => ?_) (fun c_2 => ?_)
    · replace c_2 := (not_congr (nI_eq (by omega) (by omega))).mp c_2
      have he : (if p9 = q then nI 0 else nI 1) = nI 1 := if_neg c_2
      refine g_iconst (pc9 := 181) C rfl (nI (1)) dX11_changes_180 rfl ?_
      refine g_iadd (pc9 := 182) C rfl dX11_changes_181 ?_
      refine g_istore (pc9 := 184) C rfl [(10, .int ((h ((4 * u) + p9)) + (nI (1)))), (9, .int (nI (p9))), (8, .int (bsU (fun p => h (4 * u + p)) q p9)), (7, .int (nI (u))), (6, .int (y9)), (4, .int (nI (q))), (3, .int (nI (k))), (0, .ref (w.1 (0))), (1, .int (nI (i))), (2, .int (nI (w9)))] dX11_changes_182 (by decide) rfl ?_
      refine g_iload (pc9 := 186) C rfl 0 dX11_changes_184 rfl ?_
      refine g_iload (pc9 := 188) C rfl 2 dX11_changes_186 rfl ?_
      refine g_icmp_ge (pc9 := 191) C rfl 196 dX11_changes_188 rfl (fun c_3 => ?_) (fun c_3 => ?_)
      · have hs : bsU (fun p => h (4 * u + p)) q (p9 + 1) = bsU (fun p => h (4 * u + p)) q p9 := (congrArg (fun z => mn (bsU (fun p => h (4 * u + p)) q p9) (h (4 * u + p9) + z)) he).trans (if_neg (Int32.not_lt.mpr c_3))
        refine g_iload (pc9 := 198) C rfl 2 dX11_changes_196 rfl ?_
        refine g_istore (pc9 := 200) C rfl [(8, .int (bsU (fun p => h (4 * u + p)) q p9)), (10, .int ((h ((4 * u) + p9)) + (nI (1)))), (9, .int (nI (p9))), (7, .int (nI (u))), (6, .int (y9)), (4, .int (nI (q))), (3, .int (nI (k))), (0, .ref (w.1 (0))), (1, .int (nI (i))), (2, .int (nI (w9)))] dX11_changes_198 (by decide) rfl ?_
        refine g_iinc (pc9 := 203) C rfl [(9, .int (nI (p9 + 1))), (8, .int (bsU (fun p => h (4 * u + p)) q p9)), (10, .int ((h ((4 * u) + p9)) + (nI (1)))), (7, .int (nI (u))), (6, .int (y9)), (4, .int (nI (q))), (3, .int (nI (k))), (0, .ref (w.1 (0))), (1, .int (nI (i))), (2, .int (nI (w9)))] 2 (nI (p9 + 1)) dX11_changes_200 rfl (nI_1 (p9)) (by decide) rfl ?_
        refine g_goto C 151 dX11_changes_203 rfl ?_
        refine g_sub [0, 1, 3, 4, 5, 6, 7, 8, 9] [(9, .int (nI (p9 + 1))), (8, .int (bsU (fun p => h (4 * u + p)) q p9)), (7, .int (nI (u))), (6, .int (y9)), (4, .int (nI (q))), (3, .int (nI (k))), (0, .ref (w.1 (0))), (1, .int (nI (i))), (2, .int (nI (w9)))] rfl ?_
        refine g_l2 hs.symm ?_
        exact ih (p9 + 1) (by omega) (by omega)
      · have hs : bsU (fun p => h (4 * u + p)) q (p9 + 1) = _ := (congrArg (fun z => mn (bsU (fun p => h (4 * u + p)) q p9) (h (4 * u + p9) + z)) he).trans (if_pos (Int32.not_le.mp c_3))
        refine g_iload (pc9 := 193) C rfl 0 dX11_changes_191 rfl ?_
        refine g_goto C 198 dX11_changes_193 rfl ?_
        refine g_istore (pc9 := 200) C rfl [(8, .int ((h ((4 * u) + p9)) + (nI (1)))), (10, .int ((h ((4 * u) + p9)) + (nI (1)))), (9, .int (nI (p9))), (7, .int (nI (u))), (6, .int (y9)), (4, .int (nI (q))), (3, .int (nI (k))), (0, .ref (w.1 (0))), (1, .int (nI (i))), (2, .int (nI (w9)))] dX11_changes_198 (by decide) rfl ?_
        refine g_iinc (pc9 := 203) C rfl [(9, .int (nI (p9 + 1))), (8, .int ((h ((4 * u) + p9)) + (nI (1)))), (10, .int ((h ((4 * u) + p9)) + (nI (1)))), (7, .int (nI (u))), (6, .int (y9)), (4, .int (nI (q))), (3, .int (nI (k))), (0, .ref (w.1 (0))), (1, .int (nI (i))), (2, .int (nI (w9)))] 2 (nI (p9 + 1)) dX11_changes_200 rfl (nI_1 (p9)) (by decide) rfl ?_
        refine g_goto C 151 dX11_changes_203 rfl ?_
        refine g_sub [0, 1, 3, 4, 5, 6, 7, 8, 9] [(9, .int (nI (p9 + 1))), (8, .int ((h ((4 * u) + p9)) + (nI (1)))), (7, .int (nI (u))), (6, .int (y9)), (4, .int (nI (q))), (3, .int (nI (k))), (0, .ref (w.1 (0))), (1, .int (nI (i))), (2, .int (nI (w9)))] rfl ?_
        refine g_l2 hs.symm ?_
        exact ih (p9 + 1) (by omega) (by omega)
    · replace c_2 := (nI_eq (by omega) (by omega)).mp c_2
      have he : (if p9 = q then nI 0 else nI 1) = nI 0 := if_pos c_2
      refine g_iconst (pc9 := 177) C rfl (nI (0)) dX11_changes_176 rfl ?_
      refine g_goto C 181 dX11_changes_177 rfl ?_
      refine g_iadd (pc9 := 182) C rfl dX11_changes_181 ?_
      refine g_istore (pc9 := 184) C rfl [(10, .int ((h ((4 * u) + p9)) + (nI (0)))), (9, .int (nI (p9))), (8, .int (bsU (fun p => h (4 * u + p)) q p9)), (7, .int (nI (u))), (6, .int (y9)), (4, .int (nI (q))), (3, .int (nI (k))), (0, .ref (w.1 (0))), (1, .int (nI (i))), (2, .int (nI (w9)))] dX11_changes_182 (by decide) rfl ?_
      refine g_iload (pc9 := 186) C rfl 0 dX11_changes_184 rfl ?_
      refine g_iload (pc9 := 188) C rfl 2 dX11_changes_186 rfl ?_
      refine g_icmp_ge (pc9 := 191) C rfl 196 dX11_changes_188 rfl (fun c_4 => ?_) (fun c_4 => ?_)
      · have hs : bsU (fun p => h (4 * u + p)) q (p9 + 1) = bsU (fun p => h (4 * u + p)) q p9 := (congrArg (fun z => mn (bsU (fun p => h (4 * u + p)) q p9) (h (4 * u + p9) + z)) he).trans (if_neg (Int32.not_lt.mpr c_4))
        refine g_iload (pc9 := 198) C rfl 2 dX11_changes_196 rfl ?_
        refine g_istore (pc9 := 200) C rfl [(8, .int (bsU (fun p => h (4 * u + p)) q p9)), (10, .int ((h ((4 * u) + p9)) + (nI (0)))), (9, .int (nI (p9))), (7, .int (nI (u))), (6, .int (y9)), (4, .int (nI (q))), (3, .int (nI (k))), (0, .ref (w.1 (0))), (1, .int (nI (i))), (2, .int (nI (w9)))] dX11_changes_198 (by decide) rfl ?_
        refine g_iinc (pc9 := 203) C rfl [(9, .int (nI (p9 + 1))), (8, .int (bsU (fun p => h (4 * u + p)) q p9)), (10, .int ((h ((4 * u) + p9)) + (nI (0)))), (7, .int (nI (u))), (6, .int (y9)), (4, .int (nI (q))), (3, .int (nI (k))), (0, .ref (w.1 (0))), (1, .int (nI (i))), (2, .int (nI (w9)))] 2 (nI (p9 + 1)) dX11_changes_200 rfl (nI_1 (p9)) (by decide) rfl ?_
        refine g_goto C 151 dX11_changes_203 rfl ?_
        refine g_sub [0, 1, 3, 4, 5, 6, 7, 8, 9] [(9, .int (nI (p9 + 1))), (8, .int (bsU (fun p => h (4 * u + p)) q p9)), (7, .int (nI (u))), (6, .int (y9)), (4, .int (nI (q))), (3, .int (nI (k))), (0, .ref (w.1 (0))), (1, .int (nI (i))), (2, .int (nI (w9)))] rfl ?_
        refine g_l2 hs.symm ?_
        exact ih (p9 + 1) (by omega) (by omega)
      · have hs : bsU (fun p => h (4 * u + p)) q (p9 + 1) = _ := (congrArg (fun z => mn (bsU (fun p => h (4 * u + p)) q p9) (h (4 * u + p9) + z)) he).trans (if_pos (Int32.not_le.mp c_4))
        refine g_iload (pc9 := 193) C rfl 0 dX11_changes_191 rfl ?_
        refine g_goto C 198 dX11_changes_193 rfl ?_
        refine g_istore (pc9 := 200) C rfl [(8, .int ((h ((4 * u) + p9)) + (nI (0)))), (10, .int ((h ((4 * u) + p9)) + (nI (0)))), (9, .int (nI (p9))), (7, .int (nI (u))), (6, .int (y9)), (4, .int (nI (q))), (3, .int (nI (k))), (0, .ref (w.1 (0))), (1, .int (nI (i))), (2, .int (nI (w9)))] dX11_changes_198 (by decide) rfl ?_
        refine g_iinc (pc9 := 203) C rfl [(9, .int (nI (p9 + 1))), (8, .int ((h ((4 * u) + p9)) + (nI (0)))), (10, .int ((h ((4 * u) + p9)) + (nI (0)))), (7, .int (nI (u))), (6, .int (y9)), (4, .int (nI (q))), (3, .int (nI (k))), (0, .ref (w.1 (0))), (1, .int (nI (i))), (2, .int (nI (w9)))] 2 (nI (p9 + 1)) dX11_changes_200 rfl (nI_1 (p9)) (by decide) rfl ?_
        refine g_goto C 151 dX11_changes_203 rfl ?_
        refine g_sub [0, 1, 3, 4, 5, 6, 7, 8, 9] [(9, .int (nI (p9 + 1))), (8, .int ((h ((4 * u) + p9)) + (nI (0)))), (7, .int (nI (u))), (6, .int (y9)), (4, .int (nI (q))), (3, .int (nI (k))), (0, .ref (w.1 (0))), (1, .int (nI (i))), (2, .int (nI (w9)))] rfl ?_
        refine g_l2 hs.symm ?_
        exact ih (p9 + 1) (by omega) (by omega)
set_option maxRecDepth 100000 in
set_option maxHeartbeats 4000000 in
theorem m12_kids {p : Program} {l : Launch} {e : Env} {s : State} {m : MethodId} {args : Array Value} {below : List Frame} {meth : Method} {c : Code} {Q : State → Prop} {w : Wd} {A : Nat → Prop} (C : Cx p s m args c w A cX11_changes RX11 11 wsX11_changes) (σ : St) (hM : ∀ i, i < 8 → mtOk σ i) (i : Nat) (hb_i : i < 8) (w9 k q : Nat) (hk : k < mN σ i) (hq4 : q < 4) (h : Nat → Int32) (x0 : Int32) (hnx : nxC σ i k k x0) (kont : ∀ y9 : Int32, y9 = mcR σ i w9 k q h (mN σ i) → G p l e (rmL 2) s m args below meth c Q w A 11 (sI (sN σ (0) 0 (nI (0))) (21) (h)) 0 0 226 [(7, .int (-1)), (6, .int (y9)), (4, .int (nI (q))), (3, .int (nI (k))), (0, .ref (w.1 (0))), (1, .int (nI (i))), (2, .int (nI (w9)))] []) : G p l e (rmL 2) s m args below meth c Q w A 11 (sI (sN σ (0) 0 (nI (0))) (21) (h)) 0 0 139 [(7, .int (x0)), (6, .int (mcI σ i w9 k q)), (4, .int (nI (q))), (3, .int (nI (k))), (0, .ref (w.1 (0))), (1, .int (nI (i))), (2, .int (nI (w9)))] [] := by
  have h47 := (hM i hb_i).2.1
  refine g_lp2 (α := Int32) (β := Int32) (fun x y9 => (x = -1 ∧ y9 = mcR σ i w9 k q h (mN σ i)) ∨ (∃ u, x = nI u ∧ k < u ∧ u < mN σ i ∧ mP σ i u = nI k ∧ y9 = mcR σ i w9 k q h (u))) (fun x y9 => if x = -1 then 0 else mN σ i + 1 - x.toNatClampNeg) (fun x y9 => G p l e _ s m args below meth c _ w A _ (sI (sN σ (0) 0 (nI (0))) (21) (h)) 0 0 139 [(7, .int (x)), (6, .int (y9)), (4, .int (nI (q))), (3, .int (nI (k))), (0, .ref (w.1 (0))), (1, .int (nI (i))), (2, .int (nI (w9)))] []) (fun x y9 hI ih => ?_) (x0) (mcI σ i w9 k q) (mcR_ini hnx)
  rcases hI with ⟨hx, hy⟩ | ⟨u, hx, hu1, hu2, hu3, hy⟩
  · subst hx
    refine g_iload (pc9 := 141) C rfl 0 dX11_changes_139 rfl ?_
    refine g_if_lt (pc9 := 144) C rfl 226 dX11_changes_141 rfl (fun c_1 => ?_) (fun c_1 => ?_)
    · exact kont y9 hy
    · exact absurd (by decide) c_1
  · subst hx
    refine g_iload (pc9 := 141) C rfl 0 dX11_changes_139 rfl ?_
    refine g_if_lt (pc9 := 144) C rfl 226 dX11_changes_141 rfl (fun c_2 => ?_) (fun c_2 => ?_)
    · replace c_2 := (z_lt (by omega)).mp c_2
      exact absurd c_2 (by simp)
    · replace c_2 := (not_congr (z_lt (by omega))).mp c_2
      refine g_ldc (pc9 := 146) C rfl (nI (100000)) dX11_changes_144 (by decide +kernel) ?_
      refine g_istore (pc9 := 148) C rfl [(8, .int (nI (100000))), (7, .int (nI (u))), (6, .int (y9)), (4, .int (nI (q))), (3, .int (nI (k))), (0, .ref (w.1 (0))), (1, .int (nI (i))), (2, .int (nI (w9)))] dX11_changes_146 (by decide) rfl ?_
      refine g_iconst (pc9 := 149) C rfl (nI (0)) dX11_changes_148 rfl ?_
      refine g_istore (pc9 := 151) C rfl [(9, .int (nI (0))), (8, .int (nI (100000))), (7, .int (nI (u))), (6, .int (y9)), (4, .int (nI (q))), (3, .int (nI (k))), (0, .ref (w.1 (0))), (1, .int (nI (i))), (2, .int (nI (w9)))] dX11_changes_149 (by decide) rfl ?_
      refine g_sub [0, 1, 2, 3, 4, 5, 6, 7, 8] [(9, .int (nI (0))), (8, .int (nI (100000))), (7, .int (nI (u))), (6, .int (y9)), (4, .int (nI (q))), (3, .int (nI (k))), (0, .ref (w.1 (0))), (1, .int (nI (i))), (2, .int (nI (w9)))] rfl ?_
      refine g_l2 (x9 := bsU (fun p => h (4 * u + p)) q 0) bsU_0.symm ?_
      refine m12_best C σ hM i hb_i w9 k q hk hq4 u hu2 h y9 ?_
      refine g_iload (pc9 := 208) C rfl 3 dX11_changes_206 rfl ?_
      refine g_iload (pc9 := 210) C rfl 1 dX11_changes_208 rfl ?_
      refine g_iadd (pc9 := 211) C rfl dX11_changes_210 ?_
      refine g_istore (pc9 := 213) C rfl [(6, .int ((y9) + (bsU (fun p => h (4 * u + p)) q 4))), (9, .int (nI (4))), (8, .int (bsU (fun p => h (4 * u + p)) q 4)), (7, .int (nI (u))), (4, .int (nI (q))), (3, .int (nI (k))), (0, .ref (w.1 (0))), (1, .int (nI (i))), (2, .int (nI (w9)))] dX11_changes_211 (by decide) rfl ?_
      refine g_aload_n (pc9 := 214) C rfl 6 dX11_changes_213 rfl rfl ?_
      refine g_iload_n (pc9 := 215) C rfl 7 dX11_changes_214 rfl rfl ?_
      refine g_iload_n (pc9 := 216) C rfl 5 dX11_changes_215 rfl rfl ?_
      refine g_iload (pc9 := 218) C rfl 3 dX11_changes_216 rfl ?_
      refine g_callVi (nn := 3) (rest := []) (pc9 := 221) C rfl (0) [.int (nI (i)), .int (nI (k)), .int (nI (u))] rfl dX11_changes_218 (m_X11_child l w (sI (sN σ (0) 0 (nI (0))) (21) (h)) i hb_i (hM i hb_i) k u (show u < mN σ i by omega) (by omega)) gX11_changes_X11_child (by decide) (ce_0 w (sI (sN σ (0) 0 (nI (0))) (21) (h))) rfl rfl rfl rfl rfl (by decide +kernel) ⟨by decide, by decide⟩ rfl (Nat.le_of_ble_eq_true rfl) ⟨by decide, by decide⟩ (fun r_3 σ_3 q_3 => ?_)
      obtain ⟨qs_3, hnx2⟩ := q_3
      rw [qs_3]
      replace hnx2 : nxC σ i k u r_3 := hnx2
      refine g_istore (pc9 := 223) C rfl [(7, .int (r_3)), (6, .int ((y9) + (bsU (fun p => h (4 * u + p)) q 4))), (9, .int (nI (4))), (8, .int (bsU (fun p => h (4 * u + p)) q 4)), (4, .int (nI (q))), (3, .int (nI (k))), (0, .ref (w.1 (0))), (1, .int (nI (i))), (2, .int (nI (w9)))] dX11_changes_221 (by decide) rfl ?_
      refine g_goto C 139 dX11_changes_223 rfl ?_
      refine g_sub [0, 1, 4, 5, 6, 7, 8] [(7, .int (r_3)), (6, .int ((y9) + (bsU (fun p => h (4 * u + p)) q 4))), (4, .int (nI (q))), (3, .int (nI (k))), (0, .ref (w.1 (0))), (1, .int (nI (i))), (2, .int (nI (w9)))] rfl ?_
      exact ih _ _ (mcR_nx hu1 hu2 hu3 hy hnx2) (nx_mu (by omega) hu2 hnx2)
set_option maxRecDepth 100000 in
set_option maxHeartbeats 4000000 in
theorem m12_row {p : Program} {l : Launch} {e : Env} {s : State} {m : MethodId} {args : Array Value} {below : List Frame} {meth : Method} {c : Code} {Q : State → Prop} {w : Wd} {A : Nat → Prop} (C : Cx p s m args c w A cX11_changes RX11 11 wsX11_changes) (σ : St) (hM : ∀ i, i < 8 → mtOk σ i) (i : Nat) (hb_i : i < 8) (w9 : Nat) (hw9 : w9 < 8) (k q : Nat) (hk : k < mN σ i) (hq4 : q < 4) (h : Nat → Int32) (kont : ∀ y9 : Int32, y9 = mcR σ i w9 k q h (mN σ i) → G p l e (rmL 2) s m args below meth c Q w A 11 (sI (sN σ (0) 0 (nI (0))) (21) (upd (h) (4 * k + q) (y9))) 0 0 80 [(4, .int (nI (q + 1))), (3, .int (nI (k))), (0, .ref (w.1 (0))), (1, .int (nI (i))), (2, .int (nI (w9)))] []) : G p l e (rmL 2) s m args below meth c Q w A 11 (sI (sN σ (0) 0 (nI (0))) (21) (h)) 0 0 80 [(4, .int (nI (q))), (3, .int (nI (k))), (0, .ref (w.1 (0))), (1, .int (nI (i))), (2, .int (nI (w9)))] [] := by
  have hin_11 : ∀ u ∈ wsX110, u ∈ wsX11_changes := by decide +kernel
  have hl_24 : Cond.fieldLink RX11 24 "LineageBenchModel" "kind" "[I" ∈ wsX11_changes := by decide +kernel
  have hl_39 : Cond.fieldLink RX11 39 "LineageBenchModel" "states" "[I" ∈ wsX11_changes := by decide +kernel
  have hl_79 : Cond.fieldLink RX11 79 "LineageBenchModel" "costs" "[I" ∈ wsX11_changes := by decide +kernel
  have h47 := (hM i hb_i).2.1
  have hKi := (hM i hb_i).2.2.2.2 k hk
  have hci : mK σ i k < 0 ∨ ∃ c9, c9 < 12 ∧ mK σ i k = nI c9 := by rcases hKi with e | ⟨c9, h1, h2⟩; (left; rw [e]; decide); exact Or.inr ⟨c9, h1, h2⟩
  rcases hci with hneg | ⟨c9, hc9, hce⟩
  · skip
    refine g_iload (pc9 := 82) C rfl 0 dX11_changes_80 rfl ?_
    refine g_iconst (pc9 := 83) C rfl (nI (4)) dX11_changes_82 rfl ?_
    refine g_icmp_ge (pc9 := 86) C rfl 245 dX11_changes_83 rfl (fun c_1 => ?_) (fun c_1 => ?_)
    · replace c_1 := (nI_leI (by omega) (by omega)).mp c_1
      exact absurd hq4 (by omega)
    · replace c_1 := (not_congr (nI_leI (by omega) (by omega))).mp c_1
      refine g_aload_n (pc9 := 87) C rfl 2 dX11_changes_86 rfl rfl ?_
      refine g_get (v := .ref (w.1 (4))) (pc9 := 90) C rfl (0) 7 dX11_changes_87 (by decide) (ce_0 w (sI (sN σ (0) 0 (nI (0))) (21) (h))) hin_11 hl_24 rfl (by decide) rfl rfl ?_
      refine g_bipush (pc9 := 92) C rfl (nI (47)) dX11_changes_90 rfl ?_
      refine g_iload_n (pc9 := 93) C rfl 3 dX11_changes_92 rfl rfl ?_
      refine g_imulN (pc9 := 94) C rfl dX11_changes_93 ?_
      refine g_iload_n (pc9 := 95) C rfl 1 dX11_changes_94 rfl rfl ?_
      refine g_iaddN (pc9 := 96) C rfl dX11_changes_95 ?_
      refine g_iald (x := (iA σ (4)) ((47 * i) + k)) (pc9 := 97) C rfl (4) ((47 * i) + k) dX11_changes_96 (by decide) (ce_4 w (sI (sN σ (0) 0 (nI (0))) (21) (h))) rfl (by omega) (by decide) (congrFun ((iA_n (by decide)).trans (iA_N)) _) ?_
      refine g_istore (pc9 := 99) C rfl [(5, .int ((iA σ (4)) ((47 * i) + k))), (4, .int (nI (q))), (3, .int (nI (k))), (0, .ref (w.1 (0))), (1, .int (nI (i))), (2, .int (nI (w9)))] dX11_changes_97 (by decide) rfl ?_
      refine g_iload (pc9 := 101) C rfl 0 dX11_changes_99 rfl ?_
      refine g_if_lt (pc9 := 104) C rfl 127 dX11_changes_101 rfl (fun c_2 => ?_) (fun c_2 => ?_)
      · refine g_iconst (pc9 := 128) C rfl (nI (0)) dX11_changes_127 rfl ?_
        refine g_istore (pc9 := 130) C rfl [(6, .int (nI (0))), (5, .int ((iA σ (4)) ((47 * i) + k))), (4, .int (nI (q))), (3, .int (nI (k))), (0, .ref (w.1 (0))), (1, .int (nI (i))), (2, .int (nI (w9)))] dX11_changes_128 (by decide) rfl ?_
        refine g_lv (lv9 := [(6, .int (mcI σ i w9 k q)), (5, .int ((iA σ (4)) ((47 * i) + k))), (4, .int (nI (q))), (3, .int (nI (k))), (0, .ref (w.1 (0))), (1, .int (nI (i))), (2, .int (nI (w9)))]) (by rw [show mcI σ i w9 k q = nI 0 from if_pos hneg]) ?_
        refine g_aload_n (pc9 := 131) C rfl 4 dX11_changes_130 rfl rfl ?_
        refine g_iload_n (pc9 := 132) C rfl 5 dX11_changes_131 rfl rfl ?_
        refine g_iload_n (pc9 := 133) C rfl 3 dX11_changes_132 rfl rfl ?_
        refine g_iload_n (pc9 := 134) C rfl 3 dX11_changes_133 rfl rfl ?_
        refine g_callVi (nn := 3) (rest := []) (pc9 := 137) C rfl (0) [.int (nI (i)), .int (nI (k)), .int (nI (k))] rfl dX11_changes_134 (m_X11_child l w (sI (sN σ (0) 0 (nI (0))) (21) (h)) i hb_i (hM i hb_i) k k (show k < mN σ i by omega) (by omega)) gX11_changes_X11_child (by decide) (ce_0 w (sI (sN σ (0) 0 (nI (0))) (21) (h))) rfl rfl rfl rfl rfl (by decide +kernel) ⟨by decide, by decide⟩ rfl (Nat.le_of_ble_eq_true rfl) ⟨by decide, by decide⟩ (fun r_3 σ_3 q_3 => ?_)
        obtain ⟨qs_3, hnx⟩ := q_3
        rw [qs_3]
        replace hnx : nxC σ i k k r_3 := hnx
        refine g_istore (pc9 := 139) C rfl [(7, .int (r_3)), (6, .int (mcI σ i w9 k q)), (5, .int ((iA σ (4)) ((47 * i) + k))), (4, .int (nI (q))), (3, .int (nI (k))), (0, .ref (w.1 (0))), (1, .int (nI (i))), (2, .int (nI (w9)))] dX11_changes_137 (by decide) rfl ?_
        refine g_sub [0, 1, 3, 4, 5, 6, 7] [(7, .int (r_3)), (6, .int (mcI σ i w9 k q)), (4, .int (nI (q))), (3, .int (nI (k))), (0, .ref (w.1 (0))), (1, .int (nI (i))), (2, .int (nI (w9)))] rfl ?_
        refine m12_kids C σ hM i hb_i w9 k q hk hq4 h (r_3) hnx (fun y9 hy => ?_)
        refine g_aload_n (pc9 := 227) C rfl 4 dX11_changes_226 rfl rfl ?_
        refine g_get (v := .ref (w.1 (21))) (pc9 := 230) C rfl (0) 30 dX11_changes_227 (by decide) (ce_0 w (sI (sN σ (0) 0 (nI (0))) (21) (h))) hin_11 hl_79 rfl (by decide) rfl rfl ?_
        refine g_iconst (pc9 := 231) C rfl (nI (4)) dX11_changes_230 rfl ?_
        refine g_iload_n (pc9 := 232) C rfl 3 dX11_changes_231 rfl rfl ?_
        refine g_imulN (pc9 := 233) C rfl dX11_changes_232 ?_
        refine g_iload (pc9 := 235) C rfl 2 dX11_changes_233 rfl ?_
        refine g_iaddN (pc9 := 236) C rfl dX11_changes_235 ?_
        refine g_iload (pc9 := 238) C rfl 1 dX11_changes_236 rfl ?_
        refine g_iast (pc9 := 239) C rfl (21) ((4 * k) + q) (h) dX11_changes_238 (by decide) (fun _ => rfl) (ce_21 w (sI (sN σ (0) 0 (nI (0))) (21) (h))) rfl (by omega) (by decide) (iA_s) ?_
        rw [sI_sI (a := 21)]
        refine g_iinc (pc9 := 242) C rfl [(4, .int (nI (q + 1))), (7, .int (-1)), (6, .int (y9)), (3, .int (nI (k))), (0, .ref (w.1 (0))), (1, .int (nI (i))), (2, .int (nI (w9)))] 2 (nI (q + 1)) dX11_changes_239 rfl (nI_1 (q)) (by decide) rfl ?_
        refine g_goto C 80 dX11_changes_242 rfl ?_
        refine g_sub [0, 3, 4, 5, 6] [(4, .int (nI (q + 1))), (3, .int (nI (k))), (0, .ref (w.1 (0))), (1, .int (nI (i))), (2, .int (nI (w9)))] rfl ?_
        exact kont y9 hy
      · exact absurd hneg c_2
  · skip
    refine g_iload (pc9 := 82) C rfl 0 dX11_changes_80 rfl ?_
    refine g_iconst (pc9 := 83) C rfl (nI (4)) dX11_changes_82 rfl ?_
    refine g_icmp_ge (pc9 := 86) C rfl 245 dX11_changes_83 rfl (fun c_4 => ?_) (fun c_4 => ?_)
    · replace c_4 := (nI_leI (by omega) (by omega)).mp c_4
      exact absurd hq4 (by omega)
    · replace c_4 := (not_congr (nI_leI (by omega) (by omega))).mp c_4
      refine g_aload_n (pc9 := 87) C rfl 2 dX11_changes_86 rfl rfl ?_
      refine g_get (v := .ref (w.1 (4))) (pc9 := 90) C rfl (0) 7 dX11_changes_87 (by decide) (ce_0 w (sI (sN σ (0) 0 (nI (0))) (21) (h))) hin_11 hl_24 rfl (by decide) rfl rfl ?_
      refine g_bipush (pc9 := 92) C rfl (nI (47)) dX11_changes_90 rfl ?_
      refine g_iload_n (pc9 := 93) C rfl 3 dX11_changes_92 rfl rfl ?_
      refine g_imulN (pc9 := 94) C rfl dX11_changes_93 ?_
      refine g_iload_n (pc9 := 95) C rfl 1 dX11_changes_94 rfl rfl ?_
      refine g_iaddN (pc9 := 96) C rfl dX11_changes_95 ?_
      refine g_iald (x := (iA σ (4)) ((47 * i) + k)) (pc9 := 97) C rfl (4) ((47 * i) + k) dX11_changes_96 (by decide) (ce_4 w (sI (sN σ (0) 0 (nI (0))) (21) (h))) rfl (by omega) (by decide) (congrFun ((iA_n (by decide)).trans (iA_N)) _) ?_
      refine g_istore (pc9 := 99) C rfl [(5, .int ((iA σ (4)) ((47 * i) + k))), (4, .int (nI (q))), (3, .int (nI (k))), (0, .ref (w.1 (0))), (1, .int (nI (i))), (2, .int (nI (w9)))] dX11_changes_97 (by decide) rfl ?_
      refine g_iload (pc9 := 101) C rfl 0 dX11_changes_99 rfl ?_
      refine g_if_lt (pc9 := 104) C rfl 127 dX11_changes_101 rfl (fun c_5 => ?_) (fun c_5 => ?_)
      · exact absurd c_5 (by show ¬ mK σ i k < 0; rw [hce]; exact nI_pos (by omega))
      · refine g_aload_n (pc9 := 105) C rfl 3 dX11_changes_104 rfl rfl ?_
        refine g_get (v := .ref (w.1 (9))) (pc9 := 108) C rfl (0) 14 dX11_changes_105 (by decide) (ce_0 w (sI (sN σ (0) 0 (nI (0))) (21) (h))) hin_11 hl_39 rfl (by decide) rfl rfl ?_
        refine g_bipush (pc9 := 110) C rfl (nI (12)) dX11_changes_108 rfl ?_
        refine g_iload_n (pc9 := 111) C rfl 5 dX11_changes_110 rfl rfl ?_
        refine g_imulN (pc9 := 112) C rfl dX11_changes_111 ?_
        refine g_iload (pc9 := 114) C rfl 0 dX11_changes_112 rfl ?_
        refine g_iadd (pc9 := 115) C rfl dX11_changes_114 ?_
        refine g_sk (v9 := .int (nI (12 * w9 + c9))) (congrArg Value.int (by rw [show nI (12 * w9) + mK σ i k = nI (12 * w9 + c9) from by rw [hce]; exact nI_add _ _])) ?_
        refine g_iald (x := (iA σ (9)) (12 * w9 + c9)) (pc9 := 116) C rfl (9) (12 * w9 + c9) dX11_changes_115 (by decide) (ce_9 w (sI (sN σ (0) 0 (nI (0))) (21) (h))) rfl (by omega) (by decide) (congrFun ((iA_n (by decide)).trans (iA_N)) _) ?_
        refine g_iload (pc9 := 118) C rfl 1 dX11_changes_116 rfl ?_
        refine g_icmp_eq (pc9 := 121) C rfl 127 dX11_changes_118 rfl (fun c_6 => ?_) (fun c_6 => ?_)
        · have hin : mcI σ i w9 k q = nI 0 := mcI_y hce hc9 (c_6)
          refine g_iconst (pc9 := 128) C rfl (nI (0)) dX11_changes_127 rfl ?_
          refine g_istore (pc9 := 130) C rfl [(6, .int (nI (0))), (5, .int ((iA σ (4)) ((47 * i) + k))), (4, .int (nI (q))), (3, .int (nI (k))), (0, .ref (w.1 (0))), (1, .int (nI (i))), (2, .int (nI (w9)))] dX11_changes_128 (by decide) rfl ?_
          refine g_lv (lv9 := [(6, .int (mcI σ i w9 k q)), (5, .int ((iA σ (4)) ((47 * i) + k))), (4, .int (nI (q))), (3, .int (nI (k))), (0, .ref (w.1 (0))), (1, .int (nI (i))), (2, .int (nI (w9)))]) (by rw [hin]) ?_
          refine g_aload_n (pc9 := 131) C rfl 4 dX11_changes_130 rfl rfl ?_
          refine g_iload_n (pc9 := 132) C rfl 5 dX11_changes_131 rfl rfl ?_
          refine g_iload_n (pc9 := 133) C rfl 3 dX11_changes_132 rfl rfl ?_
          refine g_iload_n (pc9 := 134) C rfl 3 dX11_changes_133 rfl rfl ?_
          refine g_callVi (nn := 3) (rest := []) (pc9 := 137) C rfl (0) [.int (nI (i)), .int (nI (k)), .int (nI (k))] rfl dX11_changes_134 (m_X11_child l w (sI (sN σ (0) 0 (nI (0))) (21) (h)) i hb_i (hM i hb_i) k k (show k < mN σ i by omega) (by omega)) gX11_changes_X11_child (by decide) (ce_0 w (sI (sN σ (0) 0 (nI (0))) (21) (h))) rfl rfl rfl rfl rfl (by decide +kernel) ⟨by decide, by decide⟩ rfl (Nat.le_of_ble_eq_true rfl) ⟨by decide, by decide⟩ (fun r_7 σ_7 q_7 => ?_)
          obtain ⟨qs_7, hnx⟩ := q_7
          rw [qs_7]
          replace hnx : nxC σ i k k r_7 := hnx
          refine g_istore (pc9 := 139) C rfl [(7, .int (r_7)), (6, .int (mcI σ i w9 k q)), (5, .int ((iA σ (4)) ((47 * i) + k))), (4, .int (nI (q))), (3, .int (nI (k))), (0, .ref (w.1 (0))), (1, .int (nI (i))), (2, .int (nI (w9)))] dX11_changes_137 (by decide) rfl ?_
          refine g_sub [0, 1, 3, 4, 5, 6, 7] [(7, .int (r_7)), (6, .int (mcI σ i w9 k q)), (4, .int (nI (q))), (3, .int (nI (k))), (0, .ref (w.1 (0))), (1, .int (nI (i))), (2, .int (nI (w9)))] rfl ?_
          refine m12_kids C σ hM i hb_i w9 k q hk hq4 h (r_7) hnx (fun y9 hy => ?_)
          refine g_aload_n (pc9 := 227) C rfl 4 dX11_changes_226 rfl rfl ?_
          refine g_get (v := .ref (w.1 (21))) (pc9 := 230) C rfl (0) 30 dX11_changes_227 (by decide) (ce_0 w (sI (sN σ (0) 0 (nI (0))) (21) (h))) hin_11 hl_79 rfl (by decide) rfl rfl ?_
          refine g_iconst (pc9 := 231) C rfl (nI (4)) dX11_changes_230 rfl ?_
          refine g_iload_n (pc9 := 232) C rfl 3 dX11_changes_231 rfl rfl ?_
          refine g_imulN (pc9 := 233) C rfl dX11_changes_232 ?_
          refine g_iload (pc9 := 235) C rfl 2 dX11_changes_233 rfl ?_
          refine g_iaddN (pc9 := 236) C rfl dX11_changes_235 ?_
          refine g_iload (pc9 := 238) C rfl 1 dX11_changes_236 rfl ?_
          refine g_iast (pc9 := 239) C rfl (21) ((4 * k) + q) (h) dX11_changes_238 (by decide) (fun _ => rfl) (ce_21 w (sI (sN σ (0) 0 (nI (0))) (21) (h))) rfl (by omega) (by decide) (iA_s) ?_
          rw [sI_sI (a := 21)]
          refine g_iinc (pc9 := 242) C rfl [(4, .int (nI (q + 1))), (7, .int (-1)), (6, .int (y9)), (3, .int (nI (k))), (0, .ref (w.1 (0))), (1, .int (nI (i))), (2, .int (nI (w9)))] 2 (nI (q + 1)) dX11_changes_239 rfl (nI_1 (q)) (by decide) rfl ?_
          refine g_goto C 80 dX11_changes_242 rfl ?_
          refine g_sub [0, 3, 4, 5, 6] [(4, .int (nI (q + 1))), (3, .int (nI (k))), (0, .ref (w.1 (0))), (1, .int (nI (i))), (2, .int (nI (w9)))] rfl ?_
          exact kont y9 hy
        · have hin : mcI σ i w9 k q = nI 1000 := mcI_n hce hc9 (c_6)
          refine g_sipush (pc9 := 124) C rfl (nI (1000)) dX11_changes_121 rfl ?_
          refine g_goto C 128 dX11_changes_124 rfl ?_
          refine g_istore (pc9 := 130) C rfl [(6, .int (nI (1000))), (5, .int ((iA σ (4)) ((47 * i) + k))), (4, .int (nI (q))), (3, .int (nI (k))), (0, .ref (w.1 (0))), (1, .int (nI (i))), (2, .int (nI (w9)))] dX11_changes_128 (by decide) rfl ?_
          refine g_lv (lv9 := [(6, .int (mcI σ i w9 k q)), (5, .int ((iA σ (4)) ((47 * i) + k))), (4, .int (nI (q))), (3, .int (nI (k))), (0, .ref (w.1 (0))), (1, .int (nI (i))), (2, .int (nI (w9)))]) (by rw [hin]) ?_
          refine g_aload_n (pc9 := 131) C rfl 4 dX11_changes_130 rfl rfl ?_
          refine g_iload_n (pc9 := 132) C rfl 5 dX11_changes_131 rfl rfl ?_
          refine g_iload_n (pc9 := 133) C rfl 3 dX11_changes_132 rfl rfl ?_
          refine g_iload_n (pc9 := 134) C rfl 3 dX11_changes_133 rfl rfl ?_
          refine g_callVi (nn := 3) (rest := []) (pc9 := 137) C rfl (0) [.int (nI (i)), .int (nI (k)), .int (nI (k))] rfl dX11_changes_134 (m_X11_child l w (sI (sN σ (0) 0 (nI (0))) (21) (h)) i hb_i (hM i hb_i) k k (show k < mN σ i by omega) (by omega)) gX11_changes_X11_child (by decide) (ce_0 w (sI (sN σ (0) 0 (nI (0))) (21) (h))) rfl rfl rfl rfl rfl (by decide +kernel) ⟨by decide, by decide⟩ rfl (Nat.le_of_ble_eq_true rfl) ⟨by decide, by decide⟩ (fun r_8 σ_8 q_8 => ?_)
          obtain ⟨qs_8, hnx⟩ := q_8
          rw [qs_8]
          replace hnx : nxC σ i k k r_8 := hnx
          refine g_istore (pc9 := 139) C rfl [(7, .int (r_8)), (6, .int (mcI σ i w9 k q)), (5, .int ((iA σ (4)) ((47 * i) + k))), (4, .int (nI (q))), (3, .int (nI (k))), (0, .ref (w.1 (0))), (1, .int (nI (i))), (2, .int (nI (w9)))] dX11_changes_137 (by decide) rfl ?_
          refine g_sub [0, 1, 3, 4, 5, 6, 7] [(7, .int (r_8)), (6, .int (mcI σ i w9 k q)), (4, .int (nI (q))), (3, .int (nI (k))), (0, .ref (w.1 (0))), (1, .int (nI (i))), (2, .int (nI (w9)))] rfl ?_
          refine m12_kids C σ hM i hb_i w9 k q hk hq4 h (r_8) hnx (fun y9 hy => ?_)
          refine g_aload_n (pc9 := 227) C rfl 4 dX11_changes_226 rfl rfl ?_
          refine g_get (v := .ref (w.1 (21))) (pc9 := 230) C rfl (0) 30 dX11_changes_227 (by decide) (ce_0 w (sI (sN σ (0) 0 (nI (0))) (21) (h))) hin_11 hl_79 rfl (by decide) rfl rfl ?_
          refine g_iconst (pc9 := 231) C rfl (nI (4)) dX11_changes_230 rfl ?_
          refine g_iload_n (pc9 := 232) C rfl 3 dX11_changes_231 rfl rfl ?_
          refine g_imulN (pc9 := 233) C rfl dX11_changes_232 ?_
          refine g_iload (pc9 := 235) C rfl 2 dX11_changes_233 rfl ?_
          refine g_iaddN (pc9 := 236) C rfl dX11_changes_235 ?_
          refine g_iload (pc9 := 238) C rfl 1 dX11_changes_236 rfl ?_
          refine g_iast (pc9 := 239) C rfl (21) ((4 * k) + q) (h) dX11_changes_238 (by decide) (fun _ => rfl) (ce_21 w (sI (sN σ (0) 0 (nI (0))) (21) (h))) rfl (by omega) (by decide) (iA_s) ?_
          rw [sI_sI (a := 21)]
          refine g_iinc (pc9 := 242) C rfl [(4, .int (nI (q + 1))), (7, .int (-1)), (6, .int (y9)), (3, .int (nI (k))), (0, .ref (w.1 (0))), (1, .int (nI (i))), (2, .int (nI (w9)))] 2 (nI (q + 1)) dX11_changes_239 rfl (nI_1 (q)) (by decide) rfl ?_
          refine g_goto C 80 dX11_changes_242 rfl ?_
          refine g_sub [0, 3, 4, 5, 6] [(4, .int (nI (q + 1))), (3, .int (nI (k))), (0, .ref (w.1 (0))), (1, .int (nI (i))), (2, .int (nI (w9)))] rfl ?_
          exact kont y9 hy
set_option maxRecDepth 100000 in
set_option maxHeartbeats 4000000 in
theorem m12_q {p : Program} {l : Launch} {e : Env} {s : State} {m : MethodId} {args : Array Value} {below : List Frame} {meth : Method} {c : Code} {Q : State → Prop} {w : Wd} {A : Nat → Prop} (C : Cx p s m args c w A cX11_changes RX11 11 wsX11_changes) (σ : St) (hM : ∀ i, i < 8 → mtOk σ i) (i : Nat) (hb_i : i < 8) (w9 : Nat) (hw9 : w9 < 8) (k : Nat) (hk : k < mN σ i) (g : Nat → Int32) (kont : ∀ h : Nat → Int32, (∀ z, (∀ p, p < 4 → z ≠ 4 * k + p) → h z = g z) → (∀ p, p < 4 → h (4 * k + p) = mcR σ i w9 k p g (mN σ i)) → G p l e (rmL 2) s m args below meth c Q w A 11 (sI (sN σ (0) 0 (nI (0))) (21) (h)) 0 0 245 [(4, .int (nI (4))), (3, .int (nI (k))), (0, .ref (w.1 (0))), (1, .int (nI (i))), (2, .int (nI (w9)))] []) : G p l e (rmL 2) s m args below meth c Q w A 11 (sI (sN σ (0) 0 (nI (0))) (21) (g)) 0 0 80 [(4, .int (nI (0))), (3, .int (nI (k))), (0, .ref (w.1 (0))), (1, .int (nI (i))), (2, .int (nI (w9)))] [] := by
  have h47 := (hM i hb_i).2.1
  refine g_lp2 (α := Nat) (β := Nat → Int32) (fun q h => q ≤ 4 ∧ (∀ z, (∀ p, p < 4 → z ≠ 4 * k + p) → h z = g z) ∧ ∀ p, p < q → h (4 * k + p) = mcR σ i w9 k p g (mN σ i)) (fun q h => 4 - q) (fun q h => G p l e _ s m args below meth c _ w A _ (sI (sN σ (0) 0 (nI (0))) (21) (h)) 0 0 80 [(4, .int (nI (q))), (3, .int (nI (k))), (0, .ref (w.1 (0))), (1, .int (nI (i))), (2, .int (nI (w9)))] []) (fun q h hI ih => ?_) (0) (g) ⟨Nat.zero_le _, fun _ _ => rfl, fun p hp => absurd hp (by omega)⟩
  obtain ⟨hq, hh1, hh2⟩ := hI
  by_cases hq4 : q < 4
  · refine m12_row C σ hM i hb_i w9 hw9 k q hk hq4 h (fun y9 hy => ?_)
    exact ih (q + 1) _ (mcQ_s hq hh1 hh2 hq4 hy) (by omega)
  · have hq9 : q = 4 := by omega
    subst hq9
    refine g_iload (pc9 := 82) C rfl 0 dX11_changes_80 rfl ?_
    refine g_iconst (pc9 := 83) C rfl (nI (4)) dX11_changes_82 rfl ?_
    refine g_icmp_ge (pc9 := 86) C rfl 245 dX11_changes_83 rfl (fun c_1 => ?_) (fun c_1 => ?_)
    · refine g_sub [0, 1, 2, 3, 4] [(4, .int (nI (4))), (3, .int (nI (k))), (0, .ref (w.1 (0))), (1, .int (nI (i))), (2, .int (nI (w9)))] rfl ?_
      exact kont h hh1 hh2
    · exact absurd c_1 (by decide)
set_option maxRecDepth 100000 in
set_option maxHeartbeats 4000000 in
theorem m_X11_changes (l : Launch) (w : Wd) (σ : St) (hM : ∀ i, i < 8 → mtOk σ i) (x y : Int32) : MI l yX11_changes wsX11_changes (rmL 2) w [.ref (w.1 (0)), .int (x), .int (y)] (σ) (mchP σ x y) := by
  refine MI_of (cc := cX11_changes) (maxL := 11) (ret := .int) (by decide) rfl (Nat.le_of_ble_eq_true rfl) ?_
  intro p e s m args below meth c A C hr hlk
  have C : Cx p s m args c w A cX11_changes RX11 11 wsX11_changes := C
  have hin_11 : ∀ u ∈ wsX110, u ∈ wsX11_changes := by decide +kernel
  have hl_17 : Cond.fieldLink RX11 17 "LineageBenchModel" "many" "[I" ∈ wsX11_changes := by decide +kernel
  have hl_79 : Cond.fieldLink RX11 79 "LineageBenchModel" "costs" "[I" ∈ wsX11_changes := by decide +kernel
  have hl_107 : Cond.fieldLink RX11 107 "LineageBenchModel" "thrown" "I" ∈ wsX11_changes := by decide +kernel
  refine g_aload_n (pc9 := 1) C rfl 0 dX11_changes_0 rfl rfl ?_
  refine g_iconst (pc9 := 2) C rfl (nI (0)) dX11_changes_1 rfl ?_
  refine g_put (pc9 := 5) C rfl (0) 0 dX11_changes_2 (by decide) (ce_0 w (σ)) (rfl) hin_11 hl_107 tyX11 tyX11_ok nmX11 rfl (by decide) rfl rfl rfl (Nat.le_of_ble_eq_true rfl) ?_
  refine g_aload_n (pc9 := 6) C rfl 0 dX11_changes_5 rfl rfl ?_
  refine g_iload_n (pc9 := 7) C rfl 1 dX11_changes_6 rfl rfl ?_
  refine g_callSi (nn := 1) (rest := [.ref (w.1 (0))]) (pc9 := 10) C rfl [.int (x)] rfl dX11_changes_7 (m_X11_noShelf l w (sN σ (0) 0 (nI (0))) x) gX11_changes_X11_noShelf rfl rfl rfl (by decide +kernel) ⟨by decide, by decide⟩ rfl (Nat.le_of_ble_eq_true rfl) ⟨by decide, by decide⟩ (fun r_1 σ_1 q_1 => ?_)
  obtain ⟨qs_1, qr_1⟩ := q_1
  rw [qs_1, qr_1]
  clear qs_1 qr_1
  refine g_iconst (pc9 := 11) C rfl (nI (1)) dX11_changes_10 rfl ?_
  refine g_callVi (nn := 2) (rest := []) (pc9 := 14) C rfl (0) [.int (pI (¬ okI 8 x)), .int (nI (1))] rfl dX11_changes_11 (m_throwsP l w (sN σ (0) 0 (nI (0))) (¬ okI 8 x) 1) gX11_changes_X11_throwsIf (by decide) (ce_0 w (sN σ (0) 0 (nI (0)))) rfl rfl rfl rfl rfl (by decide +kernel) ⟨by decide, by decide⟩ rfl (Nat.le_of_ble_eq_true rfl) ⟨by decide, by decide⟩ (fun r_2 σ_2 q_2 => ?_)
  obtain ⟨qr_2, qt_2, qf_2⟩ := q_2
  rw [qr_2]
  refine g_if_ne (pc9 := 17) C rfl 62 dX11_changes_14 rfl (fun c_3 => ?_) (fun c_3 => ?_)
  · have hns : ¬ okI 8 x := pI_ye c_3
    refine g_st (σ9 := sN σ (0) 0 (nI (1))) ((qt_2 hns).trans (by show sN (sN σ (0) 0 (nI (0))) (0) 0 (nI (1)) = sN σ (0) 0 (nI (1)); rw [sN_sN])) ?_
    refine g_iconst (pc9 := 63) C rfl (nI (0)) dX11_changes_62 rfl ?_
    exact g_ireturn C hr hlk dX11_changes_63 (by first | exact Or.inl (Or.inl ⟨hns, rfl⟩) | exact Or.inl (Or.inr ⟨i, hb_i, rfl, hz_i, rfl⟩) | exact Or.inr ⟨i, hb_i, rfl, hz_i, Or.inl ⟨hrw, rfl⟩⟩)
  · have hns : ¬ (¬ okI 8 x) := pI_no c_3
    rw [qf_2 hns]
    obtain ⟨i, hb_i, hx_i⟩ := Classical.not_not.mp hns
    subst hx_i
    refine g_aload_n (pc9 := 18) C rfl 0 dX11_changes_17 rfl rfl ?_
    refine g_aload_n (pc9 := 19) C rfl 0 dX11_changes_18 rfl rfl ?_
    refine g_get (v := .ref (w.1 (2))) (pc9 := 22) C rfl (0) 5 dX11_changes_19 (by decide) (ce_0 w (sN σ (0) 0 (nI (0)))) hin_11 hl_17 rfl (by decide) rfl rfl ?_
    refine g_iload_n (pc9 := 23) C rfl 1 dX11_changes_22 rfl rfl ?_
    refine g_iald (x := nI (mN σ (i))) (pc9 := 24) C rfl (2) (i) dX11_changes_23 (by decide) (ce_2 w (sN σ (0) 0 (nI (0)))) rfl (by omega) (by decide) ((congrFun (iA_N) _).trans (hM i hb_i).1) ?_
    have h47_i := (hM i hb_i).2.1
    refine g_if_ne (pc9 := 27) C rfl 31 dX11_changes_24 rfl (fun c_4 => ?_) (fun c_4 => ?_)
    · replace c_4 := (not_congr (z_eq (by omega))).mp c_4
      have hz_i : ¬ mN σ i = 0 := by omega
      refine g_iconst (pc9 := 32) C rfl (nI (0)) dX11_changes_31 rfl ?_
      refine g_iconst (pc9 := 33) C rfl (nI (2)) dX11_changes_32 rfl ?_
      refine g_callVi (nn := 2) (rest := []) (pc9 := 36) C rfl (0) [.int (nI (0)), .int (nI (2))] rfl dX11_changes_33 (m_throws0 l w (sN σ (0) 0 (nI (0))) 2) gX11_changes_X11_throwsIf (by decide) (ce_0 w (sN σ (0) 0 (nI (0)))) rfl rfl rfl rfl rfl (by decide +kernel) ⟨by decide, by decide⟩ rfl (Nat.le_of_ble_eq_true rfl) ⟨by decide, by decide⟩ (fun r_5 σ_5 q_5 => ?_)
      obtain ⟨qs_5, qr_5⟩ := q_5
      rw [qs_5, qr_5]
      refine g_if_ne (pc9 := 39) C rfl 62 dX11_changes_36 rfl (fun c_6 => ?_) (fun c_6 => ?_)
      · exact absurd c_6 (by decide)
      · refine g_aload_n (pc9 := 40) C rfl 0 dX11_changes_39 rfl rfl ?_
        refine g_iload_n (pc9 := 41) C rfl 2 dX11_changes_40 rfl rfl ?_
        refine g_if_lt (pc9 := 44) C rfl 50 dX11_changes_41 rfl (fun c_7 => ?_) (fun c_7 => ?_)
        · have hrw : ¬ okI 8 y := okI_neg (by decide) c_7
          refine g_iconst (pc9 := 51) C rfl (nI (1)) dX11_changes_50 rfl ?_
          refine g_goto C 55 dX11_changes_51 rfl ?_
          refine g_iconst (pc9 := 56) C rfl (nI (3)) dX11_changes_55 rfl ?_
          refine g_callVi (nn := 2) (rest := []) (pc9 := 59) C rfl (0) [.int (nI (1)), .int (nI (3))] rfl dX11_changes_56 (m_throws1 l w (sN σ (0) 0 (nI (0))) 3) gX11_changes_X11_throwsIf (by decide) (ce_0 w (sN σ (0) 0 (nI (0)))) rfl rfl rfl rfl rfl (by decide +kernel) ⟨by decide, by decide⟩ rfl (Nat.le_of_ble_eq_true rfl) ⟨by decide, by decide⟩ (fun r_8 σ_8 q_8 => ?_)
          obtain ⟨qs_8, qr_8⟩ := q_8
          rw [qr_8]
          refine g_st (σ9 := sN σ (0) 0 (nI (3))) (qs_8.trans (by show sN (sN σ (0) 0 (nI (0))) (0) 0 (nI (3)) = sN σ (0) 0 (nI (3)); rw [sN_sN])) ?_
          refine g_if_eq (pc9 := 62) C rfl 64 dX11_changes_59 rfl (fun c_9 => ?_) (fun c_9 => ?_)
          · exact absurd c_9 (by decide)
          · refine g_iconst (pc9 := 63) C rfl (nI (0)) dX11_changes_62 rfl ?_
            exact g_ireturn C hr hlk dX11_changes_63 (by first | exact Or.inl (Or.inl ⟨hns, rfl⟩) | exact Or.inl (Or.inr ⟨i, hb_i, rfl, hz_i, rfl⟩) | exact Or.inr ⟨i, hb_i, rfl, hz_i, Or.inl ⟨hrw, rfl⟩⟩)
        · have hy0 : ¬ y < 0 := c_7
          refine g_iload_n (pc9 := 45) C rfl 2 dX11_changes_44 rfl rfl ?_
          refine g_bipush (pc9 := 47) C rfl (nI (7)) dX11_changes_45 rfl ?_
          refine g_icmp_le (pc9 := 50) C rfl 54 dX11_changes_47 rfl (fun c_10 => ?_) (fun c_10 => ?_)
          · have hyR : okI 8 y := okI_le (n := 7) (by decide) hy0 c_10
            refine g_iconst (pc9 := 55) C rfl (nI (0)) dX11_changes_54 rfl ?_
            refine g_iconst (pc9 := 56) C rfl (nI (3)) dX11_changes_55 rfl ?_
            refine g_callVi (nn := 2) (rest := []) (pc9 := 59) C rfl (0) [.int (nI (0)), .int (nI (3))] rfl dX11_changes_56 (m_throws0 l w (sN σ (0) 0 (nI (0))) 3) gX11_changes_X11_throwsIf (by decide) (ce_0 w (sN σ (0) 0 (nI (0)))) rfl rfl rfl rfl rfl (by decide +kernel) ⟨by decide, by decide⟩ rfl (Nat.le_of_ble_eq_true rfl) ⟨by decide, by decide⟩ (fun r_11 σ_11 q_11 => ?_)
            obtain ⟨qs_11, qr_11⟩ := q_11
            rw [qs_11, qr_11]
            refine g_if_eq (pc9 := 62) C rfl 64 dX11_changes_59 rfl (fun c_12 => ?_) (fun c_12 => ?_)
            · refine g_aload_n (pc9 := 65) C rfl 0 dX11_changes_64 rfl rfl ?_
              refine g_get (v := .ref (w.1 (2))) (pc9 := 68) C rfl (0) 5 dX11_changes_65 (by decide) (ce_0 w (sN σ (0) 0 (nI (0)))) hin_11 hl_17 rfl (by decide) rfl rfl ?_
              refine g_iload_n (pc9 := 69) C rfl 1 dX11_changes_68 rfl rfl ?_
              refine g_iald (x := nI (mN σ (i))) (pc9 := 70) C rfl (2) (i) dX11_changes_69 (by decide) (ce_2 w (sN σ (0) 0 (nI (0)))) rfl (by omega) (by decide) ((congrFun (iA_N) _).trans (hM i hb_i).1) ?_
              refine g_iconst (pc9 := 71) C rfl (nI (1)) dX11_changes_70 rfl ?_
              refine g_isubN (pc9 := 72) C rfl dX11_changes_71 (by omega) ?_
              refine g_istore_n (pc9 := 73) C rfl [(3, .int (nI ((mN σ (i)) - (1)))), (0, .ref (w.1 (0))), (1, .int (nI (i))), (2, .int (y))] dX11_changes_72 rfl (by decide) rfl ?_
              obtain ⟨w9, hw9, hx_y⟩ := hyR
              subst hx_y
              refine g_sub [0, 1, 2, 3] [(3, .int (nI ((mN σ (i)) - (1)))), (0, .ref (w.1 (0))), (1, .int (nI (i))), (2, .int (nI (w9)))] rfl ?_
              refine g_st (σ9 := sI (mT σ 0) 21 (iA σ 21)) (show sI (mT σ 0) 21 (iA (mT σ 0) 21) = mT σ 0 from sI_self).symm ?_
              rw [show nI (mN σ i - 1) = dn (mN σ i) from (dn_s (by omega)).symm]
              refine g_lp2 (α := Nat) (β := Nat → Int32) (fun K g => K ≤ mN σ i ∧ mcE σ i w9 g K) (fun K g => K) (fun K g => G p l e _ s m args below meth c _ w A _ (sI (sN σ (0) 0 (nI (0))) (21) (g)) 0 0 73 [(3, .int (dn K)), (0, .ref (w.1 (0))), (1, .int (nI (i))), (2, .int (nI (w9)))] []) (fun K g hI ih0 => ?_) (mN σ i) (iA σ 21) ⟨Nat.le_refl _, fun x h1 h2 => absurd h1 (by omega)⟩
              obtain ⟨hK, hE⟩ := hI
              rcases Nat.eq_zero_or_pos K with hK0 | hK0
              · subst hK0
                rw [dn_0]
                refine g_iload_n (pc9 := 74) C rfl 0 dX11_changes_73 rfl rfl ?_
                refine g_if_lt (pc9 := 77) C rfl 251 dX11_changes_74 rfl (fun c_13 => ?_) (fun c_13 => ?_)
                · refine g_aload_n (pc9 := 252) C rfl 1 dX11_changes_251 rfl rfl ?_
                  refine g_get (v := .ref (w.1 (21))) (pc9 := 255) C rfl (0) 30 dX11_changes_252 (by decide) (ce_0 w (sI (sN σ (0) 0 (nI (0))) (21) (g))) hin_11 hl_79 rfl (by decide) rfl rfl ?_
                  refine g_iconst (pc9 := 256) C rfl (nI (0)) dX11_changes_255 rfl ?_
                  refine g_iald (x := g (0)) (pc9 := 257) C rfl (21) (0) dX11_changes_256 (by decide) (ce_21 w (sI (sN σ (0) 0 (nI (0))) (21) (g))) rfl (by omega) (by decide) (congrFun (iA_s) _) ?_
                  refine g_istore_n (pc9 := 258) C rfl [(3, .int (g (0))), (0, .ref (w.1 (0))), (1, .int (nI (i))), (2, .int (nI (w9)))] dX11_changes_257 rfl (by decide) rfl ?_
                  refine g_iconst (pc9 := 259) C rfl (nI (1)) dX11_changes_258 rfl ?_
                  refine g_istore (pc9 := 261) C rfl [(4, .int (nI (1))), (3, .int (g (0))), (0, .ref (w.1 (0))), (1, .int (nI (i))), (2, .int (nI (w9)))] dX11_changes_259 (by decide) rfl ?_
                  refine g_sub [0, 1, 2, 3, 4] [(4, .int (nI (1))), (3, .int (g (0))), (0, .ref (w.1 (0))), (1, .int (nI (i))), (2, .int (nI (w9)))] rfl ?_
                  refine g_l2 (x9 := lq4 g 1) lq4_1.symm ?_
                  refine g_lp1 (α := Nat) (fun q => 1 ≤ q ∧ q ≤ 4) (fun q => 4 - q) (fun q => G p l e _ s m args below meth c _ w A _ (sI (sN σ (0) 0 (nI (0))) (21) (g)) 0 0 261 [(4, .int (nI (q))), (3, .int (lq4 g q)), (0, .ref (w.1 (0))), (1, .int (nI (i))), (2, .int (nI (w9)))] []) (fun q hI ih1 => ?_) (1) ⟨by decide, by decide⟩
                  obtain ⟨hq1, hq4⟩ := hI
                  refine g_iload (pc9 := 263) C rfl 0 dX11_changes_261 rfl ?_
                  refine g_iconst (pc9 := 264) C rfl (nI (4)) dX11_changes_263 rfl ?_
                  refine g_icmp_ge (pc9 := 267) C rfl 296 dX11_changes_264 rfl (fun c_14 => ?_) (fun c_14 => ?_)
                  · replace c_14 := (nI_leI (by omega) (by omega)).mp c_14
                    refine g_iload_n (pc9 := 297) C rfl 1 dX11_changes_296 rfl rfl ?_
                    exact g_ireturn C hr hlk dX11_changes_297 (Or.inr ⟨i, hb_i, rfl, hz_i, Or.inr ⟨w9, g, hw9, rfl, hE, rfl, by rw [show q = 4 by omega]; exact lq4_4⟩⟩)
                  · replace c_14 := (not_congr (nI_leI (by omega) (by omega))).mp c_14
                    refine g_aload_n (pc9 := 268) C rfl 2 dX11_changes_267 rfl rfl ?_
                    refine g_get (v := .ref (w.1 (21))) (pc9 := 271) C rfl (0) 30 dX11_changes_268 (by decide) (ce_0 w (sI (sN σ (0) 0 (nI (0))) (21) (g))) hin_11 hl_79 rfl (by decide) rfl rfl ?_
                    refine g_iload (pc9 := 273) C rfl 0 dX11_changes_271 rfl ?_
                    refine g_iald (x := g (q)) (pc9 := 274) C rfl (21) (q) dX11_changes_273 (by decide) (ce_21 w (sI (sN σ (0) 0 (nI (0))) (21) (g))) rfl (by omega) (by decide) (congrFun (iA_s) _) ?_
                    refine g_iload_n (pc9 := 275) C rfl 1 dX11_changes_274 rfl rfl ?_
                    refine g_icmp_ge (pc9 := 278) C rfl 288 dX11_changes_275 rfl (fun c_15 => ?_) (fun c_15 => ?_)
                    · have hs : lq4 g (q + 1) = lq4 g q := lq4_n hq1 (Int32.not_lt.mpr c_15)
                      refine g_iload_n (pc9 := 289) C rfl 1 dX11_changes_288 rfl rfl ?_
                      refine g_istore_n (pc9 := 290) C rfl [(3, .int (lq4 g q)), (4, .int (nI (q))), (0, .ref (w.1 (0))), (1, .int (nI (i))), (2, .int (nI (w9)))] dX11_changes_289 rfl (by decide) rfl ?_
                      refine g_iinc (pc9 := 293) C rfl [(4, .int (nI (q + 1))), (3, .int (lq4 g q)), (0, .ref (w.1 (0))), (1, .int (nI (i))), (2, .int (nI (w9)))] 1 (nI (q + 1)) dX11_changes_290 rfl (nI_1 (q)) (by decide) rfl ?_
                      refine g_goto C 261 dX11_changes_293 rfl ?_
                      refine g_sub [0, 1, 2, 3, 4] [(4, .int (nI (q + 1))), (3, .int (lq4 g q)), (0, .ref (w.1 (0))), (1, .int (nI (i))), (2, .int (nI (w9)))] rfl ?_
                      refine g_l2 hs.symm ?_
                      exact ih1 (q + 1) ⟨by omega, by omega⟩ (by omega)
                    · have hs : lq4 g (q + 1) = g q := lq4_y hq1 (Int32.not_le.mp c_15)
                      refine g_aload_n (pc9 := 279) C rfl 2 dX11_changes_278 rfl rfl ?_
                      refine g_get (v := .ref (w.1 (21))) (pc9 := 282) C rfl (0) 30 dX11_changes_279 (by decide) (ce_0 w (sI (sN σ (0) 0 (nI (0))) (21) (g))) hin_11 hl_79 rfl (by decide) rfl rfl ?_
                      refine g_iload (pc9 := 284) C rfl 0 dX11_changes_282 rfl ?_
                      refine g_iald (x := g (q)) (pc9 := 285) C rfl (21) (q) dX11_changes_284 (by decide) (ce_21 w (sI (sN σ (0) 0 (nI (0))) (21) (g))) rfl (by omega) (by decide) (congrFun (iA_s) _) ?_
                      refine g_goto C 289 dX11_changes_285 rfl ?_
                      refine g_istore_n (pc9 := 290) C rfl [(3, .int (g (q))), (4, .int (nI (q))), (0, .ref (w.1 (0))), (1, .int (nI (i))), (2, .int (nI (w9)))] dX11_changes_289 rfl (by decide) rfl ?_
                      refine g_iinc (pc9 := 293) C rfl [(4, .int (nI (q + 1))), (3, .int (g (q))), (0, .ref (w.1 (0))), (1, .int (nI (i))), (2, .int (nI (w9)))] 1 (nI (q + 1)) dX11_changes_290 rfl (nI_1 (q)) (by decide) rfl ?_
                      refine g_goto C 261 dX11_changes_293 rfl ?_
                      refine g_sub [0, 1, 2, 3, 4] [(4, .int (nI (q + 1))), (3, .int (g (q))), (0, .ref (w.1 (0))), (1, .int (nI (i))), (2, .int (nI (w9)))] rfl ?_
                      refine g_l2 hs.symm ?_
                      exact ih1 (q + 1) ⟨by omega, by omega⟩ (by omega)
                · exact absurd (by decide) c_13
              · rw [dn_s hK0]
                refine g_iload_n (pc9 := 74) C rfl 0 dX11_changes_73 rfl rfl ?_
                refine g_if_lt (pc9 := 77) C rfl 251 dX11_changes_74 rfl (fun c_16 => ?_) (fun c_16 => ?_)
                · replace c_16 := (z_lt (by omega)).mp c_16
                  exact absurd c_16 (by simp)
                · replace c_16 := (not_congr (z_lt (by omega))).mp c_16
                  refine g_iconst (pc9 := 78) C rfl (nI (0)) dX11_changes_77 rfl ?_
                  refine g_istore (pc9 := 80) C rfl [(4, .int (nI (0))), (3, .int (nI (K - 1))), (0, .ref (w.1 (0))), (1, .int (nI (i))), (2, .int (nI (w9)))] dX11_changes_78 (by decide) rfl ?_
                  obtain ⟨k, rfl⟩ : ∃ z, K = z + 1 := ⟨K - 1, by omega⟩
                  rw [show k + 1 - 1 = k by omega]
                  refine g_sub [0, 1, 2, 3, 4] [(4, .int (nI (0))), (3, .int (nI (k))), (0, .ref (w.1 (0))), (1, .int (nI (i))), (2, .int (nI (w9)))] rfl ?_
                  refine m12_q C σ hM i hb_i w9 hw9 k (by omega) g (fun h hh1 hh2 => ?_)
                  refine g_iinc (pc9 := 248) C rfl [(3, .int (dn k)), (4, .int (nI (4))), (0, .ref (w.1 (0))), (1, .int (nI (i))), (2, .int (nI (w9)))] 1 (dn k) dX11_changes_245 rfl rfl (by decide) rfl ?_
                  refine g_goto C 73 dX11_changes_248 rfl ?_
                  refine g_sub [0, 2, 3, 4] [(3, .int (dn k)), (0, .ref (w.1 (0))), (1, .int (nI (i))), (2, .int (nI (w9)))] rfl ?_
                  exact ih0 k h ⟨by omega, mcE_s hE hh1 hh2⟩ (by omega)
            · exact absurd c_12 (by decide)
          · have hrw : ¬ okI 8 y := okI_gt (n := 7) (by decide) c_10
            refine g_iconst (pc9 := 51) C rfl (nI (1)) dX11_changes_50 rfl ?_
            refine g_goto C 55 dX11_changes_51 rfl ?_
            refine g_iconst (pc9 := 56) C rfl (nI (3)) dX11_changes_55 rfl ?_
            refine g_callVi (nn := 2) (rest := []) (pc9 := 59) C rfl (0) [.int (nI (1)), .int (nI (3))] rfl dX11_changes_56 (m_throws1 l w (sN σ (0) 0 (nI (0))) 3) gX11_changes_X11_throwsIf (by decide) (ce_0 w (sN σ (0) 0 (nI (0)))) rfl rfl rfl rfl rfl (by decide +kernel) ⟨by decide, by decide⟩ rfl (Nat.le_of_ble_eq_true rfl) ⟨by decide, by decide⟩ (fun r_17 σ_17 q_17 => ?_)
            obtain ⟨qs_17, qr_17⟩ := q_17
            rw [qr_17]
            refine g_st (σ9 := sN σ (0) 0 (nI (3))) (qs_17.trans (by show sN (sN σ (0) 0 (nI (0))) (0) 0 (nI (3)) = sN σ (0) 0 (nI (3)); rw [sN_sN])) ?_
            refine g_if_eq (pc9 := 62) C rfl 64 dX11_changes_59 rfl (fun c_18 => ?_) (fun c_18 => ?_)
            · exact absurd c_18 (by decide)
            · refine g_iconst (pc9 := 63) C rfl (nI (0)) dX11_changes_62 rfl ?_
              exact g_ireturn C hr hlk dX11_changes_63 (by first | exact Or.inl (Or.inl ⟨hns, rfl⟩) | exact Or.inl (Or.inr ⟨i, hb_i, rfl, hz_i, rfl⟩) | exact Or.inr ⟨i, hb_i, rfl, hz_i, Or.inl ⟨hrw, rfl⟩⟩)
    · replace c_4 := (z_eq (by omega)).mp c_4
      have hz_i : mN σ i = 0 := by omega
      refine g_iconst (pc9 := 28) C rfl (nI (1)) dX11_changes_27 rfl ?_
      refine g_goto C 32 dX11_changes_28 rfl ?_
      refine g_iconst (pc9 := 33) C rfl (nI (2)) dX11_changes_32 rfl ?_
      refine g_callVi (nn := 2) (rest := []) (pc9 := 36) C rfl (0) [.int (nI (1)), .int (nI (2))] rfl dX11_changes_33 (m_throws1 l w (sN σ (0) 0 (nI (0))) 2) gX11_changes_X11_throwsIf (by decide) (ce_0 w (sN σ (0) 0 (nI (0)))) rfl rfl rfl rfl rfl (by decide +kernel) ⟨by decide, by decide⟩ rfl (Nat.le_of_ble_eq_true rfl) ⟨by decide, by decide⟩ (fun r_19 σ_19 q_19 => ?_)
      obtain ⟨qs_19, qr_19⟩ := q_19
      rw [qr_19]
      refine g_st (σ9 := sN σ (0) 0 (nI (2))) (qs_19.trans (by show sN (sN σ (0) 0 (nI (0))) (0) 0 (nI (2)) = sN σ (0) 0 (nI (2)); rw [sN_sN])) ?_
      refine g_if_ne (pc9 := 39) C rfl 62 dX11_changes_36 rfl (fun c_20 => ?_) (fun c_20 => ?_)
      · refine g_iconst (pc9 := 63) C rfl (nI (0)) dX11_changes_62 rfl ?_
        exact g_ireturn C hr hlk dX11_changes_63 (by first | exact Or.inl (Or.inl ⟨hns, rfl⟩) | exact Or.inl (Or.inr ⟨i, hb_i, rfl, hz_i, rfl⟩) | exact Or.inr ⟨i, hb_i, rfl, hz_i, Or.inl ⟨hrw, rfl⟩⟩)
      · exact absurd c_20 (by decide)

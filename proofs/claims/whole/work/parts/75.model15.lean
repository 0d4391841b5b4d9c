/-! The reference: laying -/
def itp (p : Nat → Nat) : Nat → Nat → Nat
  | 0, b => b
  | t + 1, b => itp p t (p b)
/-- a is b or above it -/
def mAb (p : Nat → Nat) (a b : Nat) : Prop := ∃ t, itp p t b = a
theorem itp_le {p : Nat → Nat} (hp : ∀ v, p v ≤ v) : ∀ t b, itp p t b ≤ b
  | 0, _ => Nat.le_refl _
  | t + 1, b => Nat.le_trans (itp_le hp t (p b)) (hp b)
theorem mAb_s {p : Nat → Nat} {a b : Nat} (h : ¬ b = a) : mAb p a b ↔ mAb p a (p b) := by
  refine ⟨fun ⟨t, ht⟩ => ?_, fun ⟨t, ht⟩ => ⟨t + 1, ht⟩⟩
  cases t with
  | zero => exact absurd ht h
  | succ t => exact ⟨t, ht⟩
theorem mAb_r {p : Nat → Nat} {a : Nat} : mAb p a a := ⟨0, rfl⟩
theorem mAb_n {p : Nat → Nat} (hp : ∀ v, p v ≤ v) {a b : Nat} (h : b < a) : ¬ mAb p a b := fun ⟨t, ht⟩ => by
  have := itp_le hp t b
  omega
def stp (p : Nat → Nat) (a : Nat) : Nat → Nat → Nat
  | 0, _ => 0
  | f + 1, b => if b = a then 0 else stp p a f (p b) + 1
theorem stp_f {p : Nat → Nat} {a : Nat} (hp : ∀ v, 0 < v → p v < v) (h0 : p 0 = 0) : ∀ f g b, b < f → b < g → mAb p a b → stp p a f b = stp p a g b
  | 0, _, _, h, _, _ => absurd h (by omega)
  | _ + 1, 0, _, _, h, _ => absurd h (by omega)
  | f + 1, g + 1, b, h1, h2, h3 => by
    show (if b = a then 0 else stp p a f (p b) + 1) = (if b = a then 0 else stp p a g (p b) + 1)
    by_cases e : b = a
    · rw [if_pos e, if_pos e]
    · rw [if_neg e, if_neg e]
      have hb : 0 < b := by
        rcases Nat.eq_zero_or_pos b with z | z
        · subst z
          obtain ⟨t, ht⟩ := h3
          have : ∀ t, itp p t 0 = 0 := by
            intro t
            induction t with
            | zero => rfl
            | succ t ih => show itp p t (p 0) = 0; rw [h0]; exact ih
          rw [this t] at ht
          exact absurd ht e
        · exact z
      have := hp b hb
      rw [stp_f hp h0 f g (p b) (by omega) (by omega) ((mAb_s e).mp h3)]
/-- how many steps from b up to a -/
def mSt (p : Nat → Nat) (a b : Nat) : Nat := stp p a (b + 1) b
theorem mSt_0 {p : Nat → Nat} {a : Nat} : mSt p a a = 0 := if_pos rfl
theorem mAb_pos {p : Nat → Nat} (h0 : p 0 = 0) {a b : Nat} (h : mAb p a b) (e : ¬ b = a) : 0 < b := by
  rcases Nat.eq_zero_or_pos b with z | z
  · subst z
    obtain ⟨t, ht⟩ := h
    have : ∀ t, itp p t 0 = 0 := by
      intro t
      induction t with
      | zero => rfl
      | succ t ih => show itp p t (p 0) = 0; rw [h0]; exact ih
    rw [this t] at ht
    exact absurd ht e
  · exact z
theorem mSt_s {p : Nat → Nat} {a b : Nat} (hp : ∀ v, 0 < v → p v < v) (h0 : p 0 = 0) (h : mAb p a b) (e : ¬ b = a) : mSt p a b = mSt p a (p b) + 1 := by
  have h1 : mSt p a b = stp p a b (p b) + 1 := if_neg e
  have h2 := hp b (mAb_pos h0 h e)
  rw [h1, stp_f hp h0 b (p b + 1) (p b) h2 (by omega) ((mAb_s e).mp h)]
  rfl
def sdf (p : Nat → Nat) (a : Nat) : Nat → Nat → Nat
  | 0, b => b
  | f + 1, b => if p b = a then b else sdf p a f (p b)
/-- the child of a on the way down to b -/
def mSd (p : Nat → Nat) (a b : Nat) : Nat := itp p (mSt p a b - 1) b
theorem mSd_1 {p : Nat → Nat} {a b : Nat} (hp : ∀ v, 0 < v → p v < v) (h0 : p 0 = 0) (h : mAb p a b) (e : ¬ b = a) (h1 : p b = a) : mSd p a b = b := by
  unfold mSd
  rw [mSt_s hp h0 h e, h1, mSt_0]
  rfl
theorem mSd_s {p : Nat → Nat} {a b : Nat} (hp : ∀ v, 0 < v → p v < v) (h0 : p 0 = 0) (h : mAb p a b) (e : ¬ b = a) (h1 : ¬ p b = a) : mSd p a b = mSd p a (p b) := by
  unfold mSd
  have h2 := mSt_s hp h0 ((mAb_s e).mp h) h1
  rw [mSt_s hp h0 h e, h2]
  rfl
theorem mSt_le {p : Nat → Nat} {a : Nat} : ∀ f b, stp p a f b ≤ f
  | 0, _ => Nat.le_refl _
  | f + 1, b => by
    show (if b = a then 0 else stp p a f (p b) + 1) ≤ f + 1
    have := mSt_le (p := p) (a := a) f (p b)
    split <;> omega
theorem mp_0 {σ : St} {i : Nat} (hm : mtOk σ i) (h : 0 < mN σ i) : mp σ i 0 = 0 := by
  show (mP σ i 0).toNatClampNeg = 0
  rw [hm.2.2.2.1 h]
  rfl
/-- the parent within the tree -/
def mq (σ : St) (i v : Nat) : Nat := if v < mN σ i then mp σ i v else 0
theorem mq_in {σ : St} {i v : Nat} (h : v < mN σ i) : mq σ i v = mp σ i v := if_pos h
theorem mq_0 {σ : St} {i : Nat} (hm : mtOk σ i) : mq σ i 0 = 0 := by
  unfold mq
  by_cases h : 0 < mN σ i
  · rw [if_pos h]; exact mp_0 hm h
  · rw [if_neg h]
theorem mq_lt {σ : St} {i : Nat} (hm : mtOk σ i) : ∀ v, 0 < v → mq σ i v < v := by
  intro v hv
  unfold mq
  by_cases h : v < mN σ i
  · rw [if_pos h]; exact (hm.2.2.1 v hv h).2
  · rw [if_neg h]; exact hv
theorem mq_le {σ : St} {i : Nat} (hm : mtOk σ i) : ∀ v, mq σ i v ≤ v := by
  intro v
  rcases Nat.eq_zero_or_pos v with h | h
  · subst h; rw [mq_0 hm]; exact Nat.le_refl _
  · exact Nat.le_of_lt (mq_lt hm v h)
theorem mP_q {σ : St} {i v : Nat} (hm : mtOk σ i) (h0 : 0 < v) (h : v < mN σ i) : mP σ i v = nI (mq σ i v) := by rw [mq_in h]; exact (hm.2.2.1 v h0 h).1
set_option maxRecDepth 100000 in
set_option maxHeartbeats 4000000 in
theorem m_X11_isAbove (l : Launch) (w : Wd) (σ : St) (i : Nat) (hi : i < 8) (hm : mtOk σ i) (a b : Nat) (hb : b < mN σ i) (ha : a < 47) : MI l yX11_isAbove wsX11_isAbove (rmL 1) w [.ref (w.1 (0)), .int (nI (i)), .int (nI (a)), .int (nI (b))] (σ) (fun r σ9 => σ9 = σ ∧ r = pI (mAb (mq σ i) a b)) := by
  refine MI_of (cc := cX11_isAbove) (maxL := 5) (ret := .boolean) (by decide) rfl (Nat.le_of_ble_eq_true rfl) ?_
  intro p e s m args below meth c A C hr hlk
  have C : Cx p s m args c w A cX11_isAbove RX11 5 wsX11_isAbove := C
  have hin_11 : ∀ u ∈ wsX110, u ∈ wsX11_isAbove := by decide +kernel
  have hl_21 : Cond.fieldLink RX11 21 "LineageBenchModel" "parent" "[I" ∈ wsX11_isAbove := by decide +kernel
  have h47 := hm.2.1
  refine g_iload_n (pc9 := 1) C rfl 3 dX11_isAbove_0 rfl rfl ?_
  refine g_istore (pc9 := 3) C rfl [(4, .int (nI (b))), (0, .ref (w.1 (0))), (1, .int (nI (i))), (2, .int (nI (a))), (3, .int (nI (b)))] dX11_isAbove_1 (by decide) rfl ?_
  refine g_sub [0, 1, 2, 3, 4] [(4, .int (nI (b))), (0, .ref (w.1 (0))), (1, .int (nI (i))), (2, .int (nI (a))), (3, .int (nI (b)))] rfl ?_
  refine g_lp1 (α := Nat) (fun k => k ≤ b ∧ (mAb (mq σ i) a b ↔ mAb (mq σ i) a k)) (fun k => k) (fun k => G p l e _ s m args below meth c _ w A _ (σ) 0 0 3 [(4, .int (nI (k))), (0, .ref (w.1 (0))), (1, .int (nI (i))), (2, .int (nI (a))), (3, .int (nI (b)))] []) (fun k hI ih => ?_) (b) ⟨Nat.le_refl _, Iff.rfl⟩
  obtain ⟨hk, hq⟩ := hI
  refine g_iload (pc9 := 5) C rfl 0 dX11_isAbove_3 rfl ?_
  refine g_iload_n (pc9 := 6) C rfl 3 dX11_isAbove_5 rfl rfl ?_
  refine g_icmp_le (pc9 := 9) C rfl 26 dX11_isAbove_6 rfl (fun c_1 => ?_) (fun c_1 => ?_)
  · replace c_1 := (nI_leI (by omega) (by omega)).mp c_1
    refine g_iload (pc9 := 28) C rfl 0 dX11_isAbove_26 rfl ?_
    refine g_iload_n (pc9 := 29) C rfl 3 dX11_isAbove_28 rfl rfl ?_
    refine g_icmp_ne (pc9 := 32) C rfl 36 dX11_isAbove_29 rfl (fun c_2 => ?_) (fun c_2 => ?_)
    · replace c_2 := (not_congr (nI_eq (by omega) (by omega))).mp c_2
      have hz : ¬ mAb (mq σ i) a b := fun h => mAb_n (mq_le hm) (by omega) (hq.mp h)
      refine g_iconst (pc9 := 37) C rfl (nI (0)) dX11_isAbove_36 rfl ?_
      exact g_zreturn C hr hlk dX11_isAbove_37 (by decide) ⟨rfl, by first | exact (pI_t hz).symm | exact (pI_f hz).symm⟩
    · replace c_2 := (nI_eq (by omega) (by omega)).mp c_2
      have hz : mAb (mq σ i) a b := hq.mpr (by rw [c_2]; exact mAb_r)
      refine g_iconst (pc9 := 33) C rfl (nI (1)) dX11_isAbove_32 rfl ?_
      refine g_goto C 37 dX11_isAbove_33 rfl ?_
      exact g_zreturn C hr hlk dX11_isAbove_37 (by decide) ⟨rfl, by first | exact (pI_t hz).symm | exact (pI_f hz).symm⟩
  · replace c_1 := (not_congr (nI_leI (by omega) (by omega))).mp c_1
    refine g_aload_n (pc9 := 10) C rfl 1 dX11_isAbove_9 rfl rfl ?_
    refine g_get (v := .ref (w.1 (3))) (pc9 := 13) C rfl (0) 6 dX11_isAbove_10 (by decide) (ce_0 w (σ)) hin_11 hl_21 rfl (by decide) rfl rfl ?_
    refine g_bipush (pc9 := 15) C rfl (nI (47)) dX11_isAbove_13 rfl ?_
    refine g_iload_n (pc9 := 16) C rfl 2 dX11_isAbove_15 rfl rfl ?_
    refine g_imulN (pc9 := 17) C rfl dX11_isAbove_16 ?_
    refine g_iload (pc9 := 19) C rfl 0 dX11_isAbove_17 rfl ?_
    refine g_iaddN (pc9 := 20) C rfl dX11_isAbove_19 ?_
    have hlt := mq_lt hm k (by omega)
    refine g_iald (x := nI (mq σ i k)) (pc9 := 21) C rfl (3) ((47 * i) + k) dX11_isAbove_20 (by decide) (ce_3 w (σ)) rfl (by omega) (by decide) (mP_q hm (by omega) (by omega)) ?_
    refine g_istore (pc9 := 23) C rfl [(4, .int (nI (mq σ i k))), (0, .ref (w.1 (0))), (1, .int (nI (i))), (2, .int (nI (a))), (3, .int (nI (b)))] dX11_isAbove_21 (by decide) rfl ?_
    refine g_goto C 3 dX11_isAbove_23 rfl ?_
    refine g_sub [0, 1, 2, 3, 4] [(4, .int (nI (mq σ i k))), (0, .ref (w.1 (0))), (1, .int (nI (i))), (2, .int (nI (a))), (3, .int (nI (b)))] rfl ?_
    exact ih (mq σ i k) ⟨by omega, hq.trans (mAb_s (by omega))⟩ (by omega)
theorem dn_up (j : Nat) : dn j + 1 = dn (j + 1) := by
  unfold dn
  rw [show nI (j + 1) = nI j + nI 1 from (nI_add j 1).symm]
  rw [Int32.add_assoc, Int32.add_assoc, Int32.add_comm (-1) 1]
  rfl
theorem btw_y {j t : Nat} (h : j < 100) (e : t = j) (c : 0 ≤ dn j) : dn j = nI (t - 1) := by
  subst e
  rcases Nat.eq_zero_or_pos t with z | z
  · subst z; exact absurd c (by decide)
  · exact dn_s z
theorem btw_n {j t : Nat} (h : j < 100) (e : t = j) (c : ¬ 0 ≤ dn j) : nI 0 = nI (t - 1) := by
  subst e
  rcases Nat.eq_zero_or_pos t with z | z
  · subst z; rfl
  · refine absurd ?_ c
    rw [dn_s z]
    exact Int32.not_lt.mp (nI_pos (by omega))
set_option maxRecDepth 100000 in
set_option maxHeartbeats 4000000 in
theorem m_X11_between (l : Launch) (w : Wd) (σ : St) (i : Nat) (hi : i < 8) (hm : mtOk σ i) (a b : Nat) (hb : b < mN σ i) (ha : a < 47) (hab : mAb (mq σ i) a b) : MI l yX11_between wsX11_between (rmL 1) w [.ref (w.1 (0)), .int (nI (i)), .int (nI (a)), .int (nI (b))] (σ) (fun r σ9 => σ9 = σ ∧ r = nI (mSt (mq σ i) a b - 1)) := by
  refine MI_of (cc := cX11_between) (maxL := 6) (ret := .int) (by decide) rfl (Nat.le_of_ble_eq_true rfl) ?_
  intro p e s m args below meth c A C hr hlk
  have C : Cx p s m args c w A cX11_between RX11 6 wsX11_between := C
  have hin_11 : ∀ u ∈ wsX110, u ∈ wsX11_between := by decide +kernel
  have hl_21 : Cond.fieldLink RX11 21 "LineageBenchModel" "parent" "[I" ∈ wsX11_between := by decide +kernel
  have h47 := hm.2.1
  have hst : mSt (mq σ i) a b ≤ b + 1 := mSt_le _ _
  refine g_iconst (pc9 := 1) C rfl ((-1)) dX11_between_0 rfl ?_
  refine g_istore (pc9 := 3) C rfl [(4, .int ((-1))), (0, .ref (w.1 (0))), (1, .int (nI (i))), (2, .int (nI (a))), (3, .int (nI (b)))] dX11_between_1 (by decide) rfl ?_
  refine g_iload_n (pc9 := 4) C rfl 4 dX11_between_3 rfl rfl ?_
  refine g_istore (pc9 := 6) C rfl [(5, .int (nI (b))), (4, .int ((-1))), (0, .ref (w.1 (0))), (1, .int (nI (i))), (2, .int (nI (a))), (3, .int (nI (b)))] dX11_between_4 (by decide) rfl ?_
  refine g_sub [0, 1, 2, 3, 4, 5] [(5, .int (nI (b))), (4, .int ((-1))), (0, .ref (w.1 (0))), (1, .int (nI (i))), (2, .int (nI (a))), (3, .int (nI (b)))] rfl ?_
  refine g_l2 (x9 := dn 0) dn_0.symm ?_
  refine g_lp2 (α := Nat) (β := Nat) (fun k j => k ≤ b ∧ mAb (mq σ i) a k ∧ mSt (mq σ i) a b = mSt (mq σ i) a k + j) (fun k j => k) (fun k j => G p l e _ s m args below meth c _ w A _ (σ) 0 0 6 [(5, .int (nI (k))), (4, .int (dn j)), (0, .ref (w.1 (0))), (1, .int (nI (i))), (2, .int (nI (a))), (3, .int (nI (b)))] []) (fun k j hI ih => ?_) (b) (0) ⟨Nat.le_refl _, hab, rfl⟩
  obtain ⟨hk, hq, hj⟩ := hI
  refine g_iload (pc9 := 8) C rfl 0 dX11_between_6 rfl ?_
  refine g_iload_n (pc9 := 9) C rfl 4 dX11_between_8 rfl rfl ?_
  refine g_icmp_eq (pc9 := 12) C rfl 32 dX11_between_9 rfl (fun c_1 => ?_) (fun c_1 => ?_)
  · replace c_1 := (nI_eq (by omega) (by omega)).mp c_1
    have hka : k = a := by assumption
    have hj2 : mSt (mq σ i) a b = j := by rw [hj, hka, mSt_0]; omega
    refine g_iload (pc9 := 34) C rfl 1 dX11_between_32 rfl ?_
    refine g_if_ge (pc9 := 37) C rfl 41 dX11_between_34 rfl (fun c_2 => ?_) (fun c_2 => ?_)
    · have hge := c_2
      refine g_iload (pc9 := 43) C rfl 1 dX11_between_41 rfl ?_
      exact g_ireturn C hr hlk dX11_between_43 ⟨rfl, btw_y (by omega) hj2 hge⟩
    · have hge := c_2
      refine g_iconst (pc9 := 38) C rfl (nI (0)) dX11_between_37 rfl ?_
      refine g_goto C 43 dX11_between_38 rfl ?_
      exact g_ireturn C hr hlk dX11_between_43 ⟨rfl, btw_n (by omega) hj2 hge⟩
  · replace c_1 := (not_congr (nI_eq (by omega) (by omega))).mp c_1
    refine g_iinc (pc9 := 15) C rfl [(4, .int (dn (j + 1))), (5, .int (nI (k))), (0, .ref (w.1 (0))), (1, .int (nI (i))), (2, .int (nI (a))), (3, .int (nI (b)))] 1 (dn (j + 1)) dX11_between_12 rfl (dn_up j) (by decide) rfl ?_
    have hk0 := mAb_pos (mq_0 hm) hq (by assumption)
    have hlt := mq_lt hm k hk0
    have hsS := mSt_s (mq_lt hm) (mq_0 hm) hq (by assumption)
    refine g_aload_n (pc9 := 16) C rfl 2 dX11_between_15 rfl rfl ?_
    refine g_get (v := .ref (w.1 (3))) (pc9 := 19) C rfl (0) 6 dX11_between_16 (by decide) (ce_0 w (σ)) hin_11 hl_21 rfl (by decide) rfl rfl ?_
    refine g_bipush (pc9 := 21) C rfl (nI (47)) dX11_between_19 rfl ?_
    refine g_iload_n (pc9 := 22) C rfl 3 dX11_between_21 rfl rfl ?_
    refine g_imulN (pc9 := 23) C rfl dX11_between_22 ?_
    refine g_iload (pc9 := 25) C rfl 1 dX11_between_23 rfl ?_
    refine g_iaddN (pc9 := 26) C rfl dX11_between_25 ?_
    refine g_iald (x := nI (mq σ i k)) (pc9 := 27) C rfl (3) ((47 * i) + k) dX11_between_26 (by decide) (ce_3 w (σ)) rfl (by omega) (by decide) (mP_q hm (by omega) (by omega)) ?_
    refine g_istore (pc9 := 29) C rfl [(5, .int (nI (mq σ i k))), (4, .int (dn (j + 1))), (0, .ref (w.1 (0))), (1, .int (nI (i))), (2, .int (nI (a))), (3, .int (nI (b)))] dX11_between_27 (by decide) rfl ?_
    refine g_goto C 6 dX11_between_29 rfl ?_
    refine g_sub [0, 1, 2, 3, 4, 5] [(5, .int (nI (mq σ i k))), (4, .int (dn (j + 1))), (0, .ref (w.1 (0))), (1, .int (nI (i))), (2, .int (nI (a))), (3, .int (nI (b)))] rfl ?_
    exact ih (mq σ i k) (j + 1) ⟨by omega, (mAb_s (by assumption)).mp hq, by omega⟩ (by omega)
set_option maxRecDepth 100000 in
set_option maxHeartbeats 4000000 in
theorem m_X11_side (l : Launch) (w : Wd) (σ : St) (i : Nat) (hi : i < 8) (hm : mtOk σ i) (a b : Nat) (hb : b < mN σ i) (ha : a < 47) (hab : mAb (mq σ i) a b) (hne : ¬ b = a) : MI l yX11_side wsX11_side (rmL 1) w [.ref (w.1 (0)), .int (nI (i)), .int (nI (a)), .int (nI (b))] (σ) (fun r σ9 => σ9 = σ ∧ r = nI (mSd (mq σ i) a b)) := by
  refine MI_of (cc := cX11_side) (maxL := 6) (ret := .int) (by decide) rfl (Nat.le_of_ble_eq_true rfl) ?_
  intro p e s m args below meth c A C hr hlk
  have C : Cx p s m args c w A cX11_side RX11 6 wsX11_side := C
  have hin_11 : ∀ u ∈ wsX110, u ∈ wsX11_side := by decide +kernel
  have hl_21 : Cond.fieldLink RX11 21 "LineageBenchModel" "parent" "[I" ∈ wsX11_side := by decide +kernel
  have h47 := hm.2.1
  refine g_iconst (pc9 := 1) C rfl ((-1)) dX11_side_0 rfl ?_
  refine g_istore (pc9 := 3) C rfl [(4, .int ((-1))), (0, .ref (w.1 (0))), (1, .int (nI (i))), (2, .int (nI (a))), (3, .int (nI (b)))] dX11_side_1 (by decide) rfl ?_
  refine g_iload_n (pc9 := 4) C rfl 4 dX11_side_3 rfl rfl ?_
  refine g_istore (pc9 := 6) C rfl [(5, .int (nI (b))), (4, .int ((-1))), (0, .ref (w.1 (0))), (1, .int (nI (i))), (2, .int (nI (a))), (3, .int (nI (b)))] dX11_side_4 (by decide) rfl ?_
  refine g_sub [0, 1, 2, 3, 4, 5] [(5, .int (nI (b))), (4, .int ((-1))), (0, .ref (w.1 (0))), (1, .int (nI (i))), (2, .int (nI (a))), (3, .int (nI (b)))] rfl ?_
  refine g_lp2 (α := Nat) (β := Int32) (fun k z => k ≤ b ∧ mAb (mq σ i) a k ∧ ((¬ k = a ∧ mSd (mq σ i) a b = mSd (mq σ i) a k) ∨ (k = a ∧ z = nI (mSd (mq σ i) a b)))) (fun k z => k) (fun k z => G p l e _ s m args below meth c _ w A _ (σ) 0 0 6 [(5, .int (nI (k))), (4, .int (z)), (0, .ref (w.1 (0))), (1, .int (nI (i))), (2, .int (nI (a))), (3, .int (nI (b)))] []) (fun k z hI ih => ?_) (b) (-1) ⟨Nat.le_refl _, hab, Or.inl ⟨hne, rfl⟩⟩
  obtain ⟨hk, hq, hj⟩ := hI
  refine g_iload (pc9 := 8) C rfl 0 dX11_side_6 rfl ?_
  refine g_iload_n (pc9 := 9) C rfl 4 dX11_side_8 rfl rfl ?_
  refine g_icmp_eq (pc9 := 12) C rfl 33 dX11_side_9 rfl (fun c_1 => ?_) (fun c_1 => ?_)
  · replace c_1 := (nI_eq (by omega) (by omega)).mp c_1
    have hka : k = a := by assumption
    have hs := (hj.resolve_left (fun h => h.1 hka)).2
    refine g_iload (pc9 := 35) C rfl 1 dX11_side_33 rfl ?_
    exact g_ireturn C hr hlk dX11_side_35 ⟨rfl, hs⟩
  · replace c_1 := (not_congr (nI_eq (by omega) (by omega))).mp c_1
    have hka : ¬ k = a := by assumption
    have hk0 := mAb_pos (mq_0 hm) hq hka
    have hlt := mq_lt hm k hk0
    have hs := (hj.resolve_right (fun h => hka h.1)).2
    refine g_iload (pc9 := 14) C rfl 0 dX11_side_12 rfl ?_
    refine g_istore (pc9 := 16) C rfl [(4, .int (nI (k))), (5, .int (nI (k))), (0, .ref (w.1 (0))), (1, .int (nI (i))), (2, .int (nI (a))), (3, .int (nI (b)))] dX11_side_14 (by decide) rfl ?_
    refine g_aload_n (pc9 := 17) C rfl 2 dX11_side_16 rfl rfl ?_
    refine g_get (v := .ref (w.1 (3))) (pc9 := 20) C rfl (0) 6 dX11_side_17 (by decide) (ce_0 w (σ)) hin_11 hl_21 rfl (by decide) rfl rfl ?_
    refine g_bipush (pc9 := 22) C rfl (nI (47)) dX11_side_20 rfl ?_
    refine g_iload_n (pc9 := 23) C rfl 3 dX11_side_22 rfl rfl ?_
    refine g_imulN (pc9 := 24) C rfl dX11_side_23 ?_
    refine g_iload (pc9 := 26) C rfl 1 dX11_side_24 rfl ?_
    refine g_iaddN (pc9 := 27) C rfl dX11_side_26 ?_
    refine g_iald (x := nI (mq σ i k)) (pc9 := 28) C rfl (3) ((47 * i) + k) dX11_side_27 (by decide) (ce_3 w (σ)) rfl (by omega) (by decide) (mP_q hm (by omega) (by omega)) ?_
    refine g_istore (pc9 := 30) C rfl [(5, .int (nI (mq σ i k))), (4, .int (nI (k))), (0, .ref (w.1 (0))), (1, .int (nI (i))), (2, .int (nI (a))), (3, .int (nI (b)))] dX11_side_28 (by decide) rfl ?_
    refine g_goto C 6 dX11_side_30 rfl ?_
    refine g_sub [0, 1, 2, 3, 4, 5] [(5, .int (nI (mq σ i k))), (4, .int (nI (k))), (0, .ref (w.1 (0))), (1, .int (nI (i))), (2, .int (nI (a))), (3, .int (nI (b)))] rfl ?_
    refine ih (mq σ i k) (nI k) ⟨by omega, (mAb_s hka).mp hq, ?_⟩ (by omega)
    by_cases e : mq σ i k = a
    · exact Or.inr ⟨e, by rw [hs, mSd_1 (mq_lt hm) (mq_0 hm) hq hka e]⟩
    · exact Or.inl ⟨e, by rw [hs, mSd_s (mq_lt hm) (mq_0 hm) hq hka e]⟩
def mnlB (σ : St) (i k : Nat) : Prop := mN σ i = 0 ∨ ¬ mBi σ i ∨ ¬ mPl σ k ∨ ¬ mBi σ k ∨ ¬ mKs σ i &&& (mKs σ k ^^^ (-1)) = 0
def mnlP (σ : St) (x y : Int32) (r : Int32) (σ9 : St) : Prop := (¬ (okI 8 x ∧ okI 8 y) ∧ r = nI 1 ∧ σ9 = mT σ 1) ∨ (∃ i k, i < 8 ∧ k < 8 ∧ x = nI i ∧ y = nI k ∧ ((mnlB σ i k ∧ r = nI 1 ∧ σ9 = mT σ 2) ∨ (¬ mnlB σ i k ∧ r = nI 0 ∧ σ9 = mT σ 0)))
set_option maxRecDepth 100000 in
set_option maxHeartbeats 4000000 in
theorem m_X11_noLaying (l : Launch) (w : Wd) (σ : St) (hM : ∀ i, i < 8 → mtOk σ i) (x y : Int32) : MI l yX11_noLaying wsX11_noLaying (rmL 3) w [.ref (w.1 (0)), .int (x), .int (y)] (sN σ (0) 0 (nI (0))) (mnlP σ x y) := by
  refine MI_of (cc := cX11_noLaying) (maxL := 3) (ret := .boolean) (by decide) rfl (Nat.le_of_ble_eq_true rfl) ?_
  intro p e s m args below meth c A C hr hlk
  have C : Cx p s m args c w A cX11_noLaying RX11 3 wsX11_noLaying := C
  have hin_11 : ∀ u ∈ wsX110, u ∈ wsX11_noLaying := by decide +kernel
  have hl_17 : Cond.fieldLink RX11 17 "LineageBenchModel" "many" "[I" ∈ wsX11_noLaying := by decide +kernel
  refine g_aload_n (pc9 := 1) C rfl 0 dX11_noLaying_0 rfl rfl ?_
  refine g_iload_n (pc9 := 2) C rfl 1 dX11_noLaying_1 rfl rfl ?_
  refine g_callSi (nn := 1) (rest := [.ref (w.1 (0))]) (pc9 := 5) C rfl [.int (x)] rfl dX11_noLaying_2 (m_X11_noShelf l w (sN σ (0) 0 (nI (0))) x) gX11_noLaying_X11_noShelf rfl rfl rfl (by decide +kernel) ⟨by decide, by decide⟩ rfl (Nat.le_of_ble_eq_true rfl) ⟨by decide, by decide⟩ (fun r_1 σ_1 q_1 => ?_)
  obtain ⟨qs_1, qr_1⟩ := q_1
  rw [qs_1, qr_1]
  clear qs_1 qr_1
  refine g_if_ne (pc9 := 8) C rfl 15 dX11_noLaying_5 rfl (fun c_2 => ?_) (fun c_2 => ?_)
  · have hns : ¬ (okI 8 x ∧ okI 8 y) := fun h => pI_ye c_2 h.1
    refine g_iconst (pc9 := 16) C rfl (nI (1)) dX11_noLaying_15 rfl ?_
    refine g_goto C 20 dX11_noLaying_16 rfl ?_
    refine g_iconst (pc9 := 21) C rfl (nI (1)) dX11_noLaying_20 rfl ?_
    refine g_callVi (nn := 2) (rest := []) (pc9 := 24) C rfl (0) [.int (nI (1)), .int (nI (1))] rfl dX11_noLaying_21 (m_throws1 l w (sN σ (0) 0 (nI (0))) 1) gX11_noLaying_X11_throwsIf (by decide) (ce_0 w (sN σ (0) 0 (nI (0)))) rfl rfl rfl rfl rfl (by decide +kernel) ⟨by decide, by decide⟩ rfl (Nat.le_of_ble_eq_true rfl) ⟨by decide, by decide⟩ (fun r_3 σ_3 q_3 => ?_)
    obtain ⟨qs_3, qr_3⟩ := q_3
    rw [qr_3]
    refine g_st (σ9 := sN σ (0) 0 (nI (1))) (qs_3.trans (by show sN (sN σ (0) 0 (nI (0))) (0) 0 (nI (1)) = sN σ (0) 0 (nI (1)); rw [sN_sN])) ?_
    refine g_if_eq (pc9 := 27) C rfl 29 dX11_noLaying_24 rfl (fun c_4 => ?_) (fun c_4 => ?_)
    · exact absurd c_4 (by decide)
    · refine g_iconst (pc9 := 28) C rfl (nI (1)) dX11_noLaying_27 rfl ?_
      exact g_zreturn C hr hlk dX11_noLaying_28 (by decide) (Or.inl ⟨hns, rfl, rfl⟩)
  · have hs_5 := Classical.not_not.mp (pI_no c_2)
    refine g_iload_n (pc9 := 9) C rfl 2 dX11_noLaying_8 rfl rfl ?_
    refine g_callSi (nn := 1) (rest := [.ref (w.1 (0))]) (pc9 := 12) C rfl [.int (y)] rfl dX11_noLaying_9 (m_X11_noShelf l w (sN σ (0) 0 (nI (0))) y) gX11_noLaying_X11_noShelf rfl rfl rfl (by decide +kernel) ⟨by decide, by decide⟩ rfl (Nat.le_of_ble_eq_true rfl) ⟨by decide, by decide⟩ (fun r_5 σ_5 q_5 => ?_)
    obtain ⟨qs_5, qr_5⟩ := q_5
    rw [qs_5, qr_5]
    clear qs_5 qr_5
    refine g_if_eq (pc9 := 15) C rfl 19 dX11_noLaying_12 rfl (fun c_6 => ?_) (fun c_6 => ?_)
    · have hs_12 := Classical.not_not.mp (pI_no c_6)
      obtain ⟨i, hb_i, hx_i⟩ := hs_5
      obtain ⟨k, hb_k, hx_k⟩ := hs_12
      subst hx_i
      subst hx_k
      refine g_iconst (pc9 := 20) C rfl (nI (0)) dX11_noLaying_19 rfl ?_
      refine g_iconst (pc9 := 21) C rfl (nI (1)) dX11_noLaying_20 rfl ?_
      refine g_callVi (nn := 2) (rest := []) (pc9 := 24) C rfl (0) [.int (nI (0)), .int (nI (1))] rfl dX11_noLaying_21 (m_throws0 l w (sN σ (0) 0 (nI (0))) 1) gX11_noLaying_X11_throwsIf (by decide) (ce_0 w (sN σ (0) 0 (nI (0)))) rfl rfl rfl rfl rfl (by decide +kernel) ⟨by decide, by decide⟩ rfl (Nat.le_of_ble_eq_true rfl) ⟨by decide, by decide⟩ (fun r_7 σ_7 q_7 => ?_)
      obtain ⟨qs_7, qr_7⟩ := q_7
      rw [qs_7, qr_7]
      refine g_if_eq (pc9 := 27) C rfl 29 dX11_noLaying_24 rfl (fun c_8 => ?_) (fun c_8 => ?_)
      · refine g_aload_n (pc9 := 30) C rfl 0 dX11_noLaying_29 rfl rfl ?_
        refine g_aload_n (pc9 := 31) C rfl 0 dX11_noLaying_30 rfl rfl ?_
        refine g_get (v := .ref (w.1 (2))) (pc9 := 34) C rfl (0) 5 dX11_noLaying_31 (by decide) (ce_0 w (sN σ (0) 0 (nI (0)))) hin_11 hl_17 rfl (by decide) rfl rfl ?_
        refine g_iload_n (pc9 := 35) C rfl 1 dX11_noLaying_34 rfl rfl ?_
        refine g_iald (x := nI (mN σ (i))) (pc9 := 36) C rfl (2) (i) dX11_noLaying_35 (by decide) (ce_2 w (sN σ (0) 0 (nI (0)))) rfl (by omega) (by decide) ((congrFun (iA_N) _).trans (hM i hb_i).1) ?_
        have h47_i := (hM i hb_i).2.1
        refine g_if_eq (pc9 := 39) C rfl 79 dX11_noLaying_36 rfl (fun c_9 => ?_) (fun c_9 => ?_)
        · replace c_9 := (z_eq (by omega)).mp c_9
          have hbd : mnlB σ i k := Or.inl (by omega)
          refine g_iconst (pc9 := 80) C rfl (nI (1)) dX11_noLaying_79 rfl ?_
          refine g_goto C 84 dX11_noLaying_80 rfl ?_
          refine g_iconst (pc9 := 85) C rfl (nI (2)) dX11_noLaying_84 rfl ?_
          refine g_callVi (nn := 2) (rest := []) (pc9 := 88) C rfl (0) [.int (nI (1)), .int (nI (2))] rfl dX11_noLaying_85 (m_throws1 l w (sN σ (0) 0 (nI (0))) 2) gX11_noLaying_X11_throwsIf (by decide) (ce_0 w (sN σ (0) 0 (nI (0)))) rfl rfl rfl rfl rfl (by decide +kernel) ⟨by decide, by decide⟩ rfl (Nat.le_of_ble_eq_true rfl) ⟨by decide, by decide⟩ (fun r_10 σ_10 q_10 => ?_)
          obtain ⟨qs_10, qr_10⟩ := q_10
          rw [qr_10]
          refine g_st (σ9 := sN σ (0) 0 (nI (2))) (qs_10.trans (by show sN (sN σ (0) 0 (nI (0))) (0) 0 (nI (2)) = sN σ (0) 0 (nI (2)); rw [sN_sN])) ?_
          exact g_zreturn C hr hlk dX11_noLaying_88 (by decide) (by first | exact Or.inr ⟨i, k, hb_i, hb_k, rfl, rfl, Or.inl ⟨hbd, rfl, rfl⟩⟩ | exact Or.inr ⟨i, k, hb_i, hb_k, rfl, rfl, Or.inr ⟨hgd, rfl, rfl⟩⟩)
        · replace c_9 := (not_congr (z_eq (by omega))).mp c_9
          refine g_aload_n (pc9 := 40) C rfl 0 dX11_noLaying_39 rfl rfl ?_
          refine g_iload_n (pc9 := 41) C rfl 1 dX11_noLaying_40 rfl rfl ?_
          refine g_callVi (nn := 1) (rest := [.ref (w.1 (0))]) (pc9 := 44) C rfl (0) [.int (nI (i))] rfl dX11_noLaying_41 (m_X11_isBinary l w (sN σ (0) 0 (nI (0))) i hb_i (hM i hb_i)) gX11_noLaying_X11_isBinary (by decide) (ce_0 w (sN σ (0) 0 (nI (0)))) rfl rfl rfl rfl rfl (by decide +kernel) ⟨by decide, by decide⟩ rfl (Nat.le_of_ble_eq_true rfl) ⟨by decide, by decide⟩ (fun r_11 σ_11 q_11 => ?_)
          obtain ⟨qs_11, qr_11⟩ := q_11
          replace qr_11 : r_11 = pI (mBi σ i) := qr_11
          rw [qs_11, qr_11]
          clear qs_11 qr_11
          refine g_if_eq (pc9 := 47) C rfl 79 dX11_noLaying_44 rfl (fun c_12 => ?_) (fun c_12 => ?_)
          · have hbd : mnlB σ i k := Or.inr (Or.inl (pI_no c_12))
            refine g_iconst (pc9 := 80) C rfl (nI (1)) dX11_noLaying_79 rfl ?_
            refine g_goto C 84 dX11_noLaying_80 rfl ?_
            refine g_iconst (pc9 := 85) C rfl (nI (2)) dX11_noLaying_84 rfl ?_
            refine g_callVi (nn := 2) (rest := []) (pc9 := 88) C rfl (0) [.int (nI (1)), .int (nI (2))] rfl dX11_noLaying_85 (m_throws1 l w (sN σ (0) 0 (nI (0))) 2) gX11_noLaying_X11_throwsIf (by decide) (ce_0 w (sN σ (0) 0 (nI (0)))) rfl rfl rfl rfl rfl (by decide +kernel) ⟨by decide, by decide⟩ rfl (Nat.le_of_ble_eq_true rfl) ⟨by decide, by decide⟩ (fun r_13 σ_13 q_13 => ?_)
            obtain ⟨qs_13, qr_13⟩ := q_13
            rw [qr_13]
            refine g_st (σ9 := sN σ (0) 0 (nI (2))) (qs_13.trans (by show sN (sN σ (0) 0 (nI (0))) (0) 0 (nI (2)) = sN σ (0) 0 (nI (2)); rw [sN_sN])) ?_
            exact g_zreturn C hr hlk dX11_noLaying_88 (by decide) (by first | exact Or.inr ⟨i, k, hb_i, hb_k, rfl, rfl, Or.inl ⟨hbd, rfl, rfl⟩⟩ | exact Or.inr ⟨i, k, hb_i, hb_k, rfl, rfl, Or.inr ⟨hgd, rfl, rfl⟩⟩)
          · have hb1 := pI_ye c_12
            refine g_aload_n (pc9 := 48) C rfl 0 dX11_noLaying_47 rfl rfl ?_
            refine g_iload_n (pc9 := 49) C rfl 2 dX11_noLaying_48 rfl rfl ?_
            refine g_callVi (nn := 1) (rest := [.ref (w.1 (0))]) (pc9 := 52) C rfl (0) [.int (nI (k))] rfl dX11_noLaying_49 (m_X11_isPlain l w (sN σ (0) 0 (nI (0))) k hb_k (hM k hb_k)) gX11_noLaying_X11_isPlain (by decide) (ce_0 w (sN σ (0) 0 (nI (0)))) rfl rfl rfl rfl rfl (by decide +kernel) ⟨by decide, by decide⟩ rfl (Nat.le_of_ble_eq_true rfl) ⟨by decide, by decide⟩ (fun r_14 σ_14 q_14 => ?_)
            obtain ⟨qs_14, qr_14⟩ := q_14
            replace qr_14 : r_14 = pI (mPl σ k) := qr_14
            rw [qs_14, qr_14]
            clear qs_14 qr_14
            refine g_if_eq (pc9 := 55) C rfl 79 dX11_noLaying_52 rfl (fun c_15 => ?_) (fun c_15 => ?_)
            · have hbd : mnlB σ i k := Or.inr (Or.inr (Or.inl (pI_no c_15)))
              refine g_iconst (pc9 := 80) C rfl (nI (1)) dX11_noLaying_79 rfl ?_
              refine g_goto C 84 dX11_noLaying_80 rfl ?_
              refine g_iconst (pc9 := 85) C rfl (nI (2)) dX11_noLaying_84 rfl ?_
              refine g_callVi (nn := 2) (rest := []) (pc9 := 88) C rfl (0) [.int (nI (1)), .int (nI (2))] rfl dX11_noLaying_85 (m_throws1 l w (sN σ (0) 0 (nI (0))) 2) gX11_noLaying_X11_throwsIf (by decide) (ce_0 w (sN σ (0) 0 (nI (0)))) rfl rfl rfl rfl rfl (by decide +kernel) ⟨by decide, by decide⟩ rfl (Nat.le_of_ble_eq_true rfl) ⟨by decide, by decide⟩ (fun r_16 σ_16 q_16 => ?_)
              obtain ⟨qs_16, qr_16⟩ := q_16
              rw [qr_16]
              refine g_st (σ9 := sN σ (0) 0 (nI (2))) (qs_16.trans (by show sN (sN σ (0) 0 (nI (0))) (0) 0 (nI (2)) = sN σ (0) 0 (nI (2)); rw [sN_sN])) ?_
              exact g_zreturn C hr hlk dX11_noLaying_88 (by decide) (by first | exact Or.inr ⟨i, k, hb_i, hb_k, rfl, rfl, Or.inl ⟨hbd, rfl, rfl⟩⟩ | exact Or.inr ⟨i, k, hb_i, hb_k, rfl, rfl, Or.inr ⟨hgd, rfl, rfl⟩⟩)
            · have hb2 := pI_ye c_15
              refine g_aload_n (pc9 := 56) C rfl 0 dX11_noLaying_55 rfl rfl ?_
              refine g_iload_n (pc9 := 57) C rfl 2 dX11_noLaying_56 rfl rfl ?_
              refine g_callVi (nn := 1) (rest := [.ref (w.1 (0))]) (pc9 := 60) C rfl (0) [.int (nI (k))] rfl dX11_noLaying_57 (m_X11_isBinary l w (sN σ (0) 0 (nI (0))) k hb_k (hM k hb_k)) gX11_noLaying_X11_isBinary (by decide) (ce_0 w (sN σ (0) 0 (nI (0)))) rfl rfl rfl rfl rfl (by decide +kernel) ⟨by decide, by decide⟩ rfl (Nat.le_of_ble_eq_true rfl) ⟨by decide, by decide⟩ (fun r_17 σ_17 q_17 => ?_)
              obtain ⟨qs_17, qr_17⟩ := q_17
              replace qr_17 : r_17 = pI (mBi σ k) := qr_17
              rw [qs_17, qr_17]
              clear qs_17 qr_17
              refine g_if_eq (pc9 := 63) C rfl 79 dX11_noLaying_60 rfl (fun c_18 => ?_) (fun c_18 => ?_)
              · have hbd : mnlB σ i k := Or.inr (Or.inr (Or.inr (Or.inl (pI_no c_18))))
                refine g_iconst (pc9 := 80) C rfl (nI (1)) dX11_noLaying_79 rfl ?_
                refine g_goto C 84 dX11_noLaying_80 rfl ?_
                refine g_iconst (pc9 := 85) C rfl (nI (2)) dX11_noLaying_84 rfl ?_
                refine g_callVi (nn := 2) (rest := []) (pc9 := 88) C rfl (0) [.int (nI (1)), .int (nI (2))] rfl dX11_noLaying_85 (m_throws1 l w (sN σ (0) 0 (nI (0))) 2) gX11_noLaying_X11_throwsIf (by decide) (ce_0 w (sN σ (0) 0 (nI (0)))) rfl rfl rfl rfl rfl (by decide +kernel) ⟨by decide, by decide⟩ rfl (Nat.le_of_ble_eq_true rfl) ⟨by decide, by decide⟩ (fun r_19 σ_19 q_19 => ?_)
                obtain ⟨qs_19, qr_19⟩ := q_19
                rw [qr_19]
                refine g_st (σ9 := sN σ (0) 0 (nI (2))) (qs_19.trans (by show sN (sN σ (0) 0 (nI (0))) (0) 0 (nI (2)) = sN σ (0) 0 (nI (2)); rw [sN_sN])) ?_
                exact g_zreturn C hr hlk dX11_noLaying_88 (by decide) (by first | exact Or.inr ⟨i, k, hb_i, hb_k, rfl, rfl, Or.inl ⟨hbd, rfl, rfl⟩⟩ | exact Or.inr ⟨i, k, hb_i, hb_k, rfl, rfl, Or.inr ⟨hgd, rfl, rfl⟩⟩)
              · have hb3 := pI_ye c_18
                refine g_aload_n (pc9 := 64) C rfl 0 dX11_noLaying_63 rfl rfl ?_
                refine g_iload_n (pc9 := 65) C rfl 1 dX11_noLaying_64 rfl rfl ?_
                refine g_callVi (nn := 1) (rest := [.ref (w.1 (0))]) (pc9 := 68) C rfl (0) [.int (nI (i))] rfl dX11_noLaying_65 (m_X11_kindsOf l w (sN σ (0) 0 (nI (0))) i hb_i (hM i hb_i)) gX11_noLaying_X11_kindsOf (by decide) (ce_0 w (sN σ (0) 0 (nI (0)))) rfl rfl rfl rfl rfl (by decide +kernel) ⟨by decide, by decide⟩ rfl (Nat.le_of_ble_eq_true rfl) ⟨by decide, by decide⟩ (fun r_20 σ_20 q_20 => ?_)
                obtain ⟨qs_20, qr_20⟩ := q_20
                replace qr_20 : r_20 = mKs σ i := qr_20
                rw [qs_20, qr_20]
                clear qs_20 qr_20
                refine g_aload_n (pc9 := 69) C rfl 0 dX11_noLaying_68 rfl rfl ?_
                refine g_iload_n (pc9 := 70) C rfl 2 dX11_noLaying_69 rfl rfl ?_
                refine g_callVi (nn := 1) (rest := [.int (mKs σ i), .ref (w.1 (0))]) (pc9 := 73) C rfl (0) [.int (nI (k))] rfl dX11_noLaying_70 (m_X11_kindsOf l w (sN σ (0) 0 (nI (0))) k hb_k (hM k hb_k)) gX11_noLaying_X11_kindsOf (by decide) (ce_0 w (sN σ (0) 0 (nI (0)))) rfl rfl rfl rfl rfl (by decide +kernel) ⟨by decide, by decide⟩ rfl (Nat.le_of_ble_eq_true rfl) ⟨by decide, by decide⟩ (fun r_21 σ_21 q_21 => ?_)
                obtain ⟨qs_21, qr_21⟩ := q_21
                replace qr_21 : r_21 = mKs σ k := qr_21
                rw [qs_21, qr_21]
                clear qs_21 qr_21
                refine g_iconst (pc9 := 74) C rfl ((-1)) dX11_noLaying_73 rfl ?_
                refine g_ixor (pc9 := 75) C rfl dX11_noLaying_74 ?_
                refine g_iand (pc9 := 76) C rfl dX11_noLaying_75 ?_
                refine g_if_eq (pc9 := 79) C rfl 83 dX11_noLaying_76 rfl (fun c_22 => ?_) (fun c_22 => ?_)
                · have hgd : ¬ mnlB σ i k := fun h => by rcases h with h | h | h | h | h; (have := hb1.1; omega); exact h hb1; exact h hb2; exact h hb3; exact h c_22
                  refine g_iconst (pc9 := 84) C rfl (nI (0)) dX11_noLaying_83 rfl ?_
                  refine g_iconst (pc9 := 85) C rfl (nI (2)) dX11_noLaying_84 rfl ?_
                  refine g_callVi (nn := 2) (rest := []) (pc9 := 88) C rfl (0) [.int (nI (0)), .int (nI (2))] rfl dX11_noLaying_85 (m_throws0 l w (sN σ (0) 0 (nI (0))) 2) gX11_noLaying_X11_throwsIf (by decide) (ce_0 w (sN σ (0) 0 (nI (0)))) rfl rfl rfl rfl rfl (by decide +kernel) ⟨by decide, by decide⟩ rfl (Nat.le_of_ble_eq_true rfl) ⟨by decide, by decide⟩ (fun r_23 σ_23 q_23 => ?_)
                  obtain ⟨qs_23, qr_23⟩ := q_23
                  rw [qs_23, qr_23]
                  exact g_zreturn C hr hlk dX11_noLaying_88 (by decide) (by first | exact Or.inr ⟨i, k, hb_i, hb_k, rfl, rfl, Or.inl ⟨hbd, rfl, rfl⟩⟩ | exact Or.inr ⟨i, k, hb_i, hb_k, rfl, rfl, Or.inr ⟨hgd, rfl, rfl⟩⟩)
                · have hbd : mnlB σ i k := Or.inr (Or.inr (Or.inr (Or.inr c_22)))
                  refine g_iconst (pc9 := 80) C rfl (nI (1)) dX11_noLaying_79 rfl ?_
                  refine g_goto C 84 dX11_noLaying_80 rfl ?_
                  refine g_iconst (pc9 := 85) C rfl (nI (2)) dX11_noLaying_84 rfl ?_
                  refine g_callVi (nn := 2) (rest := []) (pc9 := 88) C rfl (0) [.int (nI (1)), .int (nI (2))] rfl dX11_noLaying_85 (m_throws1 l w (sN σ (0) 0 (nI (0))) 2) gX11_noLaying_X11_throwsIf (by decide) (ce_0 w (sN σ (0) 0 (nI (0)))) rfl rfl rfl rfl rfl (by decide +kernel) ⟨by decide, by decide⟩ rfl (Nat.le_of_ble_eq_true rfl) ⟨by decide, by decide⟩ (fun r_24 σ_24 q_24 => ?_)
                  obtain ⟨qs_24, qr_24⟩ := q_24
                  rw [qr_24]
                  refine g_st (σ9 := sN σ (0) 0 (nI (2))) (qs_24.trans (by show sN (sN σ (0) 0 (nI (0))) (0) 0 (nI (2)) = sN σ (0) 0 (nI (2)); rw [sN_sN])) ?_
                  exact g_zreturn C hr hlk dX11_noLaying_88 (by decide) (by first | exact Or.inr ⟨i, k, hb_i, hb_k, rfl, rfl, Or.inl ⟨hbd, rfl, rfl⟩⟩ | exact Or.inr ⟨i, k, hb_i, hb_k, rfl, rfl, Or.inr ⟨hgd, rfl, rfl⟩⟩)
      · exact absurd c_8 (by decide)
    · have hns : ¬ (okI 8 x ∧ okI 8 y) := fun h => pI_ye c_6 h.2
      refine g_iconst (pc9 := 16) C rfl (nI (1)) dX11_noLaying_15 rfl ?_
      refine g_goto C 20 dX11_noLaying_16 rfl ?_
      refine g_iconst (pc9 := 21) C rfl (nI (1)) dX11_noLaying_20 rfl ?_
      refine g_callVi (nn := 2) (rest := []) (pc9 := 24) C rfl (0) [.int (nI (1)), .int (nI (1))] rfl dX11_noLaying_21 (m_throws1 l w (sN σ (0) 0 (nI (0))) 1) gX11_noLaying_X11_throwsIf (by decide) (ce_0 w (sN σ (0) 0 (nI (0)))) rfl rfl rfl rfl rfl (by decide +kernel) ⟨by decide, by decide⟩ rfl (Nat.le_of_ble_eq_true rfl) ⟨by decide, by decide⟩ (fun r_25 σ_25 q_25 => ?_)
      obtain ⟨qs_25, qr_25⟩ := q_25
      rw [qr_25]
      refine g_st (σ9 := sN σ (0) 0 (nI (1))) (qs_25.trans (by show sN (sN σ (0) 0 (nI (0))) (0) 0 (nI (1)) = sN σ (0) 0 (nI (1)); rw [sN_sN])) ?_
      refine g_if_eq (pc9 := 27) C rfl 29 dX11_noLaying_24 rfl (fun c_26 => ?_) (fun c_26 => ?_)
      · exact absurd c_26 (by decide)
      · refine g_iconst (pc9 := 28) C rfl (nI (1)) dX11_noLaying_27 rfl ?_
        exact g_zreturn C hr hlk dX11_noLaying_28 (by decide) (Or.inl ⟨hns, rfl, rfl⟩)

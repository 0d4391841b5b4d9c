/-! The reference: reading -/
def gz : GT := (0, -1, 0, fun _ => 0, fun _ => 0, fun _ => 0, fun _ => 0)
def pfx (f : Nat → Int32) (r : RdS) (a : Nat) : Prop := ∀ i, i < a → (rdR (f i) (rdU f r i)).1 = 0
theorem pfx_s {f : Nat → Int32} {r : RdS} {a : Nat} (h : pfx f r a) (h2 : (rdR (f a) (rdU f r a)).1 = 0) : pfx f r (a + 1) := fun i hi => by
  by_cases e : i = a
  · rw [e]; exact h2
  · exact h i (by omega)
theorem gw_pre {f : Nat → Int32} {c : Nat → Int32} : ∀ (a : Nat), a ≤ 400 → pfx f (0, 0, 0, c) a → gwOk a (rdU f (0, 0, 0, c) a) (gwU f gz a)
  | 0, _, _ => ⟨fun _ => 0, fun _ => 0, 0, fun _ => rfl, fun z => absurd (show 0 < 0 from z) (by decide), fun k hk => absurd (show k < 0 from hk) (by omega), fun k hk => absurd (show k + 1 < 0 from hk) (by omega), fun z => absurd (show 0 < 0 from z) (by decide), fun _ _ => rfl, rfl, fun k hk => absurd (show k < 0 from hk) (by omega), rfl, Nat.le_refl _, Nat.le_refl _, fun _ => rfl, fun v h1 h2 => absurd (show v < 0 from h2) (by omega)⟩
  | a + 1, ha, h => gwOk_step (by omega) (gw_pre a (by omega) (fun i hi => h i (by omega))) (rdU_ok ⟨Nat.zero_le _, Nat.zero_le _, Nat.zero_le _⟩ a) (h a (by omega))
theorem exF_pre {f : Nat → Int32} {r : RdS} {L : Nat} : ∀ a, a ≤ L → pfx f r a → exF f L L 0 r = exF f L (L - a) a (rdU f r a)
  | 0, _, _ => rfl
  | a + 1, ha, h => by
    rw [exF_pre a (by omega) (fun i hi => h i (by omega)), exF_s (by omega), if_pos (h a (by omega))]
    rfl
theorem rd_32 {x : Int32} {r : RdS} (h : x = nI 32) : rdR x r = (nI 0, r) := by
  unfold rdR rdA
  rw [if_pos h]
theorem blk {f : Nat → Int32} {r : RdS} {q : GT} {a : Nat} : ∀ b, a ≤ b → (∀ u, a ≤ u → u < b → f u = nI 32) → rdU f r b = rdU f r a ∧ gwU f q b = gwU f q a ∧ (pfx f r a → pfx f r b)
  | 0, h, _ => by rw [show a = 0 by omega]; exact ⟨rfl, rfl, fun h => h⟩
  | b + 1, h, hb => by
    by_cases e : a = b + 1
    · rw [e]; exact ⟨rfl, rfl, fun h => h⟩
    · obtain ⟨h1, h2, h3⟩ := blk (f := f) (r := r) (q := q) (a := a) b (by omega) (fun u q1 q2 => hb u q1 (by omega))
      have h4 := hb b (by omega) (by omega)
      refine ⟨?_, ?_, fun h => pfx_s (h3 h) (by rw [rd_32 h4]; rfl)⟩
      · show (rdR (f b) (rdU f r b)).2 = _
        rw [rd_32 h4]; exact h1
      · show gwS (f b) (gwU f q b) = _
        rw [gw_skip (by rw [h4]; decide) (by rw [h4]; decide) (by rw [h4]; decide)]; exact h2
/-- the open nodes -/
def OPk (r : RdS) (op : Nat → Int32) (q : GT) : Prop := (0 < r.1 → q.2.1 = op (r.1 - 1)) ∧ (∀ k, k < r.1 → ∃ u, u < q.1 ∧ op k = nI u) ∧ (∀ k, k + 1 < r.1 → q.2.2.2.1 (op (k + 1)).toNatClampNeg = op k) ∧ (0 < r.1 → q.2.2.2.1 (op 0).toNatClampNeg = -1) ∧ (r.1 = 0 → q.2.1 = -1) ∧ q.1 < 80
theorem gw_80 {i : Nat} {r : RdS} {q : GT} (h : gwOk i r q) (hr : rdOk r) : q.1 < 80 ∧ (r.1 = 0 → q.2.1 = -1) ∧ (r.2.2.1 = 0 → r.1 = 0 → q.1 = 0) ∧ (0 < r.1 → 0 < q.1) := by
  obtain ⟨a, cc, br, i1, i2, i3, i4, i5, i6, i7, i8, i9, i10, i11, i12, i13⟩ := h
  obtain ⟨r1, r2, r3⟩ := hr
  exact ⟨by omega, i1, fun h1 h2 => i6 h2 h1, fun h => by have := i3 0 h; omega⟩
theorem rd_40 {x : Int32} {r : RdS} (h : x = nI 40) (h0 : r.2.2.1 = 0) (ho : r.1 < 23) : rdR x r = (nI 0, r.1 + 1, r.2.1, r.2.2.1, upd r.2.2.2 r.1 (nI 0)) := by
  unfold rdR rdA rdN
  rw [if_neg (by rw [h]; decide), if_pos h0, if_pos h, if_pos ho]
theorem rd_40x {x : Int32} {r : RdS} (h : x = nI 40) (h0 : r.2.2.1 = 0) (ho : ¬ r.1 < 23) : (rdR x r).1 = nI 2 := by
  unfold rdR rdA rdN
  rw [if_neg (by rw [h]; decide), if_pos h0, if_pos h, if_neg ho]
theorem let_no {x : Int32} (h : letP x) : ¬ x = nI 32 ∧ ¬ x = nI 40 ∧ ¬ x = nI 41 := by
  obtain ⟨k, hk, rfl⟩ := letP_k h
  refine ⟨fun y => ?_, fun y => ?_, fun y => ?_⟩ <;> (have := (nI_eq (by omega) (by decide)).mp y; omega)
theorem rd_let {x : Int32} {r : RdS} (h : letP x) (h0 : r.2.2.1 = 0) (ho : r.2.1 < 24) : rdR x r = (nI 0, r.1, r.2.1 + 1, 1, r.2.2.2) := by
  unfold rdR rdA rdN
  rw [if_neg (let_no h).1, if_pos h0, if_neg (let_no h).2.1, if_pos h, if_pos ho]
theorem rd_letx {x : Int32} {r : RdS} (h : letP x) (h0 : r.2.2.1 = 0) (ho : ¬ r.2.1 < 24) : (rdR x r).1 = nI 2 := by
  unfold rdR rdA rdN
  rw [if_neg (let_no h).1, if_pos h0, if_neg (let_no h).2.1, if_pos h, if_neg ho]
theorem rd_nox {x : Int32} {r : RdS} (h32 : ¬ x = nI 32) (h40 : ¬ x = nI 40) (h : ¬ letP x) (h0 : r.2.2.1 = 0) : (rdR x r).1 = nI 1 := by
  unfold rdR rdA rdN
  rw [if_neg h32, if_pos h0, if_neg h40, if_neg h]
theorem rd_59 {x : Int32} {r : RdS} (h : x = nI 59) (h1 : r.2.2.1 = 1) (ho : r.1 = 0) : rdR x r = (nI 0, r.1, r.2.1, 2, r.2.2.2) := by
  unfold rdR rdA rdE
  rw [if_neg (by rw [h]; decide), if_neg (by rw [h1]; decide), if_pos h1, if_pos ho, if_pos h]
theorem rd_59x {x : Int32} {r : RdS} (h32 : ¬ x = nI 32) (h : ¬ x = nI 59) (h1 : r.2.2.1 = 1) (ho : r.1 = 0) : (rdR x r).1 = nI 1 := by
  unfold rdR rdA rdE
  rw [if_neg h32, if_neg (by rw [h1]; decide), if_pos h1, if_pos ho, if_neg h]
theorem rd_44 {x : Int32} {r : RdS} (h : x = nI 44) (h1 : r.2.2.1 = 1) (ho : ¬ r.1 = 0) : rdR x r = (nI 0, r.1, r.2.1, 0, upd r.2.2.2 (r.1 - 1) (r.2.2.2 (r.1 - 1) + nI 1)) := by
  unfold rdR rdA rdB
  rw [if_neg (by rw [h]; decide), if_neg (by rw [h1]; decide), if_pos h1, if_neg ho, if_pos h]
theorem rd_41 {x : Int32} {r : RdS} (h : x = nI 41) (h1 : r.2.2.1 = 1) (ho : ¬ r.1 = 0) (hc : ¬ r.2.2.2 (r.1 - 1) ≤ 0) : rdR x r = (nI 0, r.1 - 1, r.2.1, r.2.2.1, r.2.2.2) := by
  unfold rdR rdA rdB
  rw [if_neg (by rw [h]; decide), if_neg (by rw [h1]; decide), if_pos h1, if_neg ho, if_neg (by rw [h]; decide), if_pos h, if_neg hc]
theorem rd_41x {x : Int32} {r : RdS} (h : x = nI 41) (h1 : r.2.2.1 = 1) (ho : ¬ r.1 = 0) (hc : r.2.2.2 (r.1 - 1) ≤ 0) : (rdR x r).1 = nI 1 := by
  unfold rdR rdA rdB
  rw [if_neg (by rw [h]; decide), if_neg (by rw [h1]; decide), if_pos h1, if_neg ho, if_neg (by rw [h]; decide), if_pos h, if_pos hc]
theorem rd_brx {x : Int32} {r : RdS} (h32 : ¬ x = nI 32) (h44 : ¬ x = nI 44) (h41 : ¬ x = nI 41) (h1 : r.2.2.1 = 1) (ho : ¬ r.1 = 0) : (rdR x r).1 = nI 1 := by
  unfold rdR rdA rdB
  rw [if_neg h32, if_neg (by rw [h1]; decide), if_pos h1, if_neg ho, if_neg h44, if_neg h41]
theorem rd_2x {x : Int32} {r : RdS} (h32 : ¬ x = nI 32) (h1 : r.2.2.1 = 2) : (rdR x r).1 = nI 1 := by
  unfold rdR rdA
  rw [if_neg h32, if_neg (by rw [h1]; decide), if_neg (by rw [h1]; decide)]
theorem OPk_open {i : Nat} {x : Int32} {r : RdS} {op : Nat → Int32} {q : GT} (h : OPk r op q) (hg : gwOk i r q) (hr : rdOk r) (hx : x = nI 40) (h0 : r.2.2.1 = 0) (ho : r.1 < 23) : OPk (rdR x r).2 (upd op r.1 (nI q.1)) (gwS x q) ∧ (tdA q.1 q.2.1.toNatClampNeg (-1) q.2.2).2.1 = upd q.2.2.2.1 q.1 q.2.1 := by
  obtain ⟨o1, o2, o3, o4, o5, o6⟩ := h
  obtain ⟨g1, g2, g3, g4⟩ := gw_80 hg hr
  have hA := gw_add (k := -1) (u := q.2.1.toNatClampNeg) hg hr h0 rfl
  have hpar : (tdA q.1 q.2.1.toNatClampNeg (-1) q.2.2).2.1 = upd q.2.2.2.1 q.1 q.2.1 := by
    show upd q.2.2.2.1 q.1 (if q.1 = 0 then -1 else nI q.2.1.toNatClampNeg) = _
    by_cases z : q.1 = 0
    · rw [if_pos z, g2 (hA.2.1.mp z)]
    · rw [if_neg z]
      obtain ⟨u, hu, e⟩ := o2 (r.1 - 1) (by have := hA.2.1.mpr; omega)
      rw [o1 (by have := hA.2.1.mpr; omega), e, nI_clamp (by omega)]
  refine ⟨?_, hpar⟩
  have g9 : (rdR x r).2 = (r.1 + 1, r.2.1, r.2.2.1, upd r.2.2.2 r.1 (nI 0)) := by rw [rd_40 hx h0 ho]
  rw [g9, gw_40 hx]
  have hq : q.1 < 72 := by
    obtain ⟨a, cc, br, i1, i2, i3, i4, i5, i6, i7, i8, i9, i10, i11, i12, i13⟩ := hg
    obtain ⟨r1, r2, r3⟩ := hr
    omega
  refine ⟨fun _ => ?_, fun k hk => ?_, fun k hk => ?_, fun _ => ?_, fun z => by simp at z, ?_⟩
  · show nI q.1 = upd op r.1 (nI q.1) (r.1 + 1 - 1)
    rw [show r.1 + 1 - 1 = r.1 by omega, pk_us]
  · show ∃ u, u < q.1 + 1 ∧ upd op r.1 (nI q.1) k = nI u
    dsimp only at hk
    by_cases e : k = r.1
    · exact ⟨q.1, by omega, by rw [e, pk_us]⟩
    · obtain ⟨u, hu, e2⟩ := o2 k (by omega)
      exact ⟨u, by omega, by rw [pk_un e]; exact e2⟩
  · show (tdA q.1 q.2.1.toNatClampNeg (-1) q.2.2).2.1 (upd op r.1 (nI q.1) (k + 1)).toNatClampNeg = upd op r.1 (nI q.1) k
    dsimp only at hk
    rw [pk_un (show k ≠ r.1 by omega), hpar]
    by_cases e : k + 1 = r.1
    · rw [e, pk_us, nI_clamp (by omega), pk_us, o1 (by omega), show r.1 - 1 = k by omega]
    · obtain ⟨u, hu, e2⟩ := o2 (k + 1) (by omega)
      rw [pk_un e]
      have h3 := o3 k (by omega)
      rw [e2, nI_clamp (by omega)] at h3 ⊢
      rw [pk_un (by omega)]; exact h3
  · show (tdA q.1 q.2.1.toNatClampNeg (-1) q.2.2).2.1 (upd op r.1 (nI q.1) 0).toNatClampNeg = -1
    rw [hpar]
    by_cases e : r.1 = 0
    · rw [e, pk_us, nI_clamp (by omega), pk_us, g2 e]
    · obtain ⟨u, hu, e2⟩ := o2 0 (by omega)
      rw [pk_un (Ne.symm e)]
      have h3 := o4 (by omega)
      rw [e2, nI_clamp (by omega)] at h3 ⊢
      rw [pk_un (by omega)]; exact h3
  · show q.1 + 1 < 80
    omega
theorem OPk_let {i : Nat} {x : Int32} {r : RdS} {op : Nat → Int32} {q : GT} (h : OPk r op q) (hg : gwOk i r q) (hr : rdOk r) (hx : letP x) (h0 : r.2.2.1 = 0) (ho : r.2.1 < 24) : OPk (rdR x r).2 op (gwS x q) ∧ (tdA q.1 q.2.1.toNatClampNeg (x - nI 97) q.2.2).2.1 = upd q.2.2.2.1 q.1 q.2.1 := by
  obtain ⟨o1, o2, o3, o4, o5, o6⟩ := h
  obtain ⟨g1, g2, g3, g4⟩ := gw_80 hg hr
  have hA := gw_add (k := x - nI 97) (u := q.2.1.toNatClampNeg) hg hr h0 rfl
  have hpar : (tdA q.1 q.2.1.toNatClampNeg (x - nI 97) q.2.2).2.1 = upd q.2.2.2.1 q.1 q.2.1 := by
    show upd q.2.2.2.1 q.1 (if q.1 = 0 then -1 else nI q.2.1.toNatClampNeg) = _
    by_cases z : q.1 = 0
    · rw [if_pos z, g2 (hA.2.1.mp z)]
    · rw [if_neg z]
      obtain ⟨u, hu, e⟩ := o2 (r.1 - 1) (by have := hA.2.1.mpr; omega)
      rw [o1 (by have := hA.2.1.mpr; omega), e, nI_clamp (by omega)]
  refine ⟨?_, hpar⟩
  have g9 : (rdR x r).2 = (r.1, r.2.1 + 1, 1, r.2.2.2) := by rw [rd_let hx h0 ho]
  have hq : q.1 < 72 := by
    obtain ⟨a, cc, br, i1, i2, i3, i4, i5, i6, i7, i8, i9, i10, i11, i12, i13⟩ := hg
    obtain ⟨r1, r2, r3⟩ := hr
    omega
  rw [g9, gw_let (let_no hx).2.1 (let_no hx).2.2 hx]
  refine ⟨o1, fun k hk => ?_, fun k hk => ?_, fun z => ?_, o5, ?_⟩
  · obtain ⟨u, hu, e⟩ := o2 k hk
    exact ⟨u, by show u < q.1 + 1; omega, e⟩
  · show (tdA q.1 q.2.1.toNatClampNeg (x - nI 97) q.2.2).2.1 (op (k + 1)).toNatClampNeg = op k
    obtain ⟨u, hu, e⟩ := o2 (k + 1) hk
    have h3 := o3 k hk
    rw [hpar, e, nI_clamp (by omega), pk_un (by omega)]
    rw [e, nI_clamp (by omega)] at h3
    exact h3
  · show (tdA q.1 q.2.1.toNatClampNeg (x - nI 97) q.2.2).2.1 (op 0).toNatClampNeg = -1
    obtain ⟨u, hu, e⟩ := o2 0 z
    have h3 := o4 z
    rw [hpar, e, nI_clamp (by omega), pk_un (by omega)]
    rw [e, nI_clamp (by omega)] at h3
    exact h3
  · show q.1 + 1 < 80
    omega
theorem OPk_close {x : Int32} {r : RdS} {op : Nat → Int32} {q : GT} (h : OPk r op q) (hx : x = nI 41) (h1 : r.2.2.1 = 1) (ho : ¬ r.1 = 0) (hc : ¬ r.2.2.2 (r.1 - 1) ≤ 0) : OPk (rdR x r).2 op (gwS x q) := by
  obtain ⟨o1, o2, o3, o4, o5, o6⟩ := h
  have g9 : (rdR x r).2 = (r.1 - 1, r.2.1, r.2.2.1, r.2.2.2) := by rw [rd_41 hx h1 ho hc]
  rw [g9, gw_41 hx]
  refine ⟨fun z => ?_, fun k hk => o2 k (by dsimp only at hk; omega), fun k hk => o3 k (by dsimp only at hk; omega), fun z => o4 (by omega), fun z => ?_, o6⟩
  · show q.2.2.2.1 q.2.1.toNatClampNeg = op (r.1 - 1 - 1)
    dsimp only at z
    rw [o1 (by omega)]
    have := o3 (r.1 - 1 - 1) (by omega)
    rw [show r.1 - 1 - 1 + 1 = r.1 - 1 by omega] at this
    exact this
  · show q.2.2.2.1 q.2.1.toNatClampNeg = -1
    dsimp only at z
    rw [o1 (by omega), show r.1 - 1 = 0 from z]
    exact o4 (by omega)
theorem put47_u {h g : Nat → Int32} {n : Nat} {x : Int32} : upd (put47 h g 8 n) (376 + n) x = put47 (upd h n x) g 8 (n + 1) := by
  funext q
  unfold upd put47
  by_cases e : q = 376 + n
  · rw [if_pos e, if_pos (by omega)]; exact (if_pos (show q - 47 * 8 = n by omega)).symm
  · rw [if_neg e]
    by_cases e2 : 47 * 8 ≤ q ∧ q < 47 * 8 + n
    · rw [if_pos e2, if_pos (by omega)]; exact (if_neg (show ¬ q - 47 * 8 = n by omega)).symm
    · rw [if_neg e2, if_neg (by omega)]
abbrev rdM (σ : St) (n : Nat) (h k op c : Nat → Int32) (a : Nat) : St := sN (sI (sI (sI (sI (sI σ 2 (upd (iA σ 2) 8 (nI n))) 3 (put47 h (iA σ 3) 8 n)) 4 (put47 k (iA σ 4) 8 n)) 14 op) 15 c) 0 22 (nI a)
theorem drS_rdM {σ : St} {n : Nat} {h k op c : Nat → Int32} {a : Nat} {x y : Int32} : drS (rdM σ n h k op c a) n x y = rdM σ (n + 1) (upd h n x) (upd k n y) op c a := by
  have e3 : iA (rdM σ n h k op c a) 3 = put47 h (iA σ 3) 8 n := rfl
  have e4 : iA (rdM σ n h k op c a) 4 = put47 k (iA σ 4) 8 n := rfl
  have e2 : iA (rdM σ n h k op c a) 2 = upd (iA σ 2) 8 (nI n) := rfl
  unfold drS
  rw [e3, e4, e2, put47_u, put47_u, show upd (upd (iA σ 2) 8 (nI n)) 8 (nI (n + 1)) = upd (iA σ 2) 8 (nI (n + 1)) from by funext q; unfold upd; split <;> rfl]
  refine Prod.ext (funext fun q => ?_) rfl
  show va_up (va_up (va_up (va_up (va_up (va_up (va_up (va_up σ.1 2 _) 3 _) 4 _) 14 _) 15 _) 3 _) 4 _) 2 _ q = va_up (va_up (va_up (va_up (va_up σ.1 2 _) 3 _) 4 _) 14 _) 15 _ q
  unfold va_up
  by_cases h2 : q = 2
  · subst h2; rfl
  · by_cases h3 : q = 3
    · subst h3; rfl
    · by_cases h4 : q = 4
      · subst h4; rfl
      · simp only [if_neg h2, if_neg h3, if_neg h4]
set_option maxRecDepth 100000 in
set_option maxHeartbeats 4000000 in
theorem m_X11_wrong (l : Launch) (w : Wd) (σ : St) (k : Nat) : MI l yX11_wrong wsX11_wrong (rmL 1) w [.ref (w.1 (0)), .int (nI (k))] (σ) (fun r σ9 => σ9 = sN (sN σ 0 3 (nI k)) 0 4 (nF σ 0 22) ∧ r = -1) := by
  refine MI_of (cc := cX11_wrong) (maxL := 2) (ret := .int) (by decide) rfl (Nat.le_of_ble_eq_true rfl) ?_
  intro p e s m args below meth c A C hr hlk
  have C : Cx p s m args c w A cX11_wrong RX11 2 wsX11_wrong := C
  have hin_11 : ∀ u ∈ wsX110, u ∈ wsX11_wrong := by decide +kernel
  have hl_13 : Cond.fieldLink RX11 13 "LineageBenchModel" "faultPlace" "I" ∈ wsX11_wrong := by decide +kernel
  have hl_138 : Cond.fieldLink RX11 138 "LineageBenchModel" "faultKind" "I" ∈ wsX11_wrong := by decide +kernel
  have hl_141 : Cond.fieldLink RX11 141 "LineageBenchModel" "at" "I" ∈ wsX11_wrong := by decide +kernel
  refine g_aload_n (pc9 := 1) C rfl 0 dX11_wrong_0 rfl rfl ?_
  refine g_iload_n (pc9 := 2) C rfl 1 dX11_wrong_1 rfl rfl ?_
  refine g_put (pc9 := 5) C rfl (0) 3 dX11_wrong_2 (by decide) (ce_0 w (σ)) (rfl) hin_11 hl_138 tyX11 tyX11_ok nmX11 rfl (by decide) rfl rfl rfl (Nat.le_of_ble_eq_true rfl) ?_
  refine g_aload_n (pc9 := 6) C rfl 0 dX11_wrong_5 rfl rfl ?_
  refine g_aload_n (pc9 := 7) C rfl 0 dX11_wrong_6 rfl rfl ?_
  refine g_get (v := .int (nF σ (0) 22)) (pc9 := 10) C rfl (0) 22 dX11_wrong_7 (by decide) (ce_0 w (sN σ (0) 3 (nI (k)))) hin_11 hl_141 rfl (by decide) rfl (congrArg (fun z => some (Value.int z)) (nF_k (k := 3) (k9 := 22) (by decide))) ?_
  refine g_put (pc9 := 13) C rfl (0) 4 dX11_wrong_10 (by decide) (ce_0 w (sN σ (0) 3 (nI (k)))) (rfl) hin_11 hl_13 tyX11 tyX11_ok nmX11 rfl (by decide) rfl rfl rfl (Nat.le_of_ble_eq_true rfl) ?_
  refine g_iconst (pc9 := 14) C rfl ((-1)) dX11_wrong_13 rfl ?_
  exact g_ireturn C hr hlk dX11_wrong_14 ⟨rfl, rfl⟩
set_option maxRecDepth 100000 in
set_option maxHeartbeats 4000000 in
theorem m_X11_blanks (l : Launch) (w : Wd) (σ : St) (a L : Nat) (ha : nF σ 0 22 = nI a) (hL : a ≤ L) (hL4 : L ≤ 400) : MV l yX11_blanks wsX11_blanks (rmL 1) w [.ref (w.1 (0)), .int (nI (L))] (σ) (fun σ9 => ∃ b, a ≤ b ∧ b ≤ L ∧ (∀ u, a ≤ u → u < b → iA σ 1 u = nI 32) ∧ (b < L → ¬ iA σ 1 b = nI 32) ∧ σ9 = sN σ 0 22 (nI b)) := by
  refine MV_of (cc := cX11_blanks) (maxL := 2) (by decide) rfl (Nat.le_of_ble_eq_true rfl) ?_
  intro p e s m args below meth c A C hr hlk
  have C : Cx p s m args c w A cX11_blanks RX11 2 wsX11_blanks := C
  have hin_11 : ∀ u ∈ wsX110, u ∈ wsX11_blanks := by decide +kernel
  have hl_9 : Cond.fieldLink RX11 9 "LineageBenchModel" "tape" "[B" ∈ wsX11_blanks := by decide +kernel
  have hl_141 : Cond.fieldLink RX11 141 "LineageBenchModel" "at" "I" ∈ wsX11_blanks := by decide +kernel
  refine g_st (σ9 := sN σ 0 22 (nI a)) (sN_self ha).symm ?_
  refine g_lp1 (α := Nat) (fun b => a ≤ b ∧ b ≤ L ∧ ∀ u, a ≤ u → u < b → iA σ 1 u = nI 32) (fun b => L - b) (fun b => G p l e _ s m args below meth c _ w A _ (sN σ (0) 22 (nI (b))) 0 0 0 [(0, .ref (w.1 (0))), (1, .int (nI (L)))] []) (fun b hI ih => ?_) (a) ⟨Nat.le_refl _, hL, fun u h1 h2 => absurd h2 (by omega)⟩
  obtain ⟨hb1, hb2, hb3⟩ := hI
  refine g_aload_n (pc9 := 1) C rfl 0 dX11_blanks_0 rfl rfl ?_
  refine g_get (v := .int (nI (b))) (pc9 := 4) C rfl (0) 22 dX11_blanks_1 (by decide) (ce_0 w (sN σ (0) 22 (nI (b)))) hin_11 hl_141 rfl (by decide) rfl (congrArg (fun z => some (Value.int z)) (nF_s)) ?_
  refine g_iload_n (pc9 := 5) C rfl 1 dX11_blanks_4 rfl rfl ?_
  refine g_icmp_ge (pc9 := 8) C rfl 35 dX11_blanks_5 rfl (fun c_1 => ?_) (fun c_1 => ?_)
  · replace c_1 := (nI_leI (by omega) (by omega)).mp c_1
    have hne : b < L → ¬ iA σ 1 b = nI 32 := fun h => absurd h (by omega)
    exact g_return C hr hlk dX11_blanks_35 ⟨b, hb1, hb2, hb3, by first | exact hne | exact fun _ => hne, rfl⟩
  · replace c_1 := (not_congr (nI_leI (by omega) (by omega))).mp c_1
    refine g_aload_n (pc9 := 9) C rfl 0 dX11_blanks_8 rfl rfl ?_
    refine g_get (v := .ref (w.1 (1))) (pc9 := 12) C rfl (0) 1 dX11_blanks_9 (by decide) (ce_0 w (sN σ (0) 22 (nI (b)))) hin_11 hl_9 rfl (by decide) rfl rfl ?_
    refine g_aload_n (pc9 := 13) C rfl 0 dX11_blanks_12 rfl rfl ?_
    refine g_get (v := .int (nI (b))) (pc9 := 16) C rfl (0) 22 dX11_blanks_13 (by decide) (ce_0 w (sN σ (0) 22 (nI (b)))) hin_11 hl_141 rfl (by decide) rfl (congrArg (fun z => some (Value.int z)) (nF_s)) ?_
    refine g_bald (x := (iA σ (1)) (b)) (pc9 := 17) C rfl (1) (b) dX11_blanks_16 (by decide) (ce_1 w (sN σ (0) 22 (nI (b)))) rfl (by omega) (by decide) (congrFun (iA_N) _) ?_
    refine g_bipush (pc9 := 19) C rfl (nI (32)) dX11_blanks_17 rfl ?_
    refine g_icmp_ne (pc9 := 22) C rfl 35 dX11_blanks_19 rfl (fun c_2 => ?_) (fun c_2 => ?_)
    · have hne : ¬ iA σ 1 b = nI 32 := c_2
      exact g_return C hr hlk dX11_blanks_35 ⟨b, hb1, hb2, hb3, by first | exact hne | exact fun _ => hne, rfl⟩
    · have heq : iA σ 1 b = nI 32 := c_2
      refine g_aload_n (pc9 := 23) C rfl 0 dX11_blanks_22 rfl rfl ?_
      refine g_dup (pc9 := 24) C rfl dX11_blanks_23 rfl ?_
      refine g_get (v := .int (nI (b))) (pc9 := 27) C rfl (0) 22 dX11_blanks_24 (by decide) (ce_0 w (sN σ (0) 22 (nI (b)))) hin_11 hl_141 rfl (by decide) rfl (congrArg (fun z => some (Value.int z)) (nF_s)) ?_
      refine g_iconst (pc9 := 28) C rfl (nI (1)) dX11_blanks_27 rfl ?_
      refine g_iaddN (pc9 := 29) C rfl dX11_blanks_28 ?_
      refine g_put (pc9 := 32) C rfl (0) 22 dX11_blanks_29 (by decide) (ce_0 w (sN σ (0) 22 (nI (b)))) (rfl) hin_11 hl_141 tyX11 tyX11_ok nmX11 rfl (by decide) rfl rfl rfl (Nat.le_of_ble_eq_true rfl) ?_
      rw [sN_sN]
      refine g_goto C 0 dX11_blanks_32 rfl ?_
      exact ih (b + 1) ⟨by omega, by omega, fun u h1 h2 => by by_cases e : u = b; (rw [e]; exact heq); exact hb3 u h1 (by omega)⟩ (by omega)

/-! The least cluster around a set; who is nearer -/
theorem Ks_m1 {x : Int32} (h : Ks x) : ¬ x = -1 := by
  obtain ⟨n, hn, rfl⟩ := Ks_n h
  exact nI_m1 (by omega)
theorem Ks_pos {x : Int32} (h : Ks x) : ¬ x < 0 := by
  obtain ⟨n, hn, rfl⟩ := Ks_n h
  exact nI_pos (by omega)
/-- the least of M around x -/
def isL (M : Int32 → Prop) (x y : Int32) : Prop := M y ∧ Sb x y ∧ ∀ z, M z → Sb x z → Sb y z
theorem isL_u {M : Int32 → Prop} {x y z : Int32} (h1 : isL M x y) (h2 : isL M x z) : y = z := sb_eq (h1.2.2 z h2.1 h2.2.1) (h2.2.2 y h1.1 h1.2.1)
def lcR (f : Nat → Int32) (x : Int32) (v : Nat) (r : Int32) : Prop := (r = -1 ∧ ∀ u, u < v → ¬ Sb x (f u)) ∨ ∃ u, u < v ∧ r = f u ∧ Sb x (f u) ∧ ∀ w, w < v → Sb x (f w) → ¬ pcn (f w) < pcn (f u)
theorem lcR_s {f : Nat → Int32} {x : Int32} {v : Nat} {r : Int32} (hK : ∀ u, u < v + 1 → Ks (f u)) (h : lcR f x v r) (P : Prop) [Decidable P] (hP : P ↔ Sb x (f v) ∧ (r = -1 ∨ bC (f v) < bC r)) : lcR f x (v + 1) (if P then f v else r) := by
  by_cases q : P
  · rw [if_pos q]
    have q2 := hP.mp q
    refine Or.inr ⟨v, by omega, rfl, q2.1, fun w hw hs => ?_⟩
    by_cases e : w = v
    · rw [e]; omega
    · rcases h with ⟨_, h2⟩ | ⟨u, hu, e2, hs2, hm⟩
      · exact absurd hs (h2 w (by omega))
      · have h3 := hm w (by omega) hs
        rcases q2.2 with z | z
        · rw [e2] at z; exact absurd z (Ks_m1 (hK u (by omega)))
        · rw [e2, bC_lt (hK v (by omega)) (hK u (by omega))] at z
          omega
  · rw [if_neg q]
    rcases h with ⟨e, h2⟩ | ⟨u, hu, e2, hs2, hm⟩
    · refine Or.inl ⟨e, fun u hu hs => ?_⟩
      by_cases z : u = v
      · rw [z] at hs; exact q (hP.mpr ⟨hs, Or.inl e⟩)
      · exact h2 u (by omega) hs
    · refine Or.inr ⟨u, by omega, e2, hs2, fun w hw hs => ?_⟩
      by_cases z : w = v
      · rw [z] at hs ⊢
        intro hlt
        refine q (hP.mpr ⟨hs, Or.inr ?_⟩)
        rw [e2, bC_lt (hK v (by omega)) (hK u (by omega))]
        exact hlt
      · exact hm w (by omega) hs
theorem lca_R {f : Nat → Int32} {x : Int32} : ∀ v, (∀ u, u < v → Ks (f u)) → lcR f x v (lcaU f x v)
  | 0, _ => Or.inl ⟨rfl, fun u hu => absurd hu (by omega)⟩
  | v + 1, hK => lcR_s hK (lca_R v (fun u hu => hK u (by omega))) _ (and_congr sb_and Iff.rfl)
theorem mlc_R {f : Nat → Int32} {x : Int32} : ∀ v, (∀ u, u < v → Ks (f u)) → lcR f x v (mlc f x v)
  | 0, _ => Or.inl ⟨rfl, fun u hu => absurd hu (by omega)⟩
  | v + 1, hK => by
    have ih := mlc_R (x := x) v (fun u hu => hK u (by omega))
    refine lcR_s hK ih _ (and_congr sb_not (or_congr ?_ Iff.rfl))
    rcases ih with ⟨e, _⟩ | ⟨u, hu, e, _⟩
    · rw [e]; exact ⟨fun _ => rfl, fun _ => by decide⟩
    · rw [e]
      exact ⟨fun z => absurd z (Ks_pos (hK u (by omega))), fun z => absurd z (Ks_m1 (hK u (by omega)))⟩
theorem lcR_L {f : Nat → Int32} {n : Nat} {M : Int32 → Prop} {r : Int32} {x y : Int32} (hG : GM M r) (hM : MemIs f n M) (hx : ¬ x = 0) (h : lcR f x n y) : (y = -1 ∧ ∀ z, M z → ¬ Sb x z) ∨ isL M x y := by
  have hK : ∀ z, M z → Ks z := fun z hz k hk => hG.2.1 k ((hG.2.2.1 z hz).1 k hk)
  rcases h with ⟨e, h2⟩ | ⟨u, hu, e, hs, hm⟩
  · refine Or.inl ⟨e, fun z hz hsz => ?_⟩
    obtain ⟨v, hv, rfl⟩ := (hM z).mp hz
    exact h2 v hv hsz
  · right
    have hMu : M (f u) := (hM _).mpr ⟨u, hu, rfl⟩
    rw [e]
    refine ⟨hMu, hs, fun z hz hsz => ?_⟩
    obtain ⟨v, hv, rfl⟩ := (hM z).mp hz
    have h3 := hm v hv hsz
    rcases hG.2.2.2.1 (f u) (f v) hMu hz with q | q | q
    · exact q
    · have := pc_mono q
      have : f v = f u := pc_eq (hK _ hMu) q (by omega)
      rw [this]; exact fun k hk => hk
    · obtain ⟨k, _, hk⟩ := In_ne hx
      exact absurd (hsz k hk) (q k (hs k hk))
theorem lc_eq {f g : Nat → Int32} {n m : Nat} {M : Int32 → Prop} {r : Int32} {x : Int32} (hG : GM M r) (hM : MemIs f n M) (hM2 : MemIs g m M) (hx : ¬ x = 0) : lcaU f x n = mlc g x m := by
  have hK : ∀ z, M z → Ks z := fun z hz k hk => hG.2.1 k ((hG.2.2.1 z hz).1 k hk)
  have h1 := lcR_L hG hM hx (lca_R (f := f) (x := x) n (fun u hu => hK _ ((hM _).mpr ⟨u, hu, rfl⟩)))
  have h2 := lcR_L hG hM2 hx (mlc_R (f := g) (x := x) m (fun u hu => hK _ ((hM2 _).mpr ⟨u, hu, rfl⟩)))
  rcases h1 with ⟨e1, a1⟩ | a1 <;> rcases h2 with ⟨e2, a2⟩ | a2
  · rw [e1, e2]
  · exact absurd a2.2.1 (a1 _ a2.1)
  · exact absurd a1.2.1 (a2 _ a1.1)
  · exact isL_u a1 a2
theorem sh12 : ∀ s : Fin 12, (nI s.val &&& 31) = nI s.val := by decide +kernel
theorem bt_in {x : Int32} {s : Nat} (h : s < 12) : (x >>> (nI s &&& 31)) &&& nI 1 = 0 ↔ ¬ In s x := by
  rw [sh12 ⟨s, h⟩]
  have e1 : (x >>> nI s).toBitVec = x.toBitVec.sshiftRight s := by
    have e2 : ∀ s : Fin 12, ((nI s.val).toBitVec.smod 32).toNat = s.val := by decide +kernel
    show x.toBitVec.sshiftRight' ((nI s).toBitVec.smod 32) = _
    rw [BitVec.sshiftRight', e2 ⟨s, h⟩]
  have e3 : (x >>> nI s).toBitVec.getLsbD 0 = x.toBitVec.getLsbD s := by
    rw [e1, BitVec.getLsbD_sshiftRight]
    simp
    omega
  unfold In
  rw [← e3]
  constructor
  · intro hz hb
    have : In 0 ((x >>> nI s) &&& nI 1) := In_and.mpr ⟨hb, by unfold In; decide⟩
    rw [hz] at this
    exact In_0 this
  · intro hb
    refine In_ext (fun k _ => ⟨fun q => ?_, fun q => absurd q In_0⟩)
    rw [In_and] at q
    have hk : k = 0 := by
      have := q.2
      unfold In at this
      rw [show (nI 1).toBitVec = 1#32 from rfl, BitVec.getLsbD_one] at this
      simp at this
      exact this
    rw [hk] at q
    exact absurd q.1 hb
/-- M tells a and b from d -/
def tells (M : Int32 → Prop) (a b d : Nat) : Prop := ∃ z, M z ∧ In a z ∧ In b z ∧ ¬ In d z
section who
variable {f : Nat → Int32} {n : Nat} {M : Int32 → Prop} {r : Int32}
theorem in3 {a b d k : Nat} (ha : a < 12) (hb : b < 12) (hd : d < 12) : In k (al3 a b d) ↔ k = a ∨ k = b ∨ k = d := by
  rw [In_or, In_or, In_bit ha, In_bit hb, In_bit hd, or_assoc]
theorem in2 {a b k : Nat} (ha : a < 12) (hb : b < 12) : In k (bitI a ||| bitI b) ↔ k = a ∨ k = b := by
  rw [In_or, In_bit ha, In_bit hb]
theorem cut3 {a b d : Nat} (ha : a < 12) (hb : b < 12) (hd : d < 12) (h1 : ¬ a = d) (h2 : ¬ b = d) {z : Int32} : z &&& al3 a b d = bitI a ||| bitI b ↔ In a z ∧ In b z ∧ ¬ In d z := by
  constructor
  · intro h
    have key : ∀ k, In k (z &&& al3 a b d) ↔ In k (bitI a ||| bitI b) := fun k => by rw [h]
    have ka := (key a).mpr ((in2 ha hb).mpr (Or.inl rfl))
    have kb := (key b).mpr ((in2 ha hb).mpr (Or.inr rfl))
    refine ⟨(In_and.mp ka).1, (In_and.mp kb).1, fun hz => ?_⟩
    have := (key d).mp (In_and.mpr ⟨hz, (in3 ha hb hd).mpr (Or.inr (Or.inr rfl))⟩)
    rw [in2 ha hb] at this
    omega
  · rintro ⟨k1, k2, k3⟩
    refine In_ext (fun k _ => ?_)
    rw [In_and, in3 ha hb hd, in2 ha hb]
    constructor
    · rintro ⟨hz, e | e | e⟩
      · exact Or.inl e
      · exact Or.inr e
      · rw [e] at hz; exact absurd hz k3
    · rintro (e | e)
      · rw [e]; exact ⟨k1, Or.inl rfl⟩
      · rw [e]; exact ⟨k2, Or.inr (Or.inl rfl)⟩
/-- the reference's way to tell -/
theorem ms_tells {a b d : Nat} (ha : a < 12) (hb : b < 12) (hd : d < 12) (hG : GM M r) (hM : MemIs f n M) (har : In a r) (hbr : In b r) : (mlc f (bitI a ||| bitI b) n >>> (nI d &&& 31)) &&& nI 1 = 0 ↔ tells M a b d := by
  have hK : ∀ z, M z → Ks z := fun z hz k hk => hG.2.1 k ((hG.2.2.1 z hz).1 k hk)
  have hx : ¬ bitI a ||| bitI b = 0 := fun e => by
    have : In a (bitI a ||| bitI b) := (in2 ha hb).mpr (Or.inl rfl)
    rw [e] at this; exact In_0 this
  rw [bt_in hd]
  rcases lcR_L hG hM hx (mlc_R (f := f) (x := bitI a ||| bitI b) n (fun u hu => hK _ ((hM _).mpr ⟨u, hu, rfl⟩))) with ⟨_, h2⟩ | h2
  · exfalso
    exact h2 r hG.1 (fun k hk => by rcases (in2 ha hb).mp hk with e | e <;> rw [e] <;> assumption)
  · constructor
    · intro h
      exact ⟨_, h2.1, h2.2.1 a ((in2 ha hb).mpr (Or.inl rfl)), h2.2.1 b ((in2 ha hb).mpr (Or.inr rfl)), h⟩
    · rintro ⟨z, hz, k1, k2, k3⟩ h
      exact k3 (h2.2.2 z hz (fun k hk => by rcases (in2 ha hb).mp hk with e | e <;> rw [e] <;> assumption) d h)
theorem tells_x {a b d : Nat} (hG : GM M r) (h1 : tells M a b d) (h2 : tells M a d b) : False := by
  obtain ⟨x, hx, x1, x2, x3⟩ := h1
  obtain ⟨y, hy, y1, y2, y3⟩ := h2
  rcases hG.2.2.2.1 x y hx hy with q | q | q
  · exact y3 (q _ x2)
  · exact x3 (q _ y2)
  · exact q _ x1 y1
theorem tells_c {a b d : Nat} (h : tells M a b d) : tells M b a d := by
  obtain ⟨x, hx, x1, x2, x3⟩ := h
  exact ⟨x, hx, x2, x1, x3⟩
theorem wn_sp {a b d : Nat} (ha : a < 12) (hb : b < 12) (hd : d < 12) (hab : ¬ a = b) (had : ¬ a = d) (hbd : ¬ b = d) : ∀ k v, wnU f (bitI a) (bitI b) (bitI d) k v = nI 3 ∧ (∀ u, v ≤ u → u < v + k → ¬ (In a (f u) ∧ In b (f u) ∧ ¬ In d (f u)) ∧ ¬ (In a (f u) ∧ In d (f u) ∧ ¬ In b (f u)) ∧ ¬ (In b (f u) ∧ In d (f u) ∧ ¬ In a (f u))) ∨ ∃ u, v ≤ u ∧ u < v + k ∧ ((wnU f (bitI a) (bitI b) (bitI d) k v = nI 0 ∧ In a (f u) ∧ In b (f u) ∧ ¬ In d (f u)) ∨ (wnU f (bitI a) (bitI b) (bitI d) k v = nI 1 ∧ In a (f u) ∧ In d (f u) ∧ ¬ In b (f u)) ∨ (wnU f (bitI a) (bitI b) (bitI d) k v = nI 2 ∧ In b (f u) ∧ In d (f u) ∧ ¬ In a (f u)))
  | 0, v => Or.inl ⟨rfl, fun u h1 h2 => absurd h1 (by omega)⟩
  | k + 1, v => by
    have c1 : f v &&& ((bitI a ||| bitI b) ||| bitI d) = bitI a ||| bitI b ↔ In a (f v) ∧ In b (f v) ∧ ¬ In d (f v) := cut3 ha hb hd had hbd
    have e2 : (bitI a ||| bitI b) ||| bitI d = al3 a d b := by
      refine In_ext (fun k _ => ?_)
      rw [in3 ha hd hb, show In k ((bitI a ||| bitI b) ||| bitI d) ↔ _ from in3 ha hb hd]; omega
    have e3 : (bitI a ||| bitI b) ||| bitI d = al3 b d a := by
      refine In_ext (fun k _ => ?_)
      rw [in3 hb hd ha, show In k ((bitI a ||| bitI b) ||| bitI d) ↔ _ from in3 ha hb hd]; omega
    have c2 : f v &&& ((bitI a ||| bitI b) ||| bitI d) = bitI a ||| bitI d ↔ In a (f v) ∧ In d (f v) ∧ ¬ In b (f v) := by rw [e2]; exact cut3 ha hd hb hab (fun e => hbd e.symm)
    have c3 : f v &&& ((bitI a ||| bitI b) ||| bitI d) = bitI b ||| bitI d ↔ In b (f v) ∧ In d (f v) ∧ ¬ In a (f v) := by rw [e3]; exact cut3 hb hd ha (fun e => hab e.symm) (fun e => had e.symm)
    by_cases q1 : f v &&& ((bitI a ||| bitI b) ||| bitI d) = bitI a ||| bitI b
    · exact Or.inr ⟨v, Nat.le_refl _, by omega, Or.inl ⟨if_pos q1, c1.mp q1⟩⟩
    · by_cases q2 : f v &&& ((bitI a ||| bitI b) ||| bitI d) = bitI a ||| bitI d
      · exact Or.inr ⟨v, Nat.le_refl _, by omega, Or.inr (Or.inl ⟨(if_neg q1).trans (if_pos q2), c2.mp q2⟩)⟩
      · by_cases q3 : f v &&& ((bitI a ||| bitI b) ||| bitI d) = bitI b ||| bitI d
        · exact Or.inr ⟨v, Nat.le_refl _, by omega, Or.inr (Or.inr ⟨(if_neg q1).trans ((if_neg q2).trans (if_pos q3)), c3.mp q3⟩)⟩
        · have e : wnU f (bitI a) (bitI b) (bitI d) (k + 1) v = wnU f (bitI a) (bitI b) (bitI d) k (v + 1) := (if_neg q1).trans ((if_neg q2).trans (if_neg q3))
          rw [e]
          rcases wn_sp ha hb hd hab had hbd k (v + 1) with ⟨z, h⟩ | ⟨u, h1, h2, h3⟩
          · refine Or.inl ⟨z, fun u hu1 hu2 => ?_⟩
            by_cases y : u = v
            · rw [y]; exact ⟨fun t => q1 (c1.mpr t), fun t => q2 (c2.mpr t), fun t => q3 (c3.mpr t)⟩
            · exact h u (by omega) (by omega)
          · exact Or.inr ⟨u, by omega, by omega, h3⟩
theorem wn_ms {a b d : Nat} (ha : a < 12) (hb : b < 12) (hd : d < 12) (hab : ¬ a = b) (had : ¬ a = d) (hbd : ¬ b = d) (hG : GM M r) (hM : MemIs f n M) : wnU f (bitI a) (bitI b) (bitI d) n 0 = cI (tells M a b d) (nI 0) (cI (tells M a d b) (nI 1) (cI (tells M b d a) (nI 2) (nI 3))) := by
  have hMu : ∀ u, u < n → M (f u) := fun u hu => (hM _).mpr ⟨u, hu, rfl⟩
  rcases wn_sp (f := f) ha hb hd hab had hbd n 0 with ⟨e, h⟩ | ⟨u, h1, h2, h3⟩
  · have hno : ∀ x y z, (∀ u, u < n → ¬ (In x (f u) ∧ In y (f u) ∧ ¬ In z (f u))) → ¬ tells M x y z := by
      rintro x y z hx ⟨w, hw, w1, w2, w3⟩
      obtain ⟨u, hu, rfl⟩ := (hM w).mp hw
      exact hx u hu ⟨w1, w2, w3⟩
    rw [e, cI_f (hno a b d (fun u hu => (h u (by omega) (by omega)).1)), cI_f (hno a d b (fun u hu => (h u (by omega) (by omega)).2.1)), cI_f (hno b d a (fun u hu => (h u (by omega) (by omega)).2.2))]
  · have hu := hMu u (by omega)
    rcases h3 with ⟨e, h3⟩ | ⟨e, h3⟩ | ⟨e, h3⟩
    · have t : tells M a b d := ⟨_, hu, h3⟩
      rw [e, cI_t t]
    · have t : tells M a d b := ⟨_, hu, h3⟩
      rw [e, cI_f (fun z => tells_x hG z t), cI_t t]
    · have t : tells M b d a := ⟨_, hu, h3⟩
      rw [e, cI_f (fun z => tells_x hG (tells_c z) t), cI_f (fun z => tells_x hG (tells_c z) (tells_c t)), cI_t t]
end who

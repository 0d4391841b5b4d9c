/-! Families: their members, and the trees that grow of them -/
theorem ins_sp {x : Int32} : ∀ (z : Nat) (f : Nat → Int32), ∃ j, j ≤ z ∧ (∀ v, v < j → insF x z f v = f v) ∧ insF x z f j = x ∧ (∀ v, j < v → v ≤ z → insF x z f v = f (v - 1)) ∧ (∀ v, z < v → insF x z f v = f v) ∧ (∀ v, j ≤ v → v < z → bC (f v) < bC x) ∧ (0 < j → ¬ bC (f (j - 1)) < bC x)
  | 0, f => ⟨0, Nat.le_refl _, fun v h => absurd h (by omega), pk_us, fun v h1 h2 => absurd h1 (by omega), fun v h => pk_un (by omega), fun v h1 h2 => absurd h2 (by omega), fun h => absurd h (by omega)⟩
  | z + 1, f => by
    by_cases hb : bC (f z) < bC x
    · have e : insF x (z + 1) f = insF x z (upd f (z + 1) (f z)) := if_pos hb
      obtain ⟨j, h1, h2, h3, h4, h5, h6, h7⟩ := ins_sp (x := x) z (upd f (z + 1) (f z))
      refine ⟨j, by omega, fun v hv => ?_, ?_, fun v hv1 hv2 => ?_, fun v hv => ?_, fun v hv1 hv2 => ?_, fun hj => ?_⟩
      · rw [e, h2 v hv, pk_un (by omega)]
      · rw [e, h3]
      · rw [e]
        by_cases q : v = z + 1
        · rw [q, h5 (z + 1) (by omega), pk_us]; rfl
        · rw [h4 v hv1 (by omega), pk_un (by omega)]
      · rw [e, h5 v (by omega), pk_un (by omega)]
      · by_cases q : v = z
        · rw [q]; exact hb
        · have := h6 v hv1 (by omega)
          rwa [pk_un (by omega)] at this
      · have := h7 hj
        rwa [pk_un (by omega)] at this
    · have e : insF x (z + 1) f = upd f (z + 1) x := if_neg hb
      refine ⟨z + 1, Nat.le_refl _, fun v hv => ?_, ?_, fun v hv1 hv2 => absurd hv1 (by omega), fun v hv => ?_, fun v hv1 hv2 => absurd hv1 (by omega), fun _ => ?_⟩
      · rw [e, pk_un (by omega)]
      · rw [e, pk_us]
      · rw [e, pk_un (by omega)]
      · exact hb
abbrev AllK (g : Nat → Int32) (n : Nat) : Prop := ∀ v, v < n → Ks (g v) ∧ ¬ g v = 0
abbrev Srtd (g : Nat → Int32) (n : Nat) : Prop := ∀ u v, u < v → v < n → pcn (g v) ≤ pcn (g u)
abbrev Dst (g : Nat → Int32) (n : Nat) : Prop := ∀ u v, u < n → v < n → g u = g v → u = v
abbrev Mem (g : Nat → Int32) (n : Nat) (x : Int32) : Prop := ∃ v, v < n ∧ g v = x
theorem ins_mem {x : Int32} {z : Nat} {f : Nat → Int32} {y : Int32} : Mem (insF x z f) (z + 1) y ↔ Mem f z y ∨ y = x := by
  obtain ⟨j, h1, h2, h3, h4, h5, h6, h7⟩ := ins_sp (x := x) z f
  constructor
  · rintro ⟨v, hv, rfl⟩
    rcases Nat.lt_trichotomy v j with q | q | q
    · exact Or.inl ⟨v, by omega, (h2 v q).symm⟩
    · exact Or.inr (by rw [q, h3])
    · exact Or.inl ⟨v - 1, by omega, (h4 v q (by omega)).symm⟩
  · rintro (⟨v, hv, rfl⟩ | rfl)
    · by_cases q : v < j
      · exact ⟨v, by omega, h2 v q⟩
      · exact ⟨v + 1, by omega, by rw [h4 (v + 1) (by omega) (by omega)]; rfl⟩
    · exact ⟨j, by omega, h3⟩
theorem ins_k {x : Int32} {z : Nat} {f : Nat → Int32} (hf : AllK f z) (hx : Ks x) (h0 : ¬ x = 0) : AllK (insF x z f) (z + 1) := by
  intro v hv
  rcases (ins_mem (x := x) (z := z) (f := f) (y := insF x z f v)).mp ⟨v, hv, rfl⟩ with ⟨u, hu, e⟩ | e
  · rw [← e]; exact hf u hu
  · rw [e]; exact ⟨hx, h0⟩
theorem ins_d {x : Int32} {z : Nat} {f : Nat → Int32} (hd : Dst f z) (hn : ¬ Mem f z x) : Dst (insF x z f) (z + 1) := by
  obtain ⟨j, h1, h2, h3, h4, h5, h6, h7⟩ := ins_sp (x := x) z f
  have key : ∀ u v, u < v → v < z + 1 → insF x z f u ≠ insF x z f v := by
    intro u v huv hv e
    rcases Nat.lt_trichotomy u j with q1 | q1 | q1
    · rw [h2 u q1] at e
      rcases Nat.lt_trichotomy v j with q2 | q2 | q2
      · rw [h2 v q2] at e
        have := hd u v (by omega) (by omega) e; omega
      · rw [q2, h3] at e
        exact hn ⟨u, by omega, e⟩
      · rw [h4 v q2 (by omega)] at e
        have := hd u (v - 1) (by omega) (by omega) e; omega
    · rw [q1, h3, h4 v (by omega) (by omega)] at e
      exact hn ⟨v - 1, by omega, e.symm⟩
    · rw [h4 u q1 (by omega), h4 v (by omega) (by omega)] at e
      have := hd (u - 1) (v - 1) (by omega) (by omega) e; omega
  intro u v hu hv e
  rcases Nat.lt_trichotomy u v with q | q | q
  · exact absurd e (key u v q hv)
  · exact q
  · exact absurd e.symm (key v u q hu)
theorem ins_s {x : Int32} {z : Nat} {f : Nat → Int32} (hf : AllK f z) (hx : Ks x) (hs : Srtd f z) : Srtd (insF x z f) (z + 1) := by
  obtain ⟨j, h1, h2, h3, h4, h5, h6, h7⟩ := ins_sp (x := x) z f
  have hlo : ∀ v, v < j → pcn x ≤ pcn (f v) := by
    intro v hv
    have h8 := h7 (by omega)
    rw [bC_lt (hf (j - 1) (by omega)).1 hx] at h8
    by_cases e : v = j - 1
    · rw [e]; omega
    · have := hs v (j - 1) (by omega) (by omega)
      omega
  have hhi : ∀ v, j ≤ v → v < z → pcn (f v) ≤ pcn x := by
    intro v hv hz
    have := h6 v hv hz
    rw [bC_lt (hf v hz).1 hx] at this
    omega
  intro u v huv hv
  rcases Nat.lt_trichotomy u j with q1 | q1 | q1
  · rw [h2 u q1]
    rcases Nat.lt_trichotomy v j with q2 | q2 | q2
    · rw [h2 v q2]; exact hs u v huv (by omega)
    · rw [q2, h3]; exact hlo u q1
    · rw [h4 v q2 (by omega)]; exact hs u (v - 1) (by omega) (by omega)
  · rw [q1, h3, h4 v (by omega) (by omega)]
    exact hhi (v - 1) (by omega) (by omega)
  · rw [h4 u q1 (by omega), h4 v (by omega) (by omega)]
    exact hs (u - 1) (v - 1) (by omega) (by omega)
/-- a list of sets, the larger ones first, each once -/
def SL (g : Nat → Int32) (n : Nat) : Prop := AllK g n ∧ Srtd g n ∧ Dst g n
theorem SL_0 (g : Nat → Int32) : SL g 0 := ⟨fun v h => absurd h (by omega), fun u v _ h => absurd h (by omega), fun u v h => absurd h (by omega)⟩
theorem SL_ins {x : Int32} {z : Nat} {f : Nat → Int32} (h : SL f z) (hx : Ks x) (h0 : ¬ x = 0) (hn : ¬ Mem f z x) : SL (insF x z f) (z + 1) := ⟨ins_k h.1 hx h0, ins_s h.1 hx h.2.1, ins_d h.2.2 hn⟩
/-- the class's family -/
theorem addF_o {F : Fam} {x : Int32} (h : famOld F.1 F.2 x) : addF F x = F := by
  unfold addF famZ famF
  rw [cI_t h, cI_t h]
theorem addF_n {F : Fam} {x : Int32} (h : ¬ famOld F.1 F.2 x) : addF F x = (F.1 + 1, insF x F.1 F.2) := by
  unfold addF famZ famF
  rw [cI_f h, cI_f h]
theorem SL_addF {F : Fam} {x : Int32} (h : SL F.2 F.1) (hx : Ks x) : SL (addF F x).2 (addF F x).1 := by
  by_cases q : famOld F.1 F.2 x
  · rw [addF_o q]; exact h
  · rw [addF_n q]
    exact SL_ins h hx (fun e => q (Or.inl e)) (fun e => q (Or.inr (Or.inr e)))
theorem mem_addF {F : Fam} {x y : Int32} (h : F.1 < 47) : Mem (addF F x).2 (addF F x).1 y ↔ Mem F.2 F.1 y ∨ (y = x ∧ ¬ x = 0) := by
  by_cases q : famOld F.1 F.2 x
  · rw [addF_o q]
    refine ⟨Or.inl, fun e => e.elim id (fun e => ?_)⟩
    rcases q with q | q | q
    · exact absurd q e.2
    · omega
    · rw [e.1]; exact q
  · rw [addF_n q]
    refine ins_mem.trans ⟨fun e => e.elim Or.inl (fun e => Or.inr ⟨e, fun z => q (Or.inl z)⟩), fun e => e.elim Or.inl (fun e => Or.inr e.1)⟩
/-- the reference's list of sets -/
def UL (g : Nat → Int32) (n : Nat) : Prop := AllK g n ∧ Dst g n
theorem UL_0 (g : Nat → Int32) : UL g 0 := ⟨fun v h => absurd h (by omega), fun u v h => absurd h (by omega)⟩
theorem mem_maA {F : Fam} {x y : Int32} : Mem (maA F x).2 (maA F x).1 y ↔ Mem F.2 F.1 y ∨ (y = x ∧ ¬ x = 0) := by
  unfold maA
  by_cases q : maOld F x
  · rw [cI_t q]
    refine ⟨Or.inl, fun e => e.elim id (fun e => ?_)⟩
    rcases q with q | q
    · exact absurd q e.2
    · rw [e.1]; exact q
  · rw [cI_f q]
    constructor
    · rintro ⟨v, hv, e⟩
      by_cases h : v = F.1
      · subst h
        exact Or.inr ⟨by rw [← e]; exact pk_us, fun z => q (Or.inl z)⟩
      · refine Or.inl ⟨v, by have : v < F.1 + 1 := hv; omega, ?_⟩
        rw [← e]
        exact (pk_un h).symm
    · rintro (⟨v, hv, e⟩ | ⟨e, _⟩)
      · exact ⟨v, Nat.lt_succ_of_lt hv, by rw [← e]; exact pk_un (by omega)⟩
      · exact ⟨F.1, Nat.lt_succ_self _, by rw [e]; exact pk_us⟩
theorem UL_maA {F : Fam} {x : Int32} (h : UL F.2 F.1) (hx : Ks x) : UL (maA F x).2 (maA F x).1 := by
  unfold maA
  by_cases q : maOld F x
  · rw [cI_t q]; exact h
  · rw [cI_f q]
    refine ⟨fun v hv => ?_, fun u v hu hv e => ?_⟩
    · show Ks (upd F.2 F.1 x v) ∧ ¬ upd F.2 F.1 x v = 0
      by_cases z : v = F.1
      · rw [z, pk_us]; exact ⟨hx, fun e => q (Or.inl e)⟩
      · rw [pk_un z]; exact h.1 v (by have : v < F.1 + 1 := hv; omega)
    · replace e : upd F.2 F.1 x u = upd F.2 F.1 x v := e
      replace hu : u < F.1 + 1 := hu
      replace hv : v < F.1 + 1 := hv
      by_cases z1 : u = F.1
      · by_cases z2 : v = F.1
        · omega
        · rw [z1, pk_us, pk_un z2] at e
          exact absurd (Or.inr ⟨v, by omega, e.symm⟩) q
      · by_cases z2 : v = F.1
        · rw [z2, pk_us, pk_un z1] at e
          exact absurd (Or.inr ⟨u, by omega, e⟩) q
        · rw [pk_un z1, pk_un z2] at e
          exact h.2 u v (by omega) (by omega) e
theorem srt_hi {f : Nat → Int32} : ∀ k v, k ≤ v → srt f k v = f v
  | 0, _, _ => rfl
  | k + 1, v, h => by
    obtain ⟨j, h1, h2, h3, h4, h5, h6, h7⟩ := ins_sp (x := srt f k k) k (srt f k)
    show insF (srt f k k) k (srt f k) v = f v
    rw [h5 v (by omega), srt_hi k v (by omega)]
theorem srt_mem {f : Nat → Int32} {y : Int32} : ∀ k, Mem (srt f k) k y ↔ Mem f k y
  | 0 => ⟨fun ⟨v, hv, _⟩ => absurd hv (by omega), fun ⟨v, hv, _⟩ => absurd hv (by omega)⟩
  | k + 1 => by
    show Mem (insF (srt f k k) k (srt f k)) (k + 1) y ↔ _
    rw [ins_mem, srt_mem k, srt_hi k k (Nat.le_refl _)]
    constructor
    · rintro (⟨v, hv, e⟩ | e)
      · exact ⟨v, by omega, e⟩
      · exact ⟨k, by omega, e.symm⟩
    · rintro ⟨v, hv, e⟩
      by_cases q : v = k
      · exact Or.inr (by rw [← e, q])
      · exact Or.inl ⟨v, by omega, e⟩
theorem srt_SL {f : Nat → Int32} : ∀ k, UL f k → SL (srt f k) k
  | 0, _ => SL_0 _
  | k + 1, h => by
    have ih := srt_SL k ⟨fun v hv => h.1 v (by omega), fun u v hu hv e => h.2 u v (by omega) (by omega) e⟩
    show SL (insF (srt f k k) k (srt f k)) (k + 1)
    rw [srt_hi k k (Nat.le_refl _)]
    refine SL_ins ih (h.1 k (by omega)).1 (h.1 k (by omega)).2 (fun q => ?_)
    obtain ⟨v, hv, e⟩ := (srt_mem k).mp q
    have := h.2 v k (by omega) (by omega) e
    omega
/-- sets that make a tree: within r, either one within the other or apart, each kind alone among them -/
def GM (M : Int32 → Prop) (r : Int32) : Prop := M r ∧ Ks r ∧ (∀ x, M x → Sb x r ∧ ¬ x = 0) ∧ (∀ x y, M x → M y → Sb x y ∨ Sb y x ∨ ∀ k, In k x → ¬ In k y) ∧ ∀ k, In k r → M (bitI k)
abbrev MemIs (g : Nat → Int32) (n : Nat) (M : Int32 → Prop) : Prop := ∀ x, M x ↔ Mem g n x
/-- u is the parent of i by sets -/
def PaM (M : Int32 → Prop) (x y : Int32) : Prop := M y ∧ Sb x y ∧ ¬ x = y ∧ ∀ z, M z → Sb x z → ¬ x = z → Sb y z
theorem PaM_u {M : Int32 → Prop} {x y z : Int32} (h1 : PaM M x y) (h2 : PaM M x z) : y = z := sb_eq (h1.2.2.2 z h2.1 h2.2.1 h2.2.2.1) (h2.2.2.2 y h1.1 h1.2.1 h1.2.2.1)
theorem ar_sp {g : Nat → Int32} {y : Int32} : ∀ k, (∃ u, u < k ∧ Sb y (g u)) → ∃ u, u < k ∧ around g y k = nI u ∧ Sb y (g u) ∧ ∀ v, u < v → v < k → ¬ Sb y (g v)
  | 0, h => by obtain ⟨u, hu, _⟩ := h; omega
  | k + 1, h => by
    by_cases q : g k &&& y = y
    · exact ⟨k, by omega, if_pos q, sb_and.mp q, fun v h1 h2 => absurd h1 (by omega)⟩
    · obtain ⟨u, hu, hs⟩ := h
      have hk : ¬ Sb y (g k) := fun z => q (sb_and.mpr z)
      obtain ⟨w, h1, h2, h3, h4⟩ := ar_sp (g := g) (y := y) k ⟨u, by
        rcases Nat.lt_or_ge u k with z | z
        · exact z
        · rw [show u = k by omega] at hs; exact absurd hs hk, hs⟩
      refine ⟨w, by omega, (if_neg q).trans h2, h3, fun v z1 z2 => ?_⟩
      by_cases e : v = k
      · rw [e]; exact hk
      · exact h4 v z1 (by omega)
theorem gm_root {M : Int32 → Prop} {r : Int32} {g : Nat → Int32} {n : Nat} (hG : GM M r) (hM : MemIs g n M) (hs : SL g n) : 0 < n ∧ g 0 = r := by
  obtain ⟨v, hv, e⟩ := (hM r).mp hG.1
  refine ⟨by omega, ?_⟩
  have h0 : M (g 0) := (hM _).mpr ⟨0, by omega, rfl⟩
  by_cases q : v = 0
  · rw [← e, q]
  · have h1 := hs.2.1 0 v (by omega) hv
    have h2 := (hG.2.2.1 _ h0).1
    rw [e] at h1
    exact pc_eq hG.2.1 h2 (Nat.le_antisymm (pc_mono h2) h1)
theorem gm_par {M : Int32 → Prop} {r : Int32} {g : Nat → Int32} {n : Nat} (hG : GM M r) (hM : MemIs g n M) (hs : SL g n) {i : Nat} (h0 : 0 < i) (hi : i < n) : ∃ u, u < i ∧ around g (g i) i = nI u ∧ PaM M (g i) (g u) := by
  obtain ⟨hn, hr⟩ := gm_root hG hM hs
  have hMi : ∀ j, j < n → M (g j) := fun j hj => (hM _).mpr ⟨j, hj, rfl⟩
  obtain ⟨u, h1, h2, h3, h4⟩ := ar_sp (g := g) (y := g i) i ⟨0, h0, by rw [hr]; exact (hG.2.2.1 _ (hMi i hi)).1⟩
  refine ⟨u, h1, h2, hMi u (by omega), h3, fun e => by have := hs.2.2 i u hi (by omega) e; omega, fun z hz hsz hne => ?_⟩
  obtain ⟨j, hj, rfl⟩ := (hM z).mp hz
  have hji : j < i := by
    rcases Nat.lt_trichotomy j i with q | q | q
    · exact q
    · exact absurd (by rw [q]) hne
    · have h5 := hs.2.1 i j q hj
      have h6 := pc_lt (hs.1 j hj).1 hsz hne
      omega
  have hju : j ≤ u := by
    rcases Nat.lt_or_ge u j with q | q
    · exact absurd hsz (h4 j q hji)
    · exact q
  rcases hG.2.2.2.1 (g u) (g j) (hMi u (by omega)) (hMi j hj) with q | q | q
  · exact q
  · by_cases e : j = u
    · rw [e]; exact fun k hk => hk
    · have h5 := hs.2.1 j u (by omega) (by omega)
      have h6 := pc_mono q
      have : g j = g u := pc_eq (hs.1 u (by omega)).1 q (by omega)
      rw [this]; exact fun k hk => hk
  · obtain ⟨k, _, hk⟩ := In_ne (hs.1 i hi).2
    exact absurd (hsz k hk) (q k (h3 k hk))

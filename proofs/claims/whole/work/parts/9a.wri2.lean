/-! The class's sorting of children -/
theorem isLk_c {g g9 : Nat → Int32} : ∀ (l : List Nat) (a : Int32), (∀ x, x ∈ l → g9 x = g x) → isLk g a l → isLk g9 a l
  | [], _, _, h => h
  | x :: xs, a, hc, h => ⟨h.1, h.2.1, by rw [hc x List.mem_cons_self]; exact isLk_c xs _ (fun y hy => hc y (List.mem_cons_of_mem _ hy)) h.2.2⟩
theorem len_47 {n : Nat} {l : List Nat} (hd : l.Nodup) (h : ∀ x, x ∈ l → x < n) : l.length ≤ n := by
  have := List.Nodup.length_le_of_subset (l₂ := List.range n) hd (fun x hx => List.mem_range.mpr (h x hx))
  rw [List.length_range] at this
  exact this
/-- inner nodes from v on -/
noncomputable abbrev inC (n : Nat) (K : Nat → Int32) (v : Nat) : Nat := cntU (fun u => v ≤ u ∧ K u = -1) n
theorem cnt_lt {p q : Nat → Prop} {v : Nat} : ∀ n, (∀ u, u < n → p u → q u) → v < n → q v → ¬ p v → cntU p n + 1 ≤ cntU q n
  | 0, _, h, _, _ => absurd h (by omega)
  | n + 1, hs, hv, hq, hp => by
    by_cases e : v = n
    · subst e
      rw [cntU_n hp, cntU_y hq]
      have := cnt_mono v (fun u hu => hs u (by omega))
      omega
    · have ih := cnt_lt n (fun u hu => hs u (by omega)) (by omega) hq hp
      by_cases h1 : p n
      · rw [cntU_y h1, cntU_y (hs n (by omega) h1)]; omega
      · rw [cntU_n h1]
        by_cases h2 : q n
        · rw [cntU_y h2]; omega
        · rw [cntU_n h2]; exact ih
theorem inC_lt {n : Nat} {K : Nat → Int32} {v x : Nat} (hv : v < n) (hk : K v = -1) (hx : v < x) : inC n K x + 1 ≤ inC n K v := cnt_lt n (fun u _ h => ⟨by omega, h.2⟩) hv ⟨Nat.le_refl _, hk⟩ (fun h => by omega)
theorem inC_0 {n : Nat} {P : Nat → Nat} {K : Nat → Int32} (hT : TV n P K) (h47 : n ≤ 47) (v : Nat) : inC n K v ≤ 23 := by
  have h1 : inC n K v ≤ cntU (fun u => K u = -1) n := cnt_mono n (fun u _ h => h.2)
  have h2 : cntU (fun u => K u = -1) n = sumU (fun v => oN (K v)) n := by
    rw [cnt_sm]
    refine sumU_c n (fun u _ => ?_)
    by_cases e : K u = -1
    · rw [cI_t e]; exact (if_pos e).symm
    · rw [cI_f e]; exact (if_neg e).symm
  have h3 := in_23 hT h47
  omega
/-- all nodes behind m are in their lists -/
def Stg (n : Nat) (P : Nat → Nat) (T : Nat → List Int32) (m : Nat) (f g : Nat → Int32) : Prop := ∀ w, w < n → ∃ l : List Nat, isLk g (f w) l ∧ (∀ x, x ∈ l ↔ m < x ∧ 0 < x ∧ x < n ∧ P x = w) ∧ l.Nodup ∧ l.Pairwise (fun a b => ¬ ltL (T b) (T a))
section stg
variable {n : Nat} {P : Nat → Nat} {K : Nat → Int32} {T : Nat → List Int32}
theorem k12 : ∀ p q : Fin 12, ((nI p.val - nI q.val = 0 ↔ p.val = q.val) ∧ (nI p.val - nI q.val < 0 ↔ p.val < q.val)) ∧ (¬ nI p.val - (-1) = 0 ∧ ¬ nI p.val - (-1) < 0) ∧ (¬ -1 - nI q.val = 0 ∧ -1 - nI q.val < 0) := by decide +kernel
/-- a leaf among the two -/
theorem cmp_leaf (h : txC n P K T) (hT : TV n P K) {v u : Nat} (hv : v < n) (hu : u < n) (hk : ¬ (K v = -1 ∧ K u = -1)) : sgn (K v - K u) (T v) (T u) := by
  have hc : ∀ v, v < n → ¬ K v = -1 → ∃ q, q < 12 ∧ K v = nI q ∧ T v = [nI (97 + q)] := fun v hv hk => by
    rcases h v hv with ⟨_, e⟩ | ⟨q, _⟩
    · rcases hT.2.2.1 v hv with z | ⟨q, hq, z⟩
      · exact absurd z hk
      · exact ⟨q, hq, z, by rw [e, z, nI_add]⟩
    · exact absurd q hk
  have h40 : ∀ v, v < n → K v = -1 → ∃ s, T v = nI 40 :: s := fun v hv hk => by
    rcases h v hv with ⟨q, _⟩ | ⟨_, os, h1, h2, h3, h4⟩
    · exact absurd hk q
    · have hne := tx_kid hT hv hk h1
      cases os with
      | nil => exact absurd rfl hne
      | cons x xs => exact ⟨_, by rw [h4, preT_W]⟩
  by_cases kv : K v = -1
  · by_cases ku : K u = -1
    · exact absurd ⟨kv, ku⟩ hk
    · obtain ⟨s, e⟩ := h40 v hv kv
      obtain ⟨q, hq, e1, e2⟩ := hc u hu ku
      have hd := (k12 ⟨0, by omega⟩ ⟨q, hq⟩).2.2
      rw [kv, e1, e, e2]
      refine ⟨⟨fun z => absurd z hd.1, fun z => ?_⟩, ⟨fun _ => Or.inl ?_, fun _ => hd.2⟩⟩
      · have := (nI_eq (by decide) (by omega)).mp (List.cons.inj z).1
        omega
      · exact nI_lt (by omega) (by omega)
  · obtain ⟨q, hq, e1, e2⟩ := hc v hv kv
    by_cases ku : K u = -1
    · obtain ⟨s, e⟩ := h40 u hu ku
      have hd := (k12 ⟨q, hq⟩ ⟨0, by omega⟩).2.1
      rw [ku, e1, e, e2]
      refine ⟨⟨fun z => absurd z hd.1, fun z => ?_⟩, ⟨fun z => absurd z hd.2, fun z => ?_⟩⟩
      · have := (nI_eq (by omega) (by decide)).mp (List.cons.inj z).1
        omega
      · rcases z with z | z
        · have := (nI_ltI (by omega) (by decide)).mp z
          omega
        · have := (nI_eq (by omega) (by decide)).mp z.1
          omega
    · obtain ⟨q9, hq9, e3, e4⟩ := hc u hu ku
      have hd := (k12 ⟨q, hq⟩ ⟨q9, hq9⟩).1
      rw [e1, e3, e2, e4]
      refine ⟨hd.1.trans ⟨fun z => by rw [show q = q9 from z], fun z => ?_⟩, hd.2.trans ⟨fun z => Or.inl (nI_lt (by have z : q < q9 := z; omega) (by omega)), fun z => ?_⟩⟩
      · have := (nI_eq (by omega) (by omega)).mp (List.cons.inj z).1
        show q = q9
        omega
      · show q < q9
        rcases z with z | z
        · have := (nI_ltI (by omega) (by omega)).mp z
          omega
        · exact absurd z.2 id
theorem cmpT_sp (h : txC n P K T) (hT : TV n P K) (h47 : n ≤ 47) {m : Nat} {f g : Nat → Int32} (hS : Stg n P T m f g) : ∀ d v u, v < n → u < n → m ≤ v → m ≤ u → inC n K v ≤ d → sgn (cmpT K f g d v u) (T v) (T u)
  | 0, v, u, hv, hu, _, _, hd => by
    have hk : ¬ (K v = -1 ∧ K u = -1) := fun z => by
      have : 0 < inC n K v := cnt_pos (q := fun u => v ≤ u ∧ K u = -1) n hv ⟨Nat.le_refl _, z.1⟩
      omega
    unfold cmpT
    rw [if_neg hk]
    exact cmp_leaf h hT hv hu hk
  | d + 1, v, u, hv, hu, hmv, hmu, hd => by
    unfold cmpT
    by_cases hk : K v = -1 ∧ K u = -1
    · rw [if_pos hk]
      obtain ⟨l, a1, a2, a3, a4⟩ := hS v hv
      obtain ⟨l9, b1, b2, b3, b4⟩ := hS u hu
      have full : ∀ w (l : List Nat), w < n → m ≤ w → (∀ x, x ∈ l ↔ m < x ∧ 0 < x ∧ x < n ∧ P x = w) → ∀ x, x ∈ l ↔ 0 < x ∧ x < n ∧ P x = w := fun w l hw hm hl x => (hl x).trans ⟨fun z => z.2, fun z => ⟨by have := (hT.2.1 x z.1 z.2.1).1; omega, z⟩⟩
      have fv := full v l hv hmv a2
      have fu := full u l9 hu hmu b2
      have hlen : l.length ≤ 47 := by
        have := len_47 (n := n) a3 (fun x hx => ((fv x).mp hx).2.1)
        omega
      have hc := cmpL_sp (rec := cmpT K f g d) (g := g) (T := T) l l9 47 (f v) (f u) a1 b1 hlen (fun x hx y hy => by
        have hx := (fv x).mp hx
        have hy := (fu y).mp hy
        have h1 := (hT.2.1 x hx.1 hx.2.1).1
        have h2 := (hT.2.1 y hy.1 hy.2.1).1
        have h3 := inC_lt (x := x) hv hk.1 (by omega)
        exact ⟨cmpT_sp h hT h47 hS d x y hx.2.1 hy.2.1 (by omega) (by omega) (by omega), tx_prt h hT x hx.2.1 y hy.2.1⟩)
      have hw := W_40 (T := T) (tx_kid hT hv hk.1 fv) (tx_kid hT hu hk.2 fu)
      rw [tx_list h hv hk.1 fv a3 a4, tx_list h hu hk.2 fu b3 b4]
      exact ⟨hc.1.trans hw.1, hc.2.trans hw.2.1⟩
    · rw [if_neg hk]
      exact cmp_leaf h hT hv hu hk
theorem insL_sp {cmp : Nat → Int32} {g : Nat → Int32} {s : List Int32} : ∀ (l : List Nat) (k : Nat) (a b : Int32), isLk g b l → l.length ≤ k → (∀ y, y ∈ l → (cmp y < 0 ↔ ltL (T y) s)) → ∃ l1 l2, l = l1 ++ l2 ∧ (∀ y, y ∈ l1 → ltL (T y) s) ∧ (∀ y ys, l2 = y :: ys → ¬ ltL (T y) s) ∧ isLk g (insL cmp g k a b).2 l2 ∧ ((l1 = [] ∧ (insL cmp g k a b).1 = a) ∨ ∃ l3 y, l1 = l3 ++ [y] ∧ (insL cmp g k a b).1 = nI y)
  | [], k, a, b, hb, _, _ => by
    have hb : b = -1 := hb
    have e : insL cmp g k a b = (a, b) := by
      cases k with
      | zero => rfl
      | succ k => unfold insL; rw [if_pos hb]
    rw [e]
    exact ⟨[], [], rfl, fun y hy => absurd hy List.not_mem_nil, fun y ys z => absurd z (by simp), hb, Or.inl ⟨rfl, rfl⟩⟩
  | x :: xs, 0, _, _, _, hk, _ => absurd hk (by simp)
  | x :: xs, k + 1, a, b, hb, hk, hc => by
    obtain ⟨rfl, hx, hb3⟩ := hb
    unfold insL
    rw [if_neg (nI_m1 (by omega)), nI_clamp (by omega)]
    by_cases e : cmp x < 0
    · rw [if_pos e]
      obtain ⟨l1, l2, q1, q2, q3, q4, q5⟩ := insL_sp xs k (nI x) (g x) hb3 (by simp at hk; omega) (fun y hy => hc y (List.mem_cons_of_mem _ hy))
      refine ⟨x :: l1, l2, by rw [q1]; rfl, fun y hy => ?_, q3, q4, Or.inr ?_⟩
      · rcases List.mem_cons.mp hy with rfl | hy
        · exact (hc y List.mem_cons_self).mp e
        · exact q2 y hy
      · rcases q5 with ⟨z1, z2⟩ | ⟨l3, y, z1, z2⟩
        · exact ⟨[], x, by rw [z1]; rfl, z2⟩
        · exact ⟨x :: l3, y, by rw [z1]; rfl, z2⟩
    · rw [if_neg e]
      refine ⟨[], x :: xs, rfl, fun y hy => absurd hy List.not_mem_nil, fun y ys z => ?_, ⟨rfl, hx, hb3⟩, Or.inl ⟨rfl, rfl⟩⟩
      rw [← (List.cons.inj z).1]
      exact fun z2 => e ((hc x List.mem_cons_self).mpr z2)
theorem isLk_ins {g g9 : Nat → Int32} {y m : Nat} {l2 : List Nat} {b9 : Int32} (hm : m < 47) (h1 : g9 y = nI m) (h2 : g9 m = b9) (h3 : isLk g9 b9 l2) : ∀ (l3 : List Nat) (a : Int32), (∀ x, x ∈ l3 → g9 x = g x) → isLk g a (l3 ++ (y :: l2)) → isLk g9 a (l3 ++ (y :: m :: l2))
  | [], a, _, h => ⟨h.1, h.2.1, h1, hm, by rw [h2]; exact h3⟩
  | x :: l3, a, hc, h => ⟨h.1, h.2.1, by
    have := isLk_ins hm h1 h2 h3 l3 (g x) (fun z hz => hc z (List.mem_cons_of_mem _ hz)) h.2.2
    rw [hc x List.mem_cons_self]
    exact this⟩
theorem stg_step (h : txC n P K T) (hT : TV n P K) (h47 : n ≤ 47) {m : Nat} (hm0 : 0 < m) (hm : m < n) {f g : Nat → Int32} (hS : Stg n P T m f g) : Stg n P T (m - 1) (inF K f g (P m) m) (inG K f g (P m) m) := by
  have hPm := (hT.2.1 m hm0 hm).1
  obtain ⟨l, a1, a2, a3, a4⟩ := hS (P m) (by omega)
  have hlen : l.length ≤ 47 := by
    have := len_47 (n := n) a3 (fun x hx => ((a2 x).mp hx).2.2.1)
    omega
  obtain ⟨l1, l2, q1, q2, q3, q4, q5⟩ := insL_sp (T := T) (cmp := fun b => cmpT K f g 24 b m) (g := g) (s := T m) l 47 (-1) (f (P m)) a1 hlen (fun y hy => by
    have hy := (a2 y).mp hy
    have hi := inC_0 hT h47 y
    exact (cmpT_sp h hT h47 hS 24 y m hy.2.2.1 hm (by omega) (Nat.le_refl _) (by omega)).2)
  have hml : ¬ m ∈ l := fun z => by have := (a2 m).mp z; omega
  have hml2 : ¬ m ∈ l2 := fun z => hml (by rw [q1]; exact List.mem_append_right _ z)
  have hsrt : (l1 ++ m :: l2).Pairwise (fun a b => ¬ ltL (T b) (T a)) := by
    rw [q1, List.pairwise_append] at a4
    rw [List.pairwise_append, List.pairwise_cons]
    refine ⟨a4.1, ⟨fun b hb => ?_, a4.2.1⟩, fun a ha b hb => ?_⟩
    · cases l2 with
      | nil => exact absurd hb List.not_mem_nil
      | cons y ys =>
        have hy := q3 y ys rfl
        rcases List.mem_cons.mp hb with rfl | hb
        · exact hy
        · intro z
          have h1 := (List.pairwise_cons.mp a4.2.1).1 b hb
          exact h1 (ltL_le z hy)
    · rcases List.mem_cons.mp hb with rfl | hb
      · exact ltL_as (q2 a ha)
      · exact a4.2.2 a ha b hb
  have hnd : (l1 ++ m :: l2).Nodup := by
    have hp : (l1 ++ m :: l2).Perm (m :: l) := by rw [q1]; exact List.perm_middle
    exact hp.symm.nodup (List.nodup_cons.mpr ⟨hml, a3⟩)
  have hmem : ∀ x, x ∈ l1 ++ m :: l2 ↔ m - 1 < x ∧ 0 < x ∧ x < n ∧ P x = P m := fun x => by
    have e : x ∈ l1 ++ m :: l2 ↔ x = m ∨ x ∈ l := by
      rw [q1, List.mem_append, List.mem_cons, List.mem_append]
      constructor
      · rintro (z | z | z)
        · exact Or.inr (Or.inl z)
        · exact Or.inl z
        · exact Or.inr (Or.inr z)
      · rintro (z | z | z)
        · exact Or.inr (Or.inl z)
        · exact Or.inl z
        · exact Or.inr (Or.inr z)
    rw [e, a2 x]
    constructor
    · rintro (rfl | z)
      · exact ⟨by omega, hm0, hm, rfl⟩
      · exact ⟨by omega, z.2⟩
    · intro z
      by_cases e2 : x = m
      · exact Or.inl e2
      · exact Or.inr ⟨by omega, z.2⟩
  intro w hw
  by_cases ew : w = P m
  · subst ew
    refine ⟨l1 ++ m :: l2, ?_, hmem, hnd, hsrt⟩
    rcases q5 with ⟨z1, z2⟩ | ⟨l3, y, z1, z2⟩
    · have z2 : (inP K f g (P m) m).1 = -1 := z2
      unfold inF inG
      rw [if_pos z2, if_pos z2, z1, pk_us]
      refine ⟨rfl, by omega, ?_⟩
      rw [pk_us]
      exact isLk_c _ _ (fun x hx => pk_un (fun e => hml2 (by rw [← e]; exact hx))) q4
    · have z2 : (inP K f g (P m) m).1 = nI y := z2
      have hyl : y ∈ l := by rw [q1, z1]; simp
      have hyn := ((a2 y).mp hyl).2.2.1
      have hym : ¬ y = m := fun e => hml (by rw [← e]; exact hyl)
      have hn1 : ¬ (inP K f g (P m) m).1 = -1 := by rw [z2]; exact nI_m1 (by omega)
      have hy3 : ¬ y ∈ l3 ∧ ¬ y ∈ l2 := by
        rw [q1, z1, List.append_assoc] at a3
        have hp : (l3 ++ ([y] ++ l2)).Perm (y :: (l3 ++ l2)) := List.perm_middle
        have := List.nodup_cons.mp (hp.nodup a3)
        exact ⟨fun z => this.1 (List.mem_append_left _ z), fun z => this.1 (List.mem_append_right _ z)⟩
      have hm3 : ¬ m ∈ l3 := fun z => hml (by rw [q1, z1]; simp [z])
      unfold inF inG
      rw [if_neg hn1, if_neg hn1, z2, nI_clamp (by omega), z1, List.append_assoc]
      refine isLk_ins (g := g) (y := y) (m := m) (b9 := (inP K f g (P m) m).2) (by omega) pk_us (by rw [pk_un (fun e => hym e.symm), pk_us]) ?_ l3 _ (fun x hx => ?_) (by rw [q1, z1, List.append_assoc] at a1; exact a1)
      · exact isLk_c _ _ (fun x hx => by rw [pk_un (fun e => hy3.2 (by rw [← e]; exact hx)), pk_un (fun e => hml2 (by rw [← e]; exact hx))]) q4
      · rw [pk_un (fun e => hy3.1 (by rw [← e]; exact hx)), pk_un (fun e => hm3 (by rw [← e]; exact hx))]
  · obtain ⟨lw, b1, b2, b3, b4⟩ := hS w hw
    refine ⟨lw, ?_, fun x => (b2 x).trans ⟨fun z => ⟨by omega, z.2⟩, fun z => ⟨?_, z.2⟩⟩, b3, b4⟩
    · have hf : inF K f g (P m) m w = f w := by
        unfold inF
        split
        · exact pk_un ew
        · rfl
      rw [hf]
      refine isLk_c lw _ (fun x hx => ?_) b1
      have hxx := (b2 x).mp hx
      have hxm : ¬ x = m := by omega
      unfold inG
      split
      · exact pk_un hxm
      · rename_i hn1
        rcases q5 with ⟨z1, z2⟩ | ⟨l3, y, z1, z2⟩
        · exact absurd z2 hn1
        · have z2 : (inP K f g (P m) m).1 = nI y := z2
          have hyl : y ∈ l := by rw [q1, z1]; simp
          have hy := (a2 y).mp hyl
          rw [z2, nI_clamp (by omega), pk_un (fun e => ew (by rw [← hxx.2.2.2, e, hy.2.2.2])), pk_un hxm]
    · have : ¬ x = m := fun e => ew (by rw [← z.2.2.2, e])
      omega
theorem stg_all (h : txC n P K T) (hT : TV n P K) (h47 : n ≤ 47) : ∀ m f g, m < n → Stg n P T m f g → Stg n P T 0 (soD K P m f g).1 (soD K P m f g).2
  | 0, _, _, _, hS => hS
  | m + 1, f, g, hm, hS => stg_all h hT h47 m _ _ (by omega) (stg_step h hT h47 (by omega) hm hS)
theorem stg_0 (hn : 0 < n) (f g : Nat → Int32) : Stg n P T (n - 1) (filF f n) (filF g n) := fun w hw => ⟨[], if_pos hw, fun x => ⟨fun z => absurd z List.not_mem_nil, fun z => by omega⟩, List.nodup_nil, List.Pairwise.nil⟩
end stg
/-! writing -/
def apT (B : WB) (s : List Int32) : WB := s.foldl pb B
theorem apT_a (B : WB) (s t : List Int32) : apT B (s ++ t) = apT (apT B s) t := List.foldl_append
theorem pnL_sp {rec : Nat → WB → WB} {g : Nat → Int32} {T : Nat → List Int32} : ∀ (l : List Nat) (k t : Nat) (a : Int32) (B : WB), isLk g a l → l.length ≤ k → (∀ x, x ∈ l → ∀ B, rec x B = apT B (T x)) → pb (pnL rec g k (t + 1) a B) (nI 41) = apT B (Wt T l)
  | [], k, t, a, B, ha, _, _ => by
    have ha : a = -1 := ha
    have e : pnL rec g k (t + 1) a B = B := by
      cases k with
      | zero => rfl
      | succ k => unfold pnL; rw [if_pos ha]
    rw [e]; rfl
  | x :: xs, 0, _, _, _, _, hk, _ => absurd hk (by simp)
  | x :: xs, k + 1, t, a, B, ha, hk, hr => by
    obtain ⟨rfl, hx, ha3⟩ := ha
    unfold pnL
    rw [if_neg (nI_m1 (by omega)), nI_clamp (by omega), if_neg (by omega), pnL_sp xs k (t + 1) (g x) _ ha3 (by simp at hk; omega) (fun y hy => hr y (List.mem_cons_of_mem _ hy)), hr x List.mem_cons_self]
    show _ = apT B ([nI 44] ++ (T x ++ Wt T xs))
    rw [apT_a, apT_a]
    rfl
theorem pnT_sp {n : Nat} {P : Nat → Nat} {K : Nat → Int32} {T : Nat → List Int32} (h : txC n P K T) (hT : TV n P K) (h47 : n ≤ 47) {f g : Nat → Int32} (hS : Stg n P T 0 f g) : ∀ d v, v < n → inC n K v ≤ d → ∀ B, pnT K f g d v B = apT B (T v)
  | 0, v, hv, hd, B => by
    have hk : ¬ K v = -1 := fun z => by
      have : 0 < inC n K v := cnt_pos (q := fun u => v ≤ u ∧ K u = -1) n hv ⟨Nat.le_refl _, z⟩
      omega
    unfold pnT
    rw [if_neg hk]
    rcases h v hv with ⟨_, e⟩ | ⟨q, _⟩
    · rw [e]; rfl
    · exact absurd q hk
  | d + 1, v, hv, hd, B => by
    unfold pnT
    by_cases hk : K v = -1
    · rw [if_pos hk]
      obtain ⟨l, a1, a2, a3, a4⟩ := hS v hv
      have fv : ∀ x, x ∈ l ↔ 0 < x ∧ x < n ∧ P x = v := fun x => (a2 x).trans ⟨fun z => z.2, fun z => ⟨z.1, z⟩⟩
      have hlen : l.length ≤ 47 := by
        have := len_47 (n := n) a3 (fun x hx => ((fv x).mp hx).2.1)
        omega
      rw [tx_list h hv hk fv a3 a4]
      have hne := tx_kid hT hv hk fv
      cases l with
      | nil => exact absurd rfl hne
      | cons x xs =>
        obtain ⟨e1, hx, a5⟩ := a1
        have hrec : ∀ y, y ∈ x :: xs → ∀ B, pnT K f g d y B = apT B (T y) := fun y hy B => by
          have hy := (fv y).mp hy
          have h1 := (hT.2.1 y hy.1 hy.2.1).1
          have h3 := inC_lt (x := y) hv hk (by omega)
          exact pnT_sp h hT h47 hS d y hy.2.1 (by omega) B
        rw [preT_W, e1]
        show pb (if nI x = -1 then B else pnL (pnT K f g d) g 46 1 (g (nI x).toNatClampNeg) (pnT K f g d (nI x).toNatClampNeg (pb B (if 0 = 0 then nI 40 else nI 44)))) (nI 41) = _
        rw [if_neg (nI_m1 (by omega)), nI_clamp (by omega), if_pos rfl, pnL_sp xs 46 0 (g x) _ a5 (by simp at hlen; omega) (fun y hy => hrec y (List.mem_cons_of_mem _ hy)), hrec x List.mem_cons_self]
        show _ = apT B ([nI 40] ++ (T x ++ Wt T xs))
        rw [apT_a, apT_a]
        rfl
    · rw [if_neg hk]
      rcases h v hv with ⟨_, e⟩ | ⟨q, _⟩
      · rw [e]; rfl
      · exact absurd q hk
theorem apT_n : ∀ (s : List Int32) (B : WB), B.1 + s.length ≤ 94 → (apT B s).1 = B.1 + s.length ∧ (∀ k, k < B.1 → (apT B s).2 k = B.2 k) ∧ ∀ k, k < s.length → (apT B s).2 (B.1 + k) = s.getD k 0
  | [], B, _ => ⟨rfl, fun k _ => rfl, fun k hk => absurd hk (by simp)⟩
  | x :: s, B, h => by
    have h : B.1 + (s.length + 1) ≤ 94 := h
    have e : apT B (x :: s) = apT (B.1 + 1, upd B.2 B.1 x) s := by
      show s.foldl pb (pb B x) = _
      unfold pb
      rw [if_pos (by omega)]
      rfl
    rw [e]
    obtain ⟨a, b, c⟩ := apT_n s (B.1 + 1, upd B.2 B.1 x) (by show B.1 + 1 + s.length ≤ 94; omega)
    have a : (apT (B.1 + 1, upd B.2 B.1 x) s).1 = B.1 + 1 + s.length := a
    have b : ∀ k, k < B.1 + 1 → (apT (B.1 + 1, upd B.2 B.1 x) s).2 k = upd B.2 B.1 x k := b
    have c : ∀ k, k < s.length → (apT (B.1 + 1, upd B.2 B.1 x) s).2 (B.1 + 1 + k) = s.getD k 0 := c
    refine ⟨by rw [a]; show _ = B.1 + (s.length + 1); omega, fun k hk => ?_, fun k hk => ?_⟩
    · rw [b k (by omega), pk_un (by omega)]
    · cases k with
      | zero => exact (b B.1 (by omega)).trans pk_us
      | succ k =>
        rw [show B.1 + (k + 1) = B.1 + 1 + k by omega, c k (by simp at hk; omega)]
        rfl

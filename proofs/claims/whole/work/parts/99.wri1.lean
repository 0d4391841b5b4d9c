/-! Texts: their order, how they part; the class's lists of children -/
theorem ltL_irr : ∀ a : List Int32, ¬ ltL a a
  | [] => id
  | x :: xs => fun h => h.elim (fun q => Int32.lt_irrefl q) (fun q => ltL_irr xs q.2)
theorem ltL_tri : ∀ a b : List Int32, ¬ ltL a b → ¬ ltL b a → a = b
  | [], [], _, _ => rfl
  | [], y :: ys, h, _ => absurd trivial h
  | x :: xs, [], _, h => absurd trivial h
  | x :: xs, y :: ys, h1, h2 => by
    have h3 : x = y := Int32.le_antisymm (Int32.not_lt.mp (fun q => h2 (Or.inl q))) (Int32.not_lt.mp (fun q => h1 (Or.inl q)))
    subst h3
    rw [ltL_tri xs ys (fun q => h1 (Or.inr ⟨rfl, q⟩)) (fun q => h2 (Or.inr ⟨rfl, q⟩))]
theorem ltL_as {a b : List Int32} (h : ltL a b) : ¬ ltL b a := fun q => ltL_irr a (ltL_t a b a h q)
theorem ltL_le {a b d : List Int32} (h : ltL a b) (h2 : ¬ ltL d b) : ltL a d := by
  by_cases e : ltL b d
  · exact ltL_t a b d h e
  · rw [ltL_tri d b h2 e]; exact h
theorem ltL_pre {s t : List Int32} : ∀ p : List Int32, ltL (p ++ s) (p ++ t) ↔ ltL s t
  | [] => Iff.rfl
  | x :: p => by
    show (x < x ∨ (x = x ∧ ltL (p ++ s) (p ++ t))) ↔ _
    rw [ltL_pre p]
    exact ⟨fun h => h.elim (fun q => absurd q Int32.lt_irrefl) (fun q => q.2), fun h => Or.inr ⟨rfl, h⟩⟩
/-- they part within both -/
def prt (x y : List Int32) : Prop := ∃ p a b x9 y9, ¬ a = b ∧ x = p ++ a :: x9 ∧ y = p ++ b :: y9
theorem prt_app {x y s t : List Int32} (h : prt x y) : prt (x ++ s) (y ++ t) := by
  obtain ⟨p, a, b, x9, y9, hne, rfl, rfl⟩ := h
  exact ⟨p, a, b, x9 ++ s, y9 ++ t, hne, by simp, by simp⟩
theorem prt_pre {x y : List Int32} (p : List Int32) (h : prt x y) : prt (p ++ x) (p ++ y) := by
  obtain ⟨p9, a, b, x9, y9, hne, rfl, rfl⟩ := h
  exact ⟨p ++ p9, a, b, x9, y9, hne, by simp, by simp⟩
theorem prt_ne {x y : List Int32} (h : prt x y) : ¬ x = y := by
  obtain ⟨p, a, b, x9, y9, hne, rfl, rfl⟩ := h
  intro e
  have := List.append_cancel_left e
  exact hne (List.cons.inj this).1
theorem prt_lt {x y s t : List Int32} (h : prt x y) : ltL (x ++ s) (y ++ t) ↔ ltL x y := by
  obtain ⟨p, a, b, x9, y9, hne, rfl, rfl⟩ := h
  rw [List.append_assoc, List.append_assoc, ltL_pre, ltL_pre]
  show (a < b ∨ (a = b ∧ _)) ↔ (a < b ∨ (a = b ∧ _))
  exact ⟨fun h => h.elim Or.inl (fun q => absurd q.1 hne), fun h => h.elim Or.inl (fun q => absurd q.1 hne)⟩
/-- the rest of a text behind some children -/
def Wt (T : Nat → List Int32) : List Nat → List Int32
  | [] => [nI 41]
  | x :: xs => nI 44 :: (T x ++ Wt T xs)
theorem preT_W {T : Nat → List Int32} {x : Nat} {xs : List Nat} : preT ((x :: xs).map T) ++ [nI 41] = nI 40 :: (T x ++ Wt T xs) := by
  have key : ∀ (xs : List Nat) (a : List Int32), ¬ a = [] → (xs.map T).foldl (fun a t => a ++ ((if a = [] then nI 40 else nI 44) :: t)) a ++ [nI 41] = a ++ Wt T xs := by
    intro xs
    induction xs with
    | nil => intro a _; rfl
    | cons y ys ih =>
      intro a ha
      show (ys.map T).foldl (fun a t => a ++ ((if a = [] then nI 40 else nI 44) :: t)) (a ++ ((if a = [] then nI 40 else nI 44) :: T y)) ++ [nI 41] = a ++ (nI 44 :: (T y ++ Wt T ys))
      rw [ih _ (by simp), if_neg ha]
      simp
  show (xs.map T).foldl (fun a t => a ++ ((if a = [] then nI 40 else nI 44) :: t)) ([] ++ ((if ([] : List Int32) = [] then nI 40 else nI 44) :: T x)) ++ [nI 41] = _
  rw [key xs _ (by simp), if_pos rfl]
  simp
/-- what the texts of a tree are -/
def txC (n : Nat) (P : Nat → Nat) (K : Nat → Int32) (T : Nat → List Int32) : Prop := ∀ v, v < n → (¬ K v = -1 ∧ T v = [nI 97 + K v]) ∨ (K v = -1 ∧ ∃ os : List Nat, (∀ x, x ∈ os ↔ 0 < x ∧ x < n ∧ P x = v) ∧ os.Nodup ∧ os.Pairwise (fun a b => ¬ ltL (T b) (T a)) ∧ T v = preT (os.map T) ++ [nI 41])
section tx
variable {n : Nat} {P : Nat → Nat} {K : Nat → Int32} {T : Nat → List Int32}
theorem W_prt : ∀ l l9 : List Nat, (∀ x, x ∈ l → ∀ y, y ∈ l9 → T x = T y ∨ prt (T x) (T y)) → Wt T l = Wt T l9 ∨ prt (Wt T l) (Wt T l9)
  | [], [], _ => Or.inl rfl
  | [], y :: ys, _ => Or.inr ⟨[], nI 41, nI 44, [], T y ++ Wt T ys, by decide, rfl, rfl⟩
  | x :: xs, [], _ => Or.inr ⟨[], nI 44, nI 41, T x ++ Wt T xs, [], by decide, rfl, rfl⟩
  | x :: xs, y :: ys, h => by
    rcases h x List.mem_cons_self y List.mem_cons_self with e | e
    · rcases W_prt xs ys (fun a ha b hb => h a (List.mem_cons_of_mem _ ha) b (List.mem_cons_of_mem _ hb)) with q | q
      · left; show nI 44 :: (T x ++ Wt T xs) = nI 44 :: (T y ++ Wt T ys); rw [e, q]
      · right
        show prt (nI 44 :: (T x ++ Wt T xs)) (nI 44 :: (T y ++ Wt T ys))
        rw [e]
        exact prt_pre [nI 44] (prt_pre (T y) q)
    · right
      exact prt_pre [nI 44] (prt_app e)
theorem W_40 {l l9 : List Nat} (hl : ¬ l = []) (hl9 : ¬ l9 = []) : (Wt T l = Wt T l9 ↔ preT (l.map T) ++ [nI 41] = preT (l9.map T) ++ [nI 41]) ∧ (ltL (Wt T l) (Wt T l9) ↔ ltL (preT (l.map T) ++ [nI 41]) (preT (l9.map T) ++ [nI 41])) ∧ (prt (Wt T l) (Wt T l9) → prt (preT (l.map T) ++ [nI 41]) (preT (l9.map T) ++ [nI 41])) := by
  cases l with
  | nil => exact absurd rfl hl
  | cons x xs =>
    cases l9 with
    | nil => exact absurd rfl hl9
    | cons y ys =>
      rw [preT_W, preT_W]
      show (nI 44 :: (T x ++ Wt T xs) = nI 44 :: (T y ++ Wt T ys) ↔ _) ∧ (ltL ([nI 44] ++ (T x ++ Wt T xs)) ([nI 44] ++ (T y ++ Wt T ys)) ↔ ltL ([nI 40] ++ (T x ++ Wt T xs)) ([nI 40] ++ (T y ++ Wt T ys))) ∧ (prt (nI 44 :: (T x ++ Wt T xs)) (nI 44 :: (T y ++ Wt T ys)) → _)
      refine ⟨⟨fun e => by rw [(List.cons.inj e).2], fun e => by rw [(List.cons.inj e).2]⟩, by rw [ltL_pre, ltL_pre], ?_⟩
      rintro ⟨p, a, b, x9, y9, hne, e1, e2⟩
      cases p with
      | nil =>
        have h1 := (List.cons.inj e1).1
        have h2 := (List.cons.inj e2).1
        exact absurd (h1.symm.trans h2) hne
      | cons c p =>
        refine ⟨nI 40 :: p, a, b, x9, y9, hne, ?_, ?_⟩
        · rw [(List.cons.inj e1).2]; rfl
        · rw [(List.cons.inj e2).2]; rfl
theorem tx_kid (hT : TV n P K) {v : Nat} (hv : v < n) (hk : K v = -1) {l : List Nat} (hl : ∀ x, x ∈ l ↔ 0 < x ∧ x < n ∧ P x = v) : ¬ l = [] := by
  obtain ⟨a, b, h0, hab, hb, ha1, _⟩ := hT.2.2.2 v hv hk
  intro e
  have := (hl a).mpr ⟨h0, by omega, ha1⟩
  rw [e] at this
  exact absurd this List.not_mem_nil
/-- a sorted list of the children tells the text -/
theorem tx_list (h : txC n P K T) {v : Nat} (hv : v < n) (hk : K v = -1) {l : List Nat} (hl : ∀ x, x ∈ l ↔ 0 < x ∧ x < n ∧ P x = v) (hd : l.Nodup) (hs : l.Pairwise (fun a b => ¬ ltL (T b) (T a))) : T v = preT (l.map T) ++ [nI 41] := by
  rcases h v hv with ⟨q, _⟩ | ⟨_, os, h1, h2, h3, h4⟩
  · exact absurd hk q
  · have hp : l.Perm os := (List.perm_ext_iff_of_nodup hd h2).mpr (fun x => (hl x).trans (h1 x).symm)
    have he : l.map T = os.map T := by
      refine List.Perm.eq_of_pairwise (le := fun a b => ¬ ltL b a) (fun a b _ _ q1 q2 => ltL_tri a b q2 q1) ?_ ?_ (hp.map T)
      · exact List.pairwise_map.mpr hs
      · exact List.pairwise_map.mpr h3
    rw [he]; exact h4
theorem tx_prt (h : txC n P K T) (hT : TV n P K) : ∀ v, v < n → ∀ u, u < n → T v = T u ∨ prt (T v) (T u) := by
  have hc : ∀ v, v < n → ¬ K v = -1 → ∃ q, q < 12 ∧ T v = [nI (97 + q)] := fun v hv hk => by
    rcases h v hv with ⟨_, e⟩ | ⟨q, _⟩
    · rcases hT.2.2.1 v hv with z | ⟨q, hq, z⟩
      · exact absurd z hk
      · exact ⟨q, hq, by rw [e, z, nI_add]⟩
    · exact absurd q hk
  have hi : ∀ v, v < n → K v = -1 → ∃ os : List Nat, (∀ x, x ∈ os ↔ 0 < x ∧ x < n ∧ P x = v) ∧ ¬ os = [] ∧ T v = preT (os.map T) ++ [nI 41] := fun v hv hk => by
    rcases h v hv with ⟨q, _⟩ | ⟨_, os, h1, h2, h3, h4⟩
    · exact absurd hk q
    · exact ⟨os, h1, tx_kid hT hv hk h1, h4⟩
  have h40 : ∀ v, v < n → K v = -1 → ∃ s, T v = nI 40 :: s := fun v hv hk => by
    obtain ⟨os, h1, h2, h3⟩ := hi v hv hk
    cases os with
    | nil => exact absurd rfl h2
    | cons x xs => exact ⟨_, by rw [h3, preT_W]⟩
  refine down ?_
  intro v hv ih u hu
  by_cases kv : K v = -1
  · by_cases ku : K u = -1
    · obtain ⟨os, h1, h2, h3⟩ := hi v hv kv
      obtain ⟨os9, g1, g2, g3⟩ := hi u hu ku
      have hw := W_40 (T := T) h2 g2
      have hpp : ∀ x, x ∈ os → ∀ y, y ∈ os9 → T x = T y ∨ prt (T x) (T y) := by
        intro x hx y hy
        have hx := (h1 x).mp hx
        have hy := (g1 y).mp hy
        have hlt := (hT.2.1 x hx.1 hx.2.1).1
        exact ih x (by omega) hx.2.1 y hy.2.1
      rcases W_prt (T := T) os os9 hpp with q | q
      · left; rw [h3, g3]; exact hw.1.mp q
      · right; rw [h3, g3]; exact hw.2.2 q
    · obtain ⟨s, e⟩ := h40 v hv kv
      obtain ⟨q, hq, e2⟩ := hc u hu ku
      refine Or.inr ⟨[], nI 40, nI (97 + q), s, [], fun z => ?_, e, e2⟩
      have := (nI_eq (by decide) (by omega)).mp z
      omega
  · obtain ⟨q, hq, e⟩ := hc v hv kv
    by_cases ku : K u = -1
    · obtain ⟨s, e2⟩ := h40 u hu ku
      refine Or.inr ⟨[], nI (97 + q), nI 40, [], s, fun z => ?_, e, e2⟩
      have := (nI_eq (by omega) (by decide)).mp z
      omega
    · obtain ⟨q9, hq9, e2⟩ := hc u hu ku
      by_cases z : q = q9
      · left; rw [e, e2, z]
      · refine Or.inr ⟨[], nI (97 + q), nI (97 + q9), [], [], fun w => ?_, e, e2⟩
        have := (nI_eq (by omega) (by omega)).mp w
        omega
end tx
/-- what a comparing number says -/
def sgn (c : Int32) (x y : List Int32) : Prop := (c = 0 ↔ x = y) ∧ (c < 0 ↔ ltL x y)
/-- a linked list -/
def isLk (g : Nat → Int32) : Int32 → List Nat → Prop
  | a, [] => a = -1
  | a, x :: xs => a = nI x ∧ x < 47 ∧ isLk g (g x) xs
theorem cmpL_sp {rec : Nat → Nat → Int32} {g : Nat → Int32} {T : Nat → List Int32} : ∀ (l l9 : List Nat) (k : Nat) (a b : Int32), isLk g a l → isLk g b l9 → l.length ≤ k → (∀ x, x ∈ l → ∀ y, y ∈ l9 → sgn (rec x y) (T x) (T y) ∧ (T x = T y ∨ prt (T x) (T y))) → sgn (cmpL rec g k a b) (Wt T l) (Wt T l9)
  | [], l9, k, a, b, ha, hb, _, _ => by
    have ha : a = -1 := ha
    have e : cmpL rec g k a b = endC a b := by
      cases k with
      | zero => rfl
      | succ k => unfold cmpL; rw [if_pos (Or.inl ha)]
    rw [e]
    cases l9 with
    | nil =>
      have hb : b = -1 := hb
      rw [endC_yy ha hb]
      exact ⟨⟨fun _ => rfl, fun _ => by decide⟩, ⟨fun z => absurd z (by decide), fun z => absurd z (ltL_irr _)⟩⟩
    | cons y ys =>
      have hb : ¬ b = -1 := by rw [hb.1]; exact nI_m1 (by have := hb.2.1; omega)
      rw [endC_yn ha hb]
      exact ⟨⟨fun z => absurd z (by decide), fun z => absurd (List.cons.inj z).1 (by decide)⟩, ⟨fun _ => Or.inl (by decide), fun _ => by decide⟩⟩
  | x :: xs, [], k, a, b, ha, hb, _, _ => by
    have hb : b = -1 := hb
    have ha2 : ¬ a = -1 := by rw [ha.1]; exact nI_m1 (by have := ha.2.1; omega)
    have e : cmpL rec g k a b = endC a b := by
      cases k with
      | zero => rfl
      | succ k => unfold cmpL; rw [if_pos (Or.inr hb)]
    rw [e, endC_ny ha2 hb]
    refine ⟨⟨fun z => absurd z (by decide), fun z => absurd (List.cons.inj z).1 (by decide)⟩, ⟨fun z => absurd z (by decide), fun z => ?_⟩⟩
    rcases z with z | z
    · exact absurd z (by decide)
    · exact absurd z.1 (by decide)
  | x :: xs, y :: ys, 0, _, _, _, _, hk, _ => absurd hk (by simp)
  | x :: xs, y :: ys, k + 1, a, b, ha, hb, hk, h => by
    obtain ⟨rfl, hx, ha3⟩ := ha
    obtain ⟨rfl, hy, hb3⟩ := hb
    have hs := h x List.mem_cons_self y List.mem_cons_self
    unfold cmpL
    rw [if_neg (fun z => z.elim (nI_m1 (by omega)) (nI_m1 (by omega))), nI_clamp (by omega), nI_clamp (by omega)]
    show sgn _ ([nI 44] ++ (T x ++ Wt T xs)) ([nI 44] ++ (T y ++ Wt T ys))
    by_cases e : rec x y = 0
    · rw [if_pos e]
      have ih := cmpL_sp xs ys k _ _ ha3 hb3 (by simp at hk; omega) (fun p hp q hq => h p (List.mem_cons_of_mem _ hp) q (List.mem_cons_of_mem _ hq))
      have e2 := hs.1.1.mp e
      rw [e2]
      refine ⟨ih.1.trans ⟨fun z => by rw [z], fun z => List.append_cancel_left (List.append_cancel_left z)⟩, ih.2.trans ?_⟩
      rw [ltL_pre, ltL_pre]
    · rw [if_neg e]
      have hp : prt (T x) (T y) := hs.2.resolve_left (fun z => e (hs.1.1.mpr z))
      refine ⟨⟨fun z => absurd z e, fun z => absurd (List.append_cancel_left z) (prt_ne (prt_app hp))⟩, ?_⟩
      rw [ltL_pre, prt_lt hp]
      exact hs.1.2

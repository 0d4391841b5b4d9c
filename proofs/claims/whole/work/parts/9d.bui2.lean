/-! Joining: the class's recursion and the reference's stack -/
theorem pw_ne {R : Int32 → Int32 → Prop} (hsym : ∀ a b, R a b → R b a) : ∀ {l : List Int32}, l.Pairwise R → ∀ a b, a ∈ l → b ∈ l → ¬ a = b → R a b
  | [], _, a, _, h, _, _ => absurd h List.not_mem_nil
  | x :: xs, h, a, b, ha, hb, hne => by
    have h := List.pairwise_cons.mp h
    rcases List.mem_cons.mp ha with ea | ha2
    · rcases List.mem_cons.mp hb with eb | hb2
      · exact absurd (ea.trans eb.symm) hne
      · rw [ea]; exact h.1 b hb2
    · rcases List.mem_cons.mp hb with eb | hb2
      · rw [eb]; exact hsym _ _ (h.1 a ha2)
      · exact pw_ne hsym h.2 a b ha2 hb2 hne
theorem GM_un {s : Int32} {ps : List Int32} {Vs : Int32 → Int32 → Prop} (hK : Ks s) (h0 : ¬ s = 0) (h1 : ∀ p, p ∈ ps → GM (Vs p) p ∧ Sb p s) (h2 : ps.Pairwise (fun p q => ∀ j, In j p → ¬ In j q)) (h3 : ∀ j, In j s → ∃ p, p ∈ ps ∧ In j p) : GM (fun w => w = s ∨ ∃ p, p ∈ ps ∧ Vs p w) s := by
  have hin : ∀ w, (w = s ∨ ∃ p, p ∈ ps ∧ Vs p w) → Sb w s := by
    rintro w (rfl | ⟨p, hp, hw⟩)
    · exact fun _ h => h
    · exact fun j hj => (h1 p hp).2 j (((h1 p hp).1.2.2.1 w hw).1 j hj)
  refine ⟨Or.inl rfl, hK, fun w hw => ⟨hin w hw, ?_⟩, fun w w9 hw hw9 => ?_, fun k hk => ?_⟩
  · rcases hw with rfl | ⟨p, hp, hw⟩
    · exact h0
    · exact ((h1 p hp).1.2.2.1 w hw).2
  · rcases hw with rfl | ⟨p, hp, hw⟩
    · exact Or.inr (Or.inl (hin w9 hw9))
    · rcases hw9 with rfl | ⟨q, hq, hw9⟩
      · exact Or.inl (hin w (Or.inr ⟨p, hp, hw⟩))
      · by_cases e : p = q
        · subst e; exact (h1 p hp).1.2.2.2.1 w w9 hw hw9
        · have hd := pw_ne (fun a b h j h1 h2 => h j h2 h1) h2 p q hp hq e
          exact Or.inr (Or.inr (fun j hj hj2 => hd j (((h1 p hp).1.2.2.1 w hw).1 j hj) (((h1 q hq).1.2.2.1 w9 hw9).1 j hj2)))
  · obtain ⟨p, hp, hk2⟩ := h3 k hk
    exact Or.inr ⟨p, hp, (h1 p hp).1.2.2.2.2 k hk2⟩
section join
variable {τ : St} {z : Nat}
noncomputable def itS (τ : St) (z : Nat) (s : JS) : Nat → JS
  | 0 => s
  | n + 1 => mjS τ z (itS τ z s n)
theorem itS_a {s : JS} {n : Nat} : ∀ m, itS τ z s (n + m) = itS τ z (itS τ z s n) m
  | 0 => rfl
  | m + 1 => by show mjS τ z (itS τ z s (n + m)) = mjS τ z (itS τ z (itS τ z s n) m); rw [itS_a m]
/-- n steps without a clash -/
def Rn (τ : St) (z : Nat) (s : JS) (n : Nat) (s1 : JS) : Prop := itS τ z s n = s1 ∧ ∀ m, m < n → ¬ mjC τ z (itS τ z s m)
theorem Rn.t {s s1 s2 : JS} {n m : Nat} (h1 : Rn τ z s n s1) (h2 : Rn τ z s1 m s2) : Rn τ z s (n + m) s2 := by
  refine ⟨by rw [itS_a, h1.1]; exact h2.1, fun k hk => ?_⟩
  by_cases e : k < n
  · exact h1.2 k e
  · have := h2.2 (k - n) (by omega)
    rw [← h1.1, ← itS_a, show n + (k - n) = k by omega] at this
    exact this
theorem top_l {base : List Int32} {s : Int32} : (base ++ [s]).getLastD 0 = s ∧ (base ++ [s]).dropLast = base ∧ ¬ base ++ [s] = [] := by simp
abbrev vS (p : Int32) : Nat := 2 * pcn p - 1
abbrev sV (l : List Int32) : Nat := (l.map (fun p => 2 * pcn p - 1)).sum
theorem bc_1 {s : Int32} (hK : Ks s) : bC s = nI 1 ↔ pcn s = 1 := by
  have := pc_12 s
  rw [bC_pc hK, nI_eq (by omega) (by decide)]
theorem bc_2 {s : Int32} (hK : Ks s) : bC s < nI 2 ↔ pcn s < 2 := by
  have := pc_12 s
  rw [bC_pc hK, nI_ltI (by omega) (by decide)]
theorem addF_le {F : Fam} {x : Int32} : (addF F x).1 ≤ F.1 + 1 := by
  by_cases e : famOld F.1 F.2 x
  · rw [addF_o e]; omega
  · rw [addF_n e]; exact Nat.le_refl _
/-- what one set's joining does on both sides -/
def JX (τ : St) (z : Nat) (r : Int32 × Fam) (st : List Int32) (base : List Int32) (F Fm : Fam) (v : Nat) (G : (Int32 → Prop) → Prop) : Prop :=
  (r.1 = 0 ∧ ∃ V n Fm9, G V ∧ SL r.2.2 r.2.1 ∧ r.2.1 ≤ F.1 + v ∧ (∀ y, Mem r.2.2 r.2.1 y ↔ Mem F.2 F.1 y ∨ V y) ∧ UL Fm9.2 Fm9.1 ∧ (∀ y, Mem Fm9.2 Fm9.1 y ↔ Mem Fm.2 Fm.1 y ∨ V y) ∧ Rn τ z (st, Fm) n (base, Fm9) ∧ n ≤ v) ∨ (¬ r.1 = 0 ∧ ∃ n s1, Rn τ z (st, Fm) n s1 ∧ mjC τ z s1 ∧ s1.1.getLastD 0 = r.1 ∧ n ≤ v)
theorem jnL_sp {pw : Int32 → Int32 → Int32} (hpw : ∀ y x, pw y x = pwF (fun q => mpU τ x q z) 12 (y &&& -y)) {d : Nat} {s : Int32} (hs : Ks s) (hsd : pcn s ≤ d + 1)
    (IH : ∀ p F Fm base, Ks p → ¬ p = 0 → pcn p ≤ d → SL F.2 F.1 → UL Fm.2 Fm.1 → F.1 + vS p ≤ 46 → JX τ z (jn pw d p F) (base ++ [p]) base F Fm (vS p) (fun V => GM V p)) :
    ∀ k y (F Fm : Fam) (base : List Int32), Sb y s → clo τ z s (s &&& (y ^^^ (-1))) → pcn y ≤ k → SL F.2 F.1 → UL Fm.2 Fm.1 → F.1 + sV (pl τ z s k y) ≤ 46 → (∀ p, p ∈ pl τ z s k y → ¬ p = s) →
      JX τ z (jnL (jn pw d) (fun y => pw y s) s k y F) (base ++ (pl τ z s k y).reverse) base F Fm (sV (pl τ z s k y)) (fun V => ∃ Vs : Int32 → Int32 → Prop, (∀ p, p ∈ pl τ z s k y → GM (Vs p) p) ∧ ∀ w, V w ↔ ∃ p, p ∈ pl τ z s k y ∧ Vs p w)
  | k, y, F, Fm, base, hy, hc, hk, hF, hFm, hb, hne => by
    by_cases h0 : y = 0
    · have e1 : jnL (jn pw d) (fun y => pw y s) s k y F = (nI 0, F) := by
        cases k with
        | zero => rfl
        | succ k => unfold jnL; rw [if_pos h0]
      rw [e1, pl_0 h0, List.reverse_nil, List.append_nil]
      refine Or.inl ⟨rfl, fun _ => False, 0, Fm, ⟨fun _ _ => False, fun p hp => absurd hp List.not_mem_nil, fun w => ⟨fun z => absurd z id, fun ⟨p, hp, _⟩ => absurd hp List.not_mem_nil⟩⟩, hF, Nat.le_add_right _ _, fun w => ⟨Or.inl, fun z => z.elim id (fun z => absurd z id)⟩, hFm, fun w => ⟨Or.inl, fun z => z.elim id (fun z => absurd z id)⟩, ⟨rfl, fun m hm => absurd hm (by omega)⟩, by omega⟩
    · cases k with
      | zero =>
        have := pc_pos (fun k hk => hs k (hy k hk)) h0
        omega
      | succ k =>
        obtain ⟨q0, q1, q2, q3, _⟩ := pt_sp hs hy h0 hc
        have hpl := pl_s (τ := τ) (z := z) (s := s) (k := k) h0
        have hsp0 := pl_sp hs (k + 1) y hy hc hk
        rw [hpl] at hb hne hsp0 ⊢
        have hps : ¬ pt τ z s y = s := hne _ List.mem_cons_self
        have hj : jnL (jn pw d) (fun y => pw y s) s (k + 1) y F = if (jn pw d (pt τ z s y) F).1 = 0 then jnL (jn pw d) (fun y => pw y s) s k (y &&& (pt τ z s y ^^^ (-1))) (jn pw d (pt τ z s y) F).2 else jn pw d (pt τ z s y) F := by
          show (if y = 0 then _ else if pw y s = s then _ else if (jn pw d (pw y s) F).1 = 0 then jnL (jn pw d) (fun y => pw y s) s k (y &&& (pw y s ^^^ (-1))) (jn pw d (pw y s) F).2 else jn pw d (pw y s) F) = _
          rw [if_neg h0, hpw, q0, if_neg hps]
        rw [hj]
        generalize hp : pt τ z s y = p at q1 q2 q3 hps hb hne hsp0 ⊢
        generalize hy9 : y &&& (p ^^^ (-1)) = y9 at hb hne hsp0 ⊢
        have hKp : Ks p := fun k hk => hs k (hy k (q2 k hk))
        have hpy := pc_split q2
        have hpp := pc_pos hKp q1
        have hlt : pcn p < pcn s := pc_lt hs (fun j hj => hy j (q2 j hj)) hps
        have hsum : sV (p :: pl τ z s k y9) = vS p + sV (pl τ z s k y9) := by simp [sV, vS]
        rw [hsum] at hb ⊢
        have hst : base ++ (p :: pl τ z s k y9).reverse = (base ++ (pl τ z s k y9).reverse) ++ [p] := by simp
        rw [hst]
        rcases IH p F Fm (base ++ (pl τ z s k y9).reverse) hKp q1 (by omega) hF hFm (by omega) with ⟨c0, V, n, Fm9, g1, g2, g3, g4, g5, g6, g7, g8⟩ | ⟨c0, n, s1, g1, g2, g3, g4⟩
        · rw [if_pos c0]
          have hy9s : Sb y9 s := fun j hj => by rw [← hy9] at hj; exact hy j (In_and.mp hj).1
          have hc9 : clo τ z s (s &&& (y9 ^^^ (-1))) := by rw [← hy9]; exact clo_left hy hc q3 q2
          have ih := jnL_sp hpw hs hsd IH k y9 (jn pw d p F).2 Fm9 base hy9s hc9 (by rw [hy9] at hpy; omega) g2 g5 (by omega) (fun r hr => hne r (List.mem_cons_of_mem _ hr))
          rcases ih with ⟨c1, V2, n2, Fm2, ⟨Vs, a0, a1⟩, a2, a3, a4, a5, a6, a7, a8⟩ | ⟨c1, n2, s2, a1, a2, a3, a4⟩
          · have hdj : ∀ r, r ∈ pl τ z s k y9 → ¬ r = p := fun r hr e => by
              have h1 := (List.pairwise_cons.mp hsp0.2.1).1 r hr
              obtain ⟨j, _, hj⟩ := In_ne q1
              exact h1 j hj (by rw [e]; exact hj)
            have hVs : ∀ w, (V w ∨ ∃ q, q ∈ pl τ z s k y9 ∧ Vs q w) ↔ ∃ q, q ∈ p :: pl τ z s k y9 ∧ cI (q = p) (V w) (Vs q w) := fun w => by
              constructor
              · rintro (h | ⟨q, hq, h⟩)
                · exact ⟨p, List.mem_cons_self, by rw [cI_t rfl]; exact h⟩
                · exact ⟨q, List.mem_cons_of_mem _ hq, by rw [cI_f (hdj q hq)]; exact h⟩
              · rintro ⟨q, hq, h⟩
                rcases List.mem_cons.mp hq with rfl | hq
                · rw [cI_t rfl] at h; exact Or.inl h
                · rw [cI_f (hdj q hq)] at h; exact Or.inr ⟨q, hq, h⟩
            refine Or.inl ⟨c1, fun w => V w ∨ V2 w, n + n2, Fm2, ⟨fun q w => cI (q = p) (V w) (Vs q w), fun q hq => ?_, fun w => ?_⟩, a2, by omega, fun w => ?_, a5, fun w => ?_, g7.t a7, by omega⟩
            · rcases List.mem_cons.mp hq with rfl | hq
              · have : (fun w => cI (q = q) (V w) (Vs q w)) = V := by funext w; rw [cI_t rfl]
                show GM (fun w => cI (q = q) (V w) (Vs q w)) q
                rw [this]; exact g1
              · have : (fun w => cI (q = p) (V w) (Vs q w)) = Vs q := by funext w; rw [cI_f (hdj q hq)]
                show GM (fun w => cI (q = p) (V w) (Vs q w)) q
                rw [this]; exact a0 q hq
            · show (V w ∨ V2 w) ↔ _
              rw [a1 w]; exact hVs w
            · rw [a4 w, g4 w, or_assoc]
            · rw [a6 w, g6 w, or_assoc]
          · exact Or.inr ⟨c1, n + n2, s2, g7.t a1, a2, a3, by omega⟩
        · rw [if_neg c0]
          exact Or.inr ⟨c0, n, s1, g1, g2, g3, by omega⟩
theorem jn_sp {pw : Int32 → Int32 → Int32} (hpw : ∀ y x, pw y x = pwF (fun q => mpU τ x q z) 12 (y &&& -y)) : ∀ d s (F Fm : Fam) (base : List Int32), Ks s → ¬ s = 0 → pcn s ≤ d → SL F.2 F.1 → UL Fm.2 Fm.1 → F.1 + vS s ≤ 46 → JX τ z (jn pw d s F) (base ++ [s]) base F Fm (vS s) (fun V => GM V s)
  | 0, s, F, Fm, base, hK, h0, hd, _, _, _ => by have := pc_pos hK h0; omega
  | d + 1, s, F, Fm, base, hK, h0, hd, hF, hFm, hb => by
    have hpp := pc_pos hK h0
    have hadd : ∀ y, Mem (addF F s).2 (addF F s).1 y ↔ Mem F.2 F.1 y ∨ y = s := fun y => (mem_addF (by omega)).trans ⟨fun h => h.elim Or.inl (fun q => Or.inr q.1), fun h => h.elim Or.inl (fun q => Or.inr ⟨q, h0⟩)⟩
    have hma : ∀ y, Mem (maA Fm s).2 (maA Fm s).1 y ↔ Mem Fm.2 Fm.1 y ∨ y = s := fun y => mem_maA.trans ⟨fun h => h.elim Or.inl (fun q => Or.inr q.1), fun h => h.elim Or.inl (fun q => Or.inr ⟨q, h0⟩)⟩
    have hle := addF_le (F := F) (x := s)
    have tp := top_l (base := base) (s := s)
    unfold jn
    by_cases h1 : pcn s < 2
    · rw [if_pos ((bc_2 hK).mpr h1)]
      have hone : pcn s = 1 := by omega
      obtain ⟨k, hk, e⟩ := pc_1 hK hone
      have hst : mjS τ z (base ++ [s], Fm) = (base, maA Fm s) := by
        show cI (base ++ [s] = []) _ (cI (bC ((base ++ [s]).getLastD 0) = nI 1) ((base ++ [s]).dropLast, maA Fm ((base ++ [s]).getLastD 0)) _) = _
        rw [cI_f tp.2.2, tp.1, tp.2.1, cI_t ((bc_1 hK).mpr hone)]
      refine Or.inl ⟨rfl, fun w => w = s, 1, maA Fm s, ⟨rfl, hK, fun w hw => by rw [hw]; exact ⟨fun _ h => h, h0⟩, fun w w9 hw hw9 => by rw [hw, hw9]; exact Or.inl (fun _ h => h), fun j hj => ?_⟩, SL_addF hF hK, by show (addF F s).1 ≤ F.1 + vS s; simp only [vS]; omega, hadd, UL_maA hFm hK, hma, ⟨hst, fun m hm => ?_⟩, by simp only [vS]; omega⟩
      · rw [e] at hj ⊢
        rw [(In_bit hk).mp hj]
      · have hm0 : m = 0 := by omega
        subst hm0
        intro hc
        have := hc.2.1
        rw [show (itS τ z (base ++ [s], Fm) 0).1.getLastD 0 = s from tp.1] at this
        exact this ((bc_1 hK).mpr hone)
    · rw [if_neg (fun h => h1 ((bc_2 hK).mp h))]
      have hnb : ¬ bC s = nI 1 := fun h => by have := (bc_1 hK).mp h; omega
      obtain ⟨m0, m1, _⟩ := mjP_12 (τ := τ) (z := z) hK
      obtain ⟨q0, q1, q2, q3, _⟩ := pt_sp (τ := τ) (z := z) hK (fun _ h => h) h0 clo_0
      obtain ⟨b1, b2, b3, b4⟩ := pl_sp (τ := τ) (z := z) hK 12 s (fun _ h => h) clo_0 (pc_12 s)
      have hmem : pt τ z s s ∈ pl τ z s 12 s := by rw [pl_s h0]; exact List.mem_cons_self
      by_cases hps : pt τ z s s = s
      · have hj : jnL (jn pw d) (fun y => pw y s) s 12 s (addF F s) = (s, addF F s) := by
          show (if s = 0 then _ else if pw s s = s then (s, addF F s) else _) = _
          rw [if_neg h0, hpw, q0, if_pos hps]
        rw [hj]
        refine Or.inr ⟨h0, 0, (base ++ [s], Fm), ⟨rfl, fun m hm => absurd hm (by omega)⟩, ⟨tp.2.2, ?_, ?_⟩, tp.1, by omega⟩
        · show ¬ bC ((base ++ [s]).getLastD 0) = nI 1
          rw [tp.1]; exact hnb
        · show (base ++ [s]).getLastD 0 ∈ (mjP τ z ((base ++ [s]).getLastD 0) 12).2
          rw [tp.1, m1]
          rw [hps] at hmem
          exact hmem
      · have hnm : ∀ p, p ∈ pl τ z s 12 s → ¬ p = s := fun p hp e => by
          have hd2 := pw_ne (fun a b h j h1 h2 => h j h2 h1) b2 p (pt τ z s s) hp hmem (fun e2 => hps (by rw [← e2]; exact e))
          obtain ⟨j, _, hj⟩ := In_ne q1
          exact hd2 j (by rw [e]; exact q2 j hj) hj
        have hl2 : 2 ≤ (pl τ z s 12 s).length := by
          refine Classical.byContradiction (fun hn => ?_)
          have hl1 : (pl τ z s 12 s).length = 1 := by
            have := List.length_pos_of_mem hmem
            omega
          obtain ⟨p, hp⟩ := List.length_eq_one_iff.mp hl1
          refine hnm p (by rw [hp]; exact List.mem_singleton.mpr rfl) (sb_eq (b1 p (by rw [hp]; exact List.mem_singleton.mpr rfl)).2 (fun j hj => ?_))
          obtain ⟨r, hr, hj2⟩ := b3 j hj
          rw [hp, List.mem_singleton] at hr
          rw [← hr]; exact hj2
        have hv : sV (pl τ z s 12 s) + 1 ≤ vS s := by simp only [sV, vS]; omega
        have hst : mjS τ z (base ++ [s], Fm) = (base ++ (pl τ z s 12 s).reverse, maA Fm s) := by
          show cI (base ++ [s] = []) _ (cI (bC ((base ++ [s]).getLastD 0) = nI 1) _ ((base ++ [s]).dropLast ++ (mjP τ z ((base ++ [s]).getLastD 0) 12).2.reverse, maA Fm ((base ++ [s]).getLastD 0))) = _
          rw [cI_f tp.2.2, tp.1, tp.2.1, cI_f hnb, m1]
        have hR1 : Rn τ z (base ++ [s], Fm) 1 (base ++ (pl τ z s 12 s).reverse, maA Fm s) := by
          refine ⟨hst, fun m hm => ?_⟩
          have hm0 : m = 0 := by omega
          subst hm0
          intro hc
          have := hc.2.2
          rw [show (itS τ z (base ++ [s], Fm) 0).1.getLastD 0 = s from tp.1, m1] at this
          exact hnm s this rfl
        rcases jnL_sp hpw hK hd (fun p F Fm base a1 a2 a3 a4 a5 a6 => jn_sp hpw d p F Fm base a1 a2 a3 a4 a5 a6) 12 s (addF F s) (maA Fm s) base (fun _ h => h) clo_0 (pc_12 s) (SL_addF hF hK) (UL_maA hFm hK) (by omega) hnm with ⟨c0, V, n, Fm9, ⟨Vs, g0, g1⟩, g2, g3, g4, g5, g6, g7, g8⟩ | ⟨c0, n, s1, g1, g2, g3, g4⟩
        · refine Or.inl ⟨c0, fun w => w = s ∨ ∃ p, p ∈ pl τ z s 12 s ∧ Vs p w, 1 + n, Fm9, GM_un hK h0 (fun p hp => ⟨g0 p hp, (b1 p hp).2⟩) b2 b3, g2, by omega, fun w => ?_, g5, fun w => ?_, hR1.t g7, by omega⟩
          · rw [g4 w, hadd w, g1 w, or_assoc]
          · rw [g6 w, hma w, g1 w, or_assoc]
        · exact Or.inr ⟨c0, 1 + n, s1, hR1.t g1, g2, g3, by omega⟩
end join

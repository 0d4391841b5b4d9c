/-! Least changes: both ways -/
theorem add_sw (a b c : Int32) : a + b + c = a + c + b := by rw [Int32.add_assoc, Int32.add_comm b c, ← Int32.add_assoc]
theorem ch_eq {n : Nat} {P P9 : Nat → Nat} {K K9 : Nat → Int32} {π ρ : Nat → Nat} {R g : Nat → Int32} {I I9 : Nat → Nat → Int32} {q9 : Nat → Nat → Prop} (h : Iso n P K P9 K9 π ρ) (hP : PB n P) (hP9 : PB n P9) (hn : n ≤ 47) (h0 : 0 < n)
    (hR : ∀ v s, v < n → s < 4 → R (v * 4 + s) = I v s + cfo (chQ P v) (fun u b => b + mn (R (u * 4 + s)) (lcC R u + nI 1)) 0 n)
    (hg : ∀ v s, v < n → s < 4 → g (4 * v + s) = cfo (q9 v) (fun u a => a + bsU (fun p => g (4 * u + p)) s 4) (I9 v s) n)
    (hq : ∀ v u, v < n → u < n → (q9 v u ↔ 0 < u ∧ P9 u = v))
    (hI : ∀ v s, v < n → s < 4 → I v s = I9 (π v) s ∧ ∃ c, c ≤ 1000 ∧ I v s = nI c) : ∀ v, v < n → ∀ s, s < 4 → R (v * 4 + s) = g (4 * π v + s) := by
  have key : ∀ v, v < n → ∀ s, s < 4 → R (v * 4 + s) = g (4 * π v + s) ∧ ∃ c, c ≤ 1001 * wS n P (fun _ => 1) v ∧ R (v * 4 + s) = nI c := by
    refine down ?_
    intro v hv ih s hs
    -- the children's numbers
    have hsz : ∀ u, u < n → wS n P (fun _ => 1) u ≤ 47 := fun u hu => by
      have h1 := wS_le (w := fun _ => 1) hP h0 u hu
      rw [sumU_k] at h1
      omega
    have hc : ∀ u, u < n → chQ P v u → ∃ c : Nat → Nat, ∀ p, p < 4 → R (u * 4 + p) = nI (c p) ∧ c p ≤ 1001 * wS n P (fun _ => 1) u ∧ g (4 * π u + p) = nI (c p) := by
      intro u hu hq
      have hlt := hP u hq.1 hu
      have h1 := ih u (by rw [hq.2] at hlt; exact hlt) hu
      refine ⟨fun p => (R (u * 4 + p)).toNatClampNeg, fun p hp => ?_⟩
      obtain ⟨e, c, hc, e2⟩ := h1 p hp
      have h47 := hsz u hu
      have hcl : (R (u * 4 + p)).toNatClampNeg = c := by rw [e2, nI_clamp (by omega)]
      show R (u * 4 + p) = nI ((R (u * 4 + p)).toNatClampNeg) ∧ (R (u * 4 + p)).toNatClampNeg ≤ _ ∧ g (4 * π u + p) = nI ((R (u * 4 + p)).toNatClampNeg)
      rw [hcl]
      exact ⟨e2, hc, by rw [← e]; exact e2⟩
    -- what a child adds
    have hterm : ∀ u, u < n → chQ P v u → ∃ c, c ≤ 1001 * wS n P (fun _ => 1) u ∧ mn (R (u * 4 + s)) (lcC R u + nI 1) = nI c ∧ bsU (fun p => g (4 * π u + p)) s 4 = nI c := by
      intro u hu hq
      obtain ⟨c, hc2⟩ := hc u hu hq
      have h47 := hsz u hu
      have hb : ∀ p, p < 4 → c p ≤ 50000 := fun p hp => by have := (hc2 p hp).2.1; omega
      refine ⟨min (c s) (min (min (min (c 0) (c 1)) (c 2)) (c 3) + 1), ?_, ?_, ?_⟩
      · have := (hc2 s hs).2.1
        exact Nat.le_trans (Nat.min_le_left _ _) this
      · have e0 := (hc2 0 (by omega)).1
        have e1 := (hc2 1 (by omega)).1
        have e2 := (hc2 2 (by omega)).1
        have e3 := (hc2 3 (by omega)).1
        have b0 := hb 0 (by omega)
        have b1 := hb 1 (by omega)
        have b2 := hb 2 (by omega)
        have b3 := hb 3 (by omega)
        have bs := hb s hs
        unfold lcC
        rw [show u * 4 = u * 4 + 0 from rfl] at *
        rw [e0, e1, e2, e3, mn_nI (by omega) (by omega), mn_nI (by omega) (by omega), mn_nI (by omega) (by omega), nI_add, show R (u * 4 + 0 + s) = nI (c s) from (hc2 s hs).1, mn_nI (by omega) (by omega)]
      · exact bs_lc hs (fun p hp => ⟨(hc2 p hp).2.2, hb p hp⟩)
    have hd0 : ∃ d : Nat → Nat, ∀ u, u < n → chQ P v u → mn (R (u * 4 + s)) (lcC R u + nI 1) = nI (d u) ∧ bsU (fun p => g (4 * π u + p)) s 4 = nI (d u) ∧ d u ≤ 1001 * wS n P (fun _ => 1) u := by
      refine ⟨fun u => (mn (R (u * 4 + s)) (lcC R u + nI 1)).toNatClampNeg, fun u hu hq => ?_⟩
      obtain ⟨c, h1, h2, h3⟩ := hterm u hu hq
      have h47 := hsz u hu
      show _ = nI ((mn (R (u * 4 + s)) (lcC R u + nI 1)).toNatClampNeg) ∧ _ = nI ((mn (R (u * 4 + s)) (lcC R u + nI 1)).toNatClampNeg) ∧ (mn (R (u * 4 + s)) (lcC R u + nI 1)).toNatClampNeg ≤ _
      rw [h2, nI_clamp (by omega)]
      exact ⟨rfl, h3, h1⟩
    obtain ⟨d, hd⟩ := hd0
    obtain ⟨eI, c0, hc0, eI0⟩ := hI v s hv hs
    have hRv := hR v s hv hs
    rw [cfo_nI (c := d) n (fun u hu hq => (hd u hu hq).1), eI0, nI_add] at hRv
    have hgv := hg (π v) s (h.1 v hv).1 hs
    rw [cfo_add, ← eI] at hgv
    have hbij : cfo (chQ P v) (fun u b => b + nI (d u)) 0 n = cfo (q9 (π v)) (fun u a => a + bsU (fun p => g (4 * u + p)) s 4) 0 n := by
      refine cfo_bij h.1 ?_ ?_ ?_
      · intro u hu
        rw [hq (π v) (π u) (h.1 v hv).1 (h.1 u hu).1]
        constructor
        · intro z
          exact ⟨iso_pos h z.1 hu, (iso_ch h hP z.1 hu hv).mp z.2⟩
        · intro z
          have hu0 : 0 < u := by
            rcases Nat.eq_zero_or_pos u with y | y
            · rw [y, h.2.1] at z; exact absurd z.1 (by omega)
            · exact y
          exact ⟨hu0, (iso_ch h hP hu0 hu hv).mpr z.2⟩
      · intro u hu hqu b
        rw [(hd u hu hqu).2.1]
      · intro u w _ _ _ _ b
        exact add_sw _ _ _
    rw [← hbij, cfo_nI (c := d) n (fun u _ _ => rfl), eI0, nI_add] at hgv
    refine ⟨hRv.trans hgv.symm, _, ?_, hRv⟩
    have hsum : sumU (fun u => cI (chQ P v u) (d u) 0) n ≤ sumU (fun u => 1001 * (if 0 < u ∧ P u = v then wS n P (fun _ => 1) u else 0)) n := by
      refine sumU_le n (fun u hu => ?_)
      by_cases z : chQ P v u
      · rw [cI_t z, if_pos z]; exact (hd u hu z).2.2
      · rw [cI_f z]; exact Nat.zero_le _
    have hm : ∀ (f : Nat → Nat) m, sumU (fun u => 1001 * f u) m = 1001 * sumU f m := by
      intro f m
      induction m with
      | zero => rfl
      | succ m ih => show sumU (fun u => 1001 * f u) m + 1001 * f m = 1001 * (sumU f m + f m); rw [ih, Nat.mul_add]
    rw [hm] at hsum
    rw [wS_eq hP h0 v, Nat.mul_add]
    omega
  exact fun v hv s hs => (key v hv s hs).1

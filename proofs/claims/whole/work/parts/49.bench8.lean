/-! LineageBench: alike -/
noncomputable def smU (f : Nat → Nat) : Nat → Nat
  | 0 => 0
  | k + 1 => smU f k + f k
theorem smU_le {f : Nat → Nat} {B : Nat} (h : ∀ i, f i ≤ B) : ∀ k, smU f k ≤ B * k
  | 0 => Nat.le_refl _
  | k + 1 => by
    show smU f k + f k ≤ B * (k + 1)
    have h1 := smU_le h k
    have h2 := h k
    rw [Nat.mul_succ]
    omega
abbrev al3 (a b d : Nat) : Int32 := (bitI a ||| bitI b) ||| bitI d
noncomputable def alC1 (Q : Nat → Nat → Nat → Prop) (a b : Nat) (k : Nat) : Nat := cntU (fun i => Q a b (b + 1 + i)) k
noncomputable def alC2 (Q : Nat → Nat → Nat → Prop) (a : Nat) (k : Nat) : Nat := smU (fun i => alC1 Q a (a + 1 + i) (11 - (a + 1 + i))) k
noncomputable def alC3 (Q : Nat → Nat → Nat → Prop) (k : Nat) : Nat := smU (fun a => alC2 Q a (11 - a)) k
theorem alC1_le (Q : Nat → Nat → Nat → Prop) (a b k : Nat) : alC1 Q a b k ≤ k := cntU_le k
theorem alC2_le (Q : Nat → Nat → Nat → Prop) (a k : Nat) : alC2 Q a k ≤ 11 * k := smU_le (fun i => Nat.le_trans (alC1_le Q a _ _) (by omega)) k
theorem alC3_le (Q : Nat → Nat → Nat → Prop) (k : Nat) : alC3 Q k ≤ 121 * k := smU_le (fun a => Nat.le_trans (alC2_le Q a _) (by omega)) k
abbrev alW (σ : St) (j a b d : Nat) : Int32 := wnU (tC σ j) (bitI a) (bitI b) (bitI d) (nn σ j) 0
def alQ (σ : St) (j t a b d : Nat) : Prop := (aK σ j &&& aK σ t) &&& al3 a b d = al3 a b d ∧ alW σ j a b d = alW σ t a b d
set_option maxRecDepth 100000 in
set_option maxHeartbeats 4000000 in
theorem m_X10_alike (l : Launch) (hst : l.stackTraces = false) (w : Wd) (sA : Nat → Nat) (σ : St) (hT : tOk σ) (x y : Int32) : MXI l yX10_alike wsX10_alike 8 6 w sA [.ref (w.1 (31)), .int (x), .int (y)] (σ) (fun r σ9 => ∃ i, i < 8 ∧ x = nI i ∧ okP σ i ∧ ∃ k, k < 8 ∧ y = nI k ∧ okP σ k ∧ σ9 = σ ∧ r = nI (alC3 (alQ σ (tS σ i) (tS σ k)) 12)) (fun E σ9 => σ9 = σ ∧ t2X σ x y E) := by
  refine MXI_of hst (cc := cX10_alike) (maxL := 11) (ret := .int) (by decide) rfl (Nat.le_of_ble_eq_true rfl) ?_
  intro p e s m args below meth c A X hr hlk
  have X : CX p l s m args c w sA A cX10_alike RX10 11 wsX10_alike := X
  have C := X.1
  refine g_iload_n (pc9 := 1) C rfl 1 dX10_alike_0 rfl rfl ?_
  refine x_callSv (rest := []) X hlk (pc9 := 4) rfl [.int (x)] (nn := 1) rfl dX10_alike_1 (m_X10_needShelf l hst w sA σ x) gX10_alike_X10_needShelf rfl (by decide +kernel) ⟨by decide, by decide⟩ rfl (Nat.le_of_ble_eq_true rfl) ⟨by decide, by decide⟩ ⟨by decide, by decide⟩ (fun E σ9 h => ⟨h.1, Or.inl ⟨h.2.1, Or.inl h.2.2⟩⟩) (fun σ_1 q_1 => ?_)
  obtain ⟨qs_1, i, hb_i, hx_1⟩ := q_1
  rw [qs_1]
  clear qs_1
  subst hx_1
  refine g_iload_n (pc9 := 5) C rfl 2 dX10_alike_4 rfl rfl ?_
  refine x_callSv (rest := []) X hlk (pc9 := 8) rfl [.int (y)] (nn := 1) rfl dX10_alike_5 (m_X10_needShelf l hst w sA σ y) gX10_alike_X10_needShelf rfl (by decide +kernel) ⟨by decide, by decide⟩ rfl (Nat.le_of_ble_eq_true rfl) ⟨by decide, by decide⟩ ⟨by decide, by decide⟩ (fun E σ9 h => ⟨h.1, Or.inl ⟨h.2.1, Or.inr h.2.2⟩⟩) (fun σ_2 q_2 => ?_)
  obtain ⟨qs_2, k, hb_k, hx_2⟩ := q_2
  rw [qs_2]
  clear qs_2
  subst hx_2
  refine g_aload_n (pc9 := 9) C rfl 0 dX10_alike_8 rfl rfl ?_
  refine g_iload_n (pc9 := 10) C rfl 1 dX10_alike_9 rfl rfl ?_
  refine x_callVr (rest := []) X hlk (pc9 := 13) rfl (31) [.int (nI (i))] (nn := 1) rfl dX10_alike_10 (m_X10_plainTreeOn l hst w sA σ i hb_i (hT.s hb_i)) gX10_alike_X10_plainTreeOn (by decide) (ce_31 w (σ)) rfl rfl rfl (by decide +kernel) ⟨by decide, by decide⟩ rfl (Nat.le_of_ble_eq_true rfl) ⟨by decide, by decide⟩ ⟨by decide, by decide⟩ (fun E σ9 h => ⟨h.1, Or.inr ⟨h.2.1, ⟨i, hb_i, rfl⟩, ⟨k, hb_k, rfl⟩, Or.inl ⟨i, hb_i, rfl, h.2.2⟩⟩⟩) (fun r_3 σ_3 q_3 => ?_)
  obtain ⟨qs_3, qr_3, hnz_i⟩ := q_3
  replace qs_3 : σ_3 = σ := qs_3
  replace qr_3 : r_3 = 64 + 5 * tS σ i := qr_3
  rw [qs_3, qr_3]
  clear qs_3 qr_3
  have ht_i := hT.s hb_i
  refine g_astore_n (pc9 := 14) C rfl [(3, .ref (w.1 (64 + 5 * (tS σ i)))), (0, .ref (w.1 (31))), (1, .int (nI (i))), (2, .int (nI (k)))] dX10_alike_13 rfl (by decide) rfl ?_
  refine g_aload_n (pc9 := 15) C rfl 1 dX10_alike_14 rfl rfl ?_
  refine g_iload_n (pc9 := 16) C rfl 3 dX10_alike_15 rfl rfl ?_
  refine x_callVr (rest := []) X hlk (pc9 := 19) rfl (31) [.int (nI (k))] (nn := 1) rfl dX10_alike_16 (m_X10_plainTreeOn l hst w sA σ k hb_k (hT.s hb_k)) gX10_alike_X10_plainTreeOn (by decide) (ce_31 w (σ)) rfl rfl rfl (by decide +kernel) ⟨by decide, by decide⟩ rfl (Nat.le_of_ble_eq_true rfl) ⟨by decide, by decide⟩ ⟨by decide, by decide⟩ (fun E σ9 h => ⟨h.1, Or.inr ⟨h.2.1, ⟨i, hb_i, rfl⟩, ⟨k, hb_k, rfl⟩, Or.inr ⟨k, hb_k, rfl, h.2.2⟩⟩⟩) (fun r_4 σ_4 q_4 => ?_)
  obtain ⟨qs_4, qr_4, hnz_k⟩ := q_4
  replace qs_4 : σ_4 = σ := qs_4
  replace qr_4 : r_4 = 64 + 5 * tS σ k := qr_4
  rw [qs_4, qr_4]
  clear qs_4 qr_4
  have ht_k := hT.s hb_k
  refine g_astore (pc9 := 21) C rfl [(4, .ref (w.1 (64 + 5 * (tS σ k)))), (3, .ref (w.1 (64 + 5 * (tS σ i)))), (0, .ref (w.1 (31))), (1, .int (nI (i))), (2, .int (nI (k)))] dX10_alike_19 (by decide) rfl ?_
  refine g_aload_n (pc9 := 22) C rfl 1 dX10_alike_21 rfl rfl ?_
  refine g_callVi (nn := 0) (rest := []) (pc9 := 25) C rfl (64 + 5 * (tS σ i)) [] rfl dX10_alike_22 (m_X7_allKinds l w σ (tS σ i) ht_i) gX10_alike_X7_allKinds (by omega) (ce_tree w (σ) ((tS σ i))) rfl rfl rfl rfl rfl (by decide +kernel) ⟨by decide, by decide⟩ rfl (Nat.le_of_ble_eq_true rfl) ⟨by decide, by decide⟩ (fun r_5 σ_5 q_5 => ?_)
  obtain ⟨qs_5, qr_5⟩ := q_5
  rw [qs_5, qr_5]
  clear qs_5 qr_5
  refine g_aload (pc9 := 27) C rfl 0 dX10_alike_25 rfl ?_
  refine g_callVi (nn := 0) (rest := [.int (aK σ (tS σ i))]) (pc9 := 30) C rfl (64 + 5 * (tS σ k)) [] rfl dX10_alike_27 (m_X7_allKinds l w σ (tS σ k) ht_k) gX10_alike_X7_allKinds (by omega) (ce_tree w (σ) ((tS σ k))) rfl rfl rfl rfl rfl (by decide +kernel) ⟨by decide, by decide⟩ rfl (Nat.le_of_ble_eq_true rfl) ⟨by decide, by decide⟩ (fun r_6 σ_6 q_6 => ?_)
  obtain ⟨qs_6, qr_6⟩ := q_6
  rw [qs_6, qr_6]
  clear qs_6 qr_6
  refine g_iand (pc9 := 31) C rfl dX10_alike_30 ?_
  refine g_istore (pc9 := 33) C rfl [(5, .int ((aK σ (tS σ i)) &&& (aK σ (tS σ k)))), (4, .ref (w.1 (64 + 5 * (tS σ k)))), (3, .ref (w.1 (64 + 5 * (tS σ i)))), (0, .ref (w.1 (31))), (1, .int (nI (i))), (2, .int (nI (k)))] dX10_alike_31 (by decide) rfl ?_
  refine g_iconst (pc9 := 34) C rfl (nI (0)) dX10_alike_33 rfl ?_
  refine g_istore (pc9 := 36) C rfl [(6, .int (nI (0))), (5, .int ((aK σ (tS σ i)) &&& (aK σ (tS σ k)))), (4, .ref (w.1 (64 + 5 * (tS σ k)))), (3, .ref (w.1 (64 + 5 * (tS σ i)))), (0, .ref (w.1 (31))), (1, .int (nI (i))), (2, .int (nI (k)))] dX10_alike_34 (by decide) rfl ?_
  refine g_iconst (pc9 := 37) C rfl (nI (0)) dX10_alike_36 rfl ?_
  refine g_istore (pc9 := 39) C rfl [(7, .int (nI (0))), (6, .int (nI (0))), (5, .int ((aK σ (tS σ i)) &&& (aK σ (tS σ k)))), (4, .ref (w.1 (64 + 5 * (tS σ k)))), (3, .ref (w.1 (64 + 5 * (tS σ i)))), (0, .ref (w.1 (31))), (1, .int (nI (i))), (2, .int (nI (k)))] dX10_alike_37 (by decide) rfl ?_
  refine g_sub [0, 1, 5, 6, 7, 4, 3, 2] [(7, .int (nI (0))), (6, .int (nI (0))), (0, .ref (w.1 (31))), (1, .int (nI (i))), (2, .int (nI (k))), (3, .ref (w.1 (64 + 5 * (tS σ i)))), (4, .ref (w.1 (64 + 5 * (tS σ k)))), (5, .int ((aK σ (tS σ i)) &&& (aK σ (tS σ k))))] rfl ?_
  refine g_lp1 (α := Nat) (fun a => a ≤ 12) (fun a => 12 - a) (fun a => G p l e _ s m args below meth c _ w A _ (σ) _ _ 39 [(7, .int (nI (a))), (6, .int (nI (alC3 (alQ σ (tS σ i) (tS σ k)) a))), (0, .ref (w.1 (31))), (1, .int (nI (i))), (2, .int (nI (k))), (3, .ref (w.1 (64 + 5 * (tS σ i)))), (4, .ref (w.1 (64 + 5 * (tS σ k)))), (5, .int ((aK σ (tS σ i)) &&& (aK σ (tS σ k))))] []) (fun a hI ih => ?_) (0) (Nat.zero_le _)
  obtain ha := hI
  have hm1 := alC3_le (alQ σ (tS σ i) (tS σ k)) a
  refine g_iload (pc9 := 41) C rfl 0 dX10_alike_39 rfl ?_
  refine g_bipush (pc9 := 43) C rfl (nI (12)) dX10_alike_41 rfl ?_
  refine g_icmp_ge (pc9 := 46) C rfl 155 dX10_alike_43 rfl (fun c_7 => ?_) (fun c_7 => ?_)
  · replace c_7 := (nI_leI (by omega) (by omega)).mp c_7
    refine g_iload (pc9 := 157) C rfl 1 dX10_alike_155 rfl ?_
    exact g_xi (by decide) (by decide) (g_ireturn C hr hlk dX10_alike_157 ⟨i, hb_i, rfl, hnz_i, k, hb_k, rfl, hnz_k, rfl, by rw [show a = 12 by omega]⟩)
  · replace c_7 := (not_congr (nI_leI (by omega) (by omega))).mp c_7
    refine g_iload (pc9 := 48) C rfl 0 dX10_alike_46 rfl ?_
    refine g_iconst (pc9 := 49) C rfl (nI (1)) dX10_alike_48 rfl ?_
    refine g_iaddN (pc9 := 50) C rfl dX10_alike_49 ?_
    refine g_istore (pc9 := 52) C rfl [(8, .int (nI (a + 1))), (7, .int (nI (a))), (6, .int (nI (alC3 (alQ σ (tS σ i) (tS σ k)) a))), (0, .ref (w.1 (31))), (1, .int (nI (i))), (2, .int (nI (k))), (3, .ref (w.1 (64 + 5 * (tS σ i)))), (4, .ref (w.1 (64 + 5 * (tS σ k)))), (5, .int ((aK σ (tS σ i)) &&& (aK σ (tS σ k))))] dX10_alike_50 (by decide) rfl ?_
    refine g_sub [0, 1, 2, 3, 4, 5, 6, 7, 8] [(8, .int (nI (a + 1))), (7, .int (nI (a))), (6, .int (nI (alC3 (alQ σ (tS σ i) (tS σ k)) a))), (0, .ref (w.1 (31))), (1, .int (nI (i))), (2, .int (nI (k))), (3, .ref (w.1 (64 + 5 * (tS σ i)))), (4, .ref (w.1 (64 + 5 * (tS σ k)))), (5, .int ((aK σ (tS σ i)) &&& (aK σ (tS σ k))))] rfl ?_
    refine g_lp1 (α := Nat) (fun u => u ≤ 11 - a) (fun u => 12 - u) (fun u => G p l e _ s m args below meth c _ w A _ (σ) _ _ 52 [(8, .int (nI (a + 1 + u))), (7, .int (nI (a))), (6, .int (nI (alC3 (alQ σ (tS σ i) (tS σ k)) a + alC2 (alQ σ (tS σ i) (tS σ k)) a u))), (0, .ref (w.1 (31))), (1, .int (nI (i))), (2, .int (nI (k))), (3, .ref (w.1 (64 + 5 * (tS σ i)))), (4, .ref (w.1 (64 + 5 * (tS σ k)))), (5, .int ((aK σ (tS σ i)) &&& (aK σ (tS σ k))))] []) (fun u hI ih2 => ?_) (0) (Nat.zero_le _)
    obtain hu := hI
    have hm2 := alC2_le (alQ σ (tS σ i) (tS σ k)) a u
    refine g_iload (pc9 := 54) C rfl 0 dX10_alike_52 rfl ?_
    refine g_bipush (pc9 := 56) C rfl (nI (12)) dX10_alike_54 rfl ?_
    refine g_icmp_ge (pc9 := 59) C rfl 149 dX10_alike_56 rfl (fun c_8 => ?_) (fun c_8 => ?_)
    · replace c_8 := (nI_leI (by omega) (by omega)).mp c_8
      have he : u = 11 - a := by omega
      refine g_iinc (pc9 := 152) C rfl [(7, .int (nI (a + 1))), (8, .int (nI (a + 1 + u))), (6, .int (nI (alC3 (alQ σ (tS σ i) (tS σ k)) a + alC2 (alQ σ (tS σ i) (tS σ k)) a u))), (0, .ref (w.1 (31))), (1, .int (nI (i))), (2, .int (nI (k))), (3, .ref (w.1 (64 + 5 * (tS σ i)))), (4, .ref (w.1 (64 + 5 * (tS σ k)))), (5, .int ((aK σ (tS σ i)) &&& (aK σ (tS σ k))))] 1 (nI (a + 1)) dX10_alike_149 rfl (nI_1 (a)) (by decide) rfl ?_
      refine g_goto C 39 dX10_alike_152 rfl ?_
      refine g_sub [0, 2, 3, 4, 5, 6, 7, 8] [(7, .int (nI (a + 1))), (6, .int (nI (alC3 (alQ σ (tS σ i) (tS σ k)) a + alC2 (alQ σ (tS σ i) (tS σ k)) a u))), (0, .ref (w.1 (31))), (1, .int (nI (i))), (2, .int (nI (k))), (3, .ref (w.1 (64 + 5 * (tS σ i)))), (4, .ref (w.1 (64 + 5 * (tS σ k)))), (5, .int ((aK σ (tS σ i)) &&& (aK σ (tS σ k))))] rfl ?_
      rw [show alC3 (alQ σ (tS σ i) (tS σ k)) a + alC2 (alQ σ (tS σ i) (tS σ k)) a u = alC3 (alQ σ (tS σ i) (tS σ k)) (a + 1) from by rw [he]; rfl]
      exact ih (a + 1) (by omega) (by omega)
    · replace c_8 := (not_congr (nI_leI (by omega) (by omega))).mp c_8
      refine g_iload (pc9 := 61) C rfl 0 dX10_alike_59 rfl ?_
      refine g_iconst (pc9 := 62) C rfl (nI (1)) dX10_alike_61 rfl ?_
      refine g_iaddN (pc9 := 63) C rfl dX10_alike_62 ?_
      refine g_istore (pc9 := 65) C rfl [(9, .int (nI ((a + 1 + u) + 1))), (8, .int (nI (a + 1 + u))), (7, .int (nI (a))), (6, .int (nI (alC3 (alQ σ (tS σ i) (tS σ k)) a + alC2 (alQ σ (tS σ i) (tS σ k)) a u))), (0, .ref (w.1 (31))), (1, .int (nI (i))), (2, .int (nI (k))), (3, .ref (w.1 (64 + 5 * (tS σ i)))), (4, .ref (w.1 (64 + 5 * (tS σ k)))), (5, .int ((aK σ (tS σ i)) &&& (aK σ (tS σ k))))] dX10_alike_63 (by decide) rfl ?_
      refine g_sub [0, 1, 2, 3, 4, 5, 6, 7, 8, 9] [(9, .int (nI ((a + 1 + u) + 1))), (8, .int (nI (a + 1 + u))), (7, .int (nI (a))), (6, .int (nI (alC3 (alQ σ (tS σ i) (tS σ k)) a + alC2 (alQ σ (tS σ i) (tS σ k)) a u))), (0, .ref (w.1 (31))), (1, .int (nI (i))), (2, .int (nI (k))), (3, .ref (w.1 (64 + 5 * (tS σ i)))), (4, .ref (w.1 (64 + 5 * (tS σ k)))), (5, .int ((aK σ (tS σ i)) &&& (aK σ (tS σ k))))] rfl ?_
      refine g_lp1 (α := Nat) (fun q => q ≤ 11 - (a + 1 + u)) (fun q => 12 - q) (fun q => G p l e _ s m args below meth c _ w A _ (σ) _ _ 65 [(9, .int (nI (a + 1 + u + 1 + q))), (8, .int (nI (a + 1 + u))), (7, .int (nI (a))), (6, .int (nI (alC3 (alQ σ (tS σ i) (tS σ k)) a + alC2 (alQ σ (tS σ i) (tS σ k)) a u + alC1 (alQ σ (tS σ i) (tS σ k)) a (a + 1 + u) q))), (0, .ref (w.1 (31))), (1, .int (nI (i))), (2, .int (nI (k))), (3, .ref (w.1 (64 + 5 * (tS σ i)))), (4, .ref (w.1 (64 + 5 * (tS σ k)))), (5, .int ((aK σ (tS σ i)) &&& (aK σ (tS σ k))))] []) (fun q hI ih3 => ?_) (0) (Nat.zero_le _)
      obtain hq := hI
      have hm3 := alC1_le (alQ σ (tS σ i) (tS σ k)) a (a + 1 + u) q
      refine g_iload (pc9 := 67) C rfl 0 dX10_alike_65 rfl ?_
      refine g_bipush (pc9 := 69) C rfl (nI (12)) dX10_alike_67 rfl ?_
      refine g_icmp_ge (pc9 := 72) C rfl 143 dX10_alike_69 rfl (fun c_9 => ?_) (fun c_9 => ?_)
      · replace c_9 := (nI_leI (by omega) (by omega)).mp c_9
        have he : q = 11 - (a + 1 + u) := by omega
        refine g_iinc (pc9 := 146) C rfl [(8, .int (nI (a + 1 + u + 1))), (9, .int (nI (a + 1 + u + 1 + q))), (7, .int (nI (a))), (6, .int (nI (alC3 (alQ σ (tS σ i) (tS σ k)) a + alC2 (alQ σ (tS σ i) (tS σ k)) a u + alC1 (alQ σ (tS σ i) (tS σ k)) a (a + 1 + u) q))), (0, .ref (w.1 (31))), (1, .int (nI (i))), (2, .int (nI (k))), (3, .ref (w.1 (64 + 5 * (tS σ i)))), (4, .ref (w.1 (64 + 5 * (tS σ k)))), (5, .int ((aK σ (tS σ i)) &&& (aK σ (tS σ k))))] 1 (nI (a + 1 + u + 1)) dX10_alike_143 rfl (nI_1 (a + 1 + u)) (by decide) rfl ?_
        refine g_goto C 52 dX10_alike_146 rfl ?_
        refine g_sub [0, 2, 3, 4, 5, 6, 7, 8, 9] [(8, .int (nI (a + 1 + u + 1))), (7, .int (nI (a))), (6, .int (nI (alC3 (alQ σ (tS σ i) (tS σ k)) a + alC2 (alQ σ (tS σ i) (tS σ k)) a u + alC1 (alQ σ (tS σ i) (tS σ k)) a (a + 1 + u) q))), (0, .ref (w.1 (31))), (1, .int (nI (i))), (2, .int (nI (k))), (3, .ref (w.1 (64 + 5 * (tS σ i)))), (4, .ref (w.1 (64 + 5 * (tS σ k)))), (5, .int ((aK σ (tS σ i)) &&& (aK σ (tS σ k))))] rfl ?_
        rw [show alC3 (alQ σ (tS σ i) (tS σ k)) a + alC2 (alQ σ (tS σ i) (tS σ k)) a u + alC1 (alQ σ (tS σ i) (tS σ k)) a (a + 1 + u) q = alC3 (alQ σ (tS σ i) (tS σ k)) a + alC2 (alQ σ (tS σ i) (tS σ k)) a (u + 1) from by rw [he]; exact Nat.add_assoc _ _ _]
        exact ih2 (u + 1) (by omega) (by omega)
      · replace c_9 := (not_congr (nI_leI (by omega) (by omega))).mp c_9
        refine g_iconst (pc9 := 73) C rfl (nI (1)) dX10_alike_72 rfl ?_
        refine g_iload (pc9 := 75) C rfl 2 dX10_alike_73 rfl ?_
        refine g_ishl (pc9 := 76) C rfl dX10_alike_75 ?_
        refine g_iconst (pc9 := 77) C rfl (nI (1)) dX10_alike_76 rfl ?_
        refine g_iload (pc9 := 79) C rfl 1 dX10_alike_77 rfl ?_
        refine g_ishl (pc9 := 80) C rfl dX10_alike_79 ?_
        refine g_ior (pc9 := 81) C rfl dX10_alike_80 ?_
        refine g_iconst (pc9 := 82) C rfl (nI (1)) dX10_alike_81 rfl ?_
        refine g_iload (pc9 := 84) C rfl 0 dX10_alike_82 rfl ?_
        refine g_ishl (pc9 := 85) C rfl dX10_alike_84 ?_
        refine g_ior (pc9 := 86) C rfl dX10_alike_85 ?_
        refine g_istore (pc9 := 88) C rfl [(10, .int ((((nI (1)) <<< ((nI (a)) &&& 31)) ||| ((nI (1)) <<< ((nI (a + 1 + u)) &&& 31))) ||| ((nI (1)) <<< ((nI (a + 1 + u + 1 + q)) &&& 31)))), (9, .int (nI (a + 1 + u + 1 + q))), (8, .int (nI (a + 1 + u))), (7, .int (nI (a))), (6, .int (nI (alC3 (alQ σ (tS σ i) (tS σ k)) a + alC2 (alQ σ (tS σ i) (tS σ k)) a u + alC1 (alQ σ (tS σ i) (tS σ k)) a (a + 1 + u) q))), (0, .ref (w.1 (31))), (1, .int (nI (i))), (2, .int (nI (k))), (3, .ref (w.1 (64 + 5 * (tS σ i)))), (4, .ref (w.1 (64 + 5 * (tS σ k)))), (5, .int ((aK σ (tS σ i)) &&& (aK σ (tS σ k))))] dX10_alike_86 (by decide) rfl ?_
        refine g_iload (pc9 := 90) C rfl 10 dX10_alike_88 rfl ?_
        refine g_iload (pc9 := 92) C rfl 0 dX10_alike_90 rfl ?_
        refine g_iand (pc9 := 93) C rfl dX10_alike_92 ?_
        refine g_iload (pc9 := 95) C rfl 0 dX10_alike_93 rfl ?_
        refine g_icmp_ne (pc9 := 98) C rfl 137 dX10_alike_95 rfl (fun c_10 => ?_) (fun c_10 => ?_)
        · have hs : alC1 (alQ σ (tS σ i) (tS σ k)) a (a + 1 + u) (q + 1) = alC1 (alQ σ (tS σ i) (tS σ k)) a (a + 1 + u) q := cntU_n (fun h => c_10 h.1)
          refine g_iinc (pc9 := 140) C rfl [(9, .int (nI (a + 1 + u + 1 + q + 1))), (10, .int ((((nI (1)) <<< ((nI (a)) &&& 31)) ||| ((nI (1)) <<< ((nI (a + 1 + u)) &&& 31))) ||| ((nI (1)) <<< ((nI (a + 1 + u + 1 + q)) &&& 31)))), (8, .int (nI (a + 1 + u))), (7, .int (nI (a))), (6, .int (nI (alC3 (alQ σ (tS σ i) (tS σ k)) a + alC2 (alQ σ (tS σ i) (tS σ k)) a u + alC1 (alQ σ (tS σ i) (tS σ k)) a (a + 1 + u) q))), (0, .ref (w.1 (31))), (1, .int (nI (i))), (2, .int (nI (k))), (3, .ref (w.1 (64 + 5 * (tS σ i)))), (4, .ref (w.1 (64 + 5 * (tS σ k)))), (5, .int ((aK σ (tS σ i)) &&& (aK σ (tS σ k))))] 1 (nI (a + 1 + u + 1 + q + 1)) dX10_alike_137 rfl (nI_1 (a + 1 + u + 1 + q)) (by decide) rfl ?_
          refine g_goto C 65 dX10_alike_140 rfl ?_
          refine g_sub [0, 2, 3, 4, 5, 6, 7, 8, 9, 10] [(9, .int (nI (a + 1 + u + 1 + q + 1))), (8, .int (nI (a + 1 + u))), (7, .int (nI (a))), (6, .int (nI (alC3 (alQ σ (tS σ i) (tS σ k)) a + alC2 (alQ σ (tS σ i) (tS σ k)) a u + alC1 (alQ σ (tS σ i) (tS σ k)) a (a + 1 + u) q))), (0, .ref (w.1 (31))), (1, .int (nI (i))), (2, .int (nI (k))), (3, .ref (w.1 (64 + 5 * (tS σ i)))), (4, .ref (w.1 (64 + 5 * (tS σ k)))), (5, .int ((aK σ (tS σ i)) &&& (aK σ (tS σ k))))] rfl ?_
          rw [show alC3 (alQ σ (tS σ i) (tS σ k)) a + alC2 (alQ σ (tS σ i) (tS σ k)) a u + alC1 (alQ σ (tS σ i) (tS σ k)) a (a + 1 + u) q = alC3 (alQ σ (tS σ i) (tS σ k)) a + alC2 (alQ σ (tS σ i) (tS σ k)) a u + alC1 (alQ σ (tS σ i) (tS σ k)) a (a + 1 + u) (q + 1) from by omega]
          exact ih3 (q + 1) (by omega) (by omega)
        · have hth := Classical.not_not.mp (fun h => h c_10)
          refine g_aload_n (pc9 := 99) C rfl 8 dX10_alike_98 rfl rfl ?_
          refine g_iconst (pc9 := 100) C rfl (nI (1)) dX10_alike_99 rfl ?_
          refine g_iload (pc9 := 102) C rfl 3 dX10_alike_100 rfl ?_
          refine g_ishl (pc9 := 103) C rfl dX10_alike_102 ?_
          refine g_iconst (pc9 := 104) C rfl (nI (1)) dX10_alike_103 rfl ?_
          refine g_iload (pc9 := 106) C rfl 2 dX10_alike_104 rfl ?_
          refine g_ishl (pc9 := 107) C rfl dX10_alike_106 ?_
          refine g_iconst (pc9 := 108) C rfl (nI (1)) dX10_alike_107 rfl ?_
          refine g_iload (pc9 := 110) C rfl 1 dX10_alike_108 rfl ?_
          refine g_ishl (pc9 := 111) C rfl dX10_alike_110 ?_
          refine g_callVi (nn := 3) (rest := []) (pc9 := 114) C rfl (64 + 5 * (tS σ i)) [.int ((nI (1)) <<< ((nI (a)) &&& 31)), .int ((nI (1)) <<< ((nI (a + 1 + u)) &&& 31)), .int ((nI (1)) <<< ((nI (a + 1 + u + 1 + q)) &&& 31))] rfl dX10_alike_111 (m_X7_whoIsNearer l w σ (tS σ i) ht_i (nn σ (tS σ i)) (hT.2 _ ht_i).1 (hT.2 _ ht_i).2.1 ((nI (1)) <<< ((nI (a)) &&& 31)) ((nI (1)) <<< ((nI (a + 1 + u)) &&& 31)) ((nI (1)) <<< ((nI (a + 1 + u + 1 + q)) &&& 31))) gX10_alike_X7_whoIsNearer (by omega) (ce_tree w (σ) ((tS σ i))) rfl rfl rfl rfl rfl (by decide +kernel) ⟨by decide, by decide⟩ rfl (Nat.le_of_ble_eq_true rfl) ⟨by decide, by decide⟩ (fun r_11 σ_11 q_11 => ?_)
          obtain ⟨qs_11, qr_11⟩ := q_11
          rw [qs_11, qr_11]
          clear qs_11 qr_11
          refine g_aload (pc9 := 116) C rfl 9 dX10_alike_114 rfl ?_
          refine g_iconst (pc9 := 117) C rfl (nI (1)) dX10_alike_116 rfl ?_
          refine g_iload (pc9 := 119) C rfl 3 dX10_alike_117 rfl ?_
          refine g_ishl (pc9 := 120) C rfl dX10_alike_119 ?_
          refine g_iconst (pc9 := 121) C rfl (nI (1)) dX10_alike_120 rfl ?_
          refine g_iload (pc9 := 123) C rfl 2 dX10_alike_121 rfl ?_
          refine g_ishl (pc9 := 124) C rfl dX10_alike_123 ?_
          refine g_iconst (pc9 := 125) C rfl (nI (1)) dX10_alike_124 rfl ?_
          refine g_iload (pc9 := 127) C rfl 1 dX10_alike_125 rfl ?_
          refine g_ishl (pc9 := 128) C rfl dX10_alike_127 ?_
          refine g_callVi (nn := 3) (rest := [.int (alW σ (tS σ i) a (a + 1 + u) (a + 1 + u + 1 + q))]) (pc9 := 131) C rfl (64 + 5 * (tS σ k)) [.int ((nI (1)) <<< ((nI (a)) &&& 31)), .int ((nI (1)) <<< ((nI (a + 1 + u)) &&& 31)), .int ((nI (1)) <<< ((nI (a + 1 + u + 1 + q)) &&& 31))] rfl dX10_alike_128 (m_X7_whoIsNearer l w σ (tS σ k) ht_k (nn σ (tS σ k)) (hT.2 _ ht_k).1 (hT.2 _ ht_k).2.1 ((nI (1)) <<< ((nI (a)) &&& 31)) ((nI (1)) <<< ((nI (a + 1 + u)) &&& 31)) ((nI (1)) <<< ((nI (a + 1 + u + 1 + q)) &&& 31))) gX10_alike_X7_whoIsNearer (by omega) (ce_tree w (σ) ((tS σ k))) rfl rfl rfl rfl rfl (by decide +kernel) ⟨by decide, by decide⟩ rfl (Nat.le_of_ble_eq_true rfl) ⟨by decide, by decide⟩ (fun r_12 σ_12 q_12 => ?_)
          obtain ⟨qs_12, qr_12⟩ := q_12
          rw [qs_12, qr_12]
          clear qs_12 qr_12
          refine g_icmp_ne (pc9 := 134) C rfl 137 dX10_alike_131 rfl (fun c_13 => ?_) (fun c_13 => ?_)
          · have hs : alC1 (alQ σ (tS σ i) (tS σ k)) a (a + 1 + u) (q + 1) = alC1 (alQ σ (tS σ i) (tS σ k)) a (a + 1 + u) q := cntU_n (fun h => c_13 h.2)
            refine g_iinc (pc9 := 140) C rfl [(9, .int (nI (a + 1 + u + 1 + q + 1))), (10, .int ((((nI (1)) <<< ((nI (a)) &&& 31)) ||| ((nI (1)) <<< ((nI (a + 1 + u)) &&& 31))) ||| ((nI (1)) <<< ((nI (a + 1 + u + 1 + q)) &&& 31)))), (8, .int (nI (a + 1 + u))), (7, .int (nI (a))), (6, .int (nI (alC3 (alQ σ (tS σ i) (tS σ k)) a + alC2 (alQ σ (tS σ i) (tS σ k)) a u + alC1 (alQ σ (tS σ i) (tS σ k)) a (a + 1 + u) q))), (0, .ref (w.1 (31))), (1, .int (nI (i))), (2, .int (nI (k))), (3, .ref (w.1 (64 + 5 * (tS σ i)))), (4, .ref (w.1 (64 + 5 * (tS σ k)))), (5, .int ((aK σ (tS σ i)) &&& (aK σ (tS σ k))))] 1 (nI (a + 1 + u + 1 + q + 1)) dX10_alike_137 rfl (nI_1 (a + 1 + u + 1 + q)) (by decide) rfl ?_
            refine g_goto C 65 dX10_alike_140 rfl ?_
            refine g_sub [0, 2, 3, 4, 5, 6, 7, 8, 9, 10] [(9, .int (nI (a + 1 + u + 1 + q + 1))), (8, .int (nI (a + 1 + u))), (7, .int (nI (a))), (6, .int (nI (alC3 (alQ σ (tS σ i) (tS σ k)) a + alC2 (alQ σ (tS σ i) (tS σ k)) a u + alC1 (alQ σ (tS σ i) (tS σ k)) a (a + 1 + u) q))), (0, .ref (w.1 (31))), (1, .int (nI (i))), (2, .int (nI (k))), (3, .ref (w.1 (64 + 5 * (tS σ i)))), (4, .ref (w.1 (64 + 5 * (tS σ k)))), (5, .int ((aK σ (tS σ i)) &&& (aK σ (tS σ k))))] rfl ?_
            rw [show alC3 (alQ σ (tS σ i) (tS σ k)) a + alC2 (alQ σ (tS σ i) (tS σ k)) a u + alC1 (alQ σ (tS σ i) (tS σ k)) a (a + 1 + u) q = alC3 (alQ σ (tS σ i) (tS σ k)) a + alC2 (alQ σ (tS σ i) (tS σ k)) a u + alC1 (alQ σ (tS σ i) (tS σ k)) a (a + 1 + u) (q + 1) from by omega]
            exact ih3 (q + 1) (by omega) (by omega)
          · have hs : alC1 (alQ σ (tS σ i) (tS σ k)) a (a + 1 + u) (q + 1) = alC1 (alQ σ (tS σ i) (tS σ k)) a (a + 1 + u) q + 1 := cntU_y ⟨hth, c_13⟩
            refine g_iinc (pc9 := 137) C rfl [(6, .int (nI (alC3 (alQ σ (tS σ i) (tS σ k)) a + alC2 (alQ σ (tS σ i) (tS σ k)) a u + alC1 (alQ σ (tS σ i) (tS σ k)) a (a + 1 + u) q + 1))), (10, .int ((((nI (1)) <<< ((nI (a)) &&& 31)) ||| ((nI (1)) <<< ((nI (a + 1 + u)) &&& 31))) ||| ((nI (1)) <<< ((nI (a + 1 + u + 1 + q)) &&& 31)))), (9, .int (nI (a + 1 + u + 1 + q))), (8, .int (nI (a + 1 + u))), (7, .int (nI (a))), (0, .ref (w.1 (31))), (1, .int (nI (i))), (2, .int (nI (k))), (3, .ref (w.1 (64 + 5 * (tS σ i)))), (4, .ref (w.1 (64 + 5 * (tS σ k)))), (5, .int ((aK σ (tS σ i)) &&& (aK σ (tS σ k))))] 4 (nI (alC3 (alQ σ (tS σ i) (tS σ k)) a + alC2 (alQ σ (tS σ i) (tS σ k)) a u + alC1 (alQ σ (tS σ i) (tS σ k)) a (a + 1 + u) q + 1)) dX10_alike_134 rfl (nI_1 (alC3 (alQ σ (tS σ i) (tS σ k)) a + alC2 (alQ σ (tS σ i) (tS σ k)) a u + alC1 (alQ σ (tS σ i) (tS σ k)) a (a + 1 + u) q)) (by decide) rfl ?_
            refine g_iinc (pc9 := 140) C rfl [(9, .int (nI (a + 1 + u + 1 + q + 1))), (6, .int (nI (alC3 (alQ σ (tS σ i) (tS σ k)) a + alC2 (alQ σ (tS σ i) (tS σ k)) a u + alC1 (alQ σ (tS σ i) (tS σ k)) a (a + 1 + u) q + 1))), (10, .int ((((nI (1)) <<< ((nI (a)) &&& 31)) ||| ((nI (1)) <<< ((nI (a + 1 + u)) &&& 31))) ||| ((nI (1)) <<< ((nI (a + 1 + u + 1 + q)) &&& 31)))), (8, .int (nI (a + 1 + u))), (7, .int (nI (a))), (0, .ref (w.1 (31))), (1, .int (nI (i))), (2, .int (nI (k))), (3, .ref (w.1 (64 + 5 * (tS σ i)))), (4, .ref (w.1 (64 + 5 * (tS σ k)))), (5, .int ((aK σ (tS σ i)) &&& (aK σ (tS σ k))))] 2 (nI (a + 1 + u + 1 + q + 1)) dX10_alike_137 rfl (nI_1 (a + 1 + u + 1 + q)) (by decide) rfl ?_
            refine g_goto C 65 dX10_alike_140 rfl ?_
            refine g_sub [0, 3, 4, 1, 5, 6, 7, 8, 9, 10] [(9, .int (nI (a + 1 + u + 1 + q + 1))), (8, .int (nI (a + 1 + u))), (7, .int (nI (a))), (6, .int (nI (alC3 (alQ σ (tS σ i) (tS σ k)) a + alC2 (alQ σ (tS σ i) (tS σ k)) a u + alC1 (alQ σ (tS σ i) (tS σ k)) a (a + 1 + u) q + 1))), (0, .ref (w.1 (31))), (1, .int (nI (i))), (2, .int (nI (k))), (3, .ref (w.1 (64 + 5 * (tS σ i)))), (4, .ref (w.1 (64 + 5 * (tS σ k)))), (5, .int ((aK σ (tS σ i)) &&& (aK σ (tS σ k))))] rfl ?_
            rw [show alC3 (alQ σ (tS σ i) (tS σ k)) a + alC2 (alQ σ (tS σ i) (tS σ k)) a u + alC1 (alQ σ (tS σ i) (tS σ k)) a (a + 1 + u) q + 1 = alC3 (alQ σ (tS σ i) (tS σ k)) a + alC2 (alQ σ (tS σ i) (tS σ k)) a u + alC1 (alQ σ (tS σ i) (tS σ k)) a (a + 1 + u) (q + 1) from by omega]
            exact ih3 (q + 1) (by omega) (by omega)

/-! The reference: write -/
/-- how long a node's text is -/
def twL (σ : St) (i : Nat) (Λ : Nat → Nat) : Prop := ∀ v, v < mN σ i → Λ v = (if mK σ i v < 0 then ((kidsL σ i v).map (fun u => Λ u + 1)).sum + 1 else 1)
def txA (σ : St) (i : Nat) (T : Nat → List Int32) (k : Nat) : Prop := ∀ v, k ≤ v → v < mN σ i → txE σ i T v (T v)
theorem txE_c {σ : St} {i v : Nat} {T T9 : Nat → List Int32} {L : List Int32} (h : ∀ u, v < u → u < mN σ i → T u = T9 u) (hE : txE σ i T v L) : txE σ i T9 v L := by
  rcases hE with ⟨a, b⟩ | ⟨a, os, h1, h2, h3⟩
  · exact Or.inl ⟨a, b⟩
  · have hk : ∀ x, x ∈ os → T x = T9 x := fun x hx => by
      have := kids_m.mp (h1.mem_iff.mp hx)
      exact h x this.1 this.2.1
    refine Or.inr ⟨a, os, h1, ?_, ?_⟩
    · refine h2.imp_of_mem ?_
      intro x y hx hy q
      rw [← hk x hx, ← hk y hy]
      exact q
    · rw [h3, List.map_congr_left hk]
theorem txE_l {σ : St} {i v : Nat} {T : Nat → List Int32} {L : List Int32} {Λ : Nat → Nat} (hv : v < mN σ i) (hΛ : twL σ i Λ) (h : ∀ u, v < u → u < mN σ i → (T u).length = Λ u) (hE : txE σ i T v L) : L.length = Λ v := by
  rw [hΛ v hv]
  rcases hE with ⟨a, b⟩ | ⟨a, os, h1, h2, h3⟩
  · rw [if_neg a, b]; rfl
  · rw [if_pos a, h3, List.length_append, preT_l, List.map_map]
    have h4 := (h1.map (fun u => (T u).length + 1)).sum_nat
    have h5 : (kidsL σ i v).map (fun u => (T u).length + 1) = (kidsL σ i v).map (fun u => Λ u + 1) := List.map_congr_left (fun x hx => by have := kids_m.mp hx; rw [h x this.1 this.2.1])
    rw [h5] at h4
    rw [← h4]
    rfl
theorem txE_b {σ : St} {i v : Nat} {T : Nat → List Int32} {L : List Int32} (hK : mK σ i v = -1 ∨ ∃ q, q < 12 ∧ mK σ i v = nI q) (h : ∀ u, v < u → u < mN σ i → ∀ y, y ∈ T u → bok y) (hE : txE σ i T v L) : ∀ y, y ∈ L → bok y := by
  rcases hE with ⟨a, b⟩ | ⟨a, os, h1, h2, h3⟩
  · intro y hy
    rw [b, List.mem_singleton] at hy
    rcases hK with e | ⟨q, hq, e⟩
    · exact absurd (by rw [e]; decide) a
    · rw [hy, e]; exact bok_k hq
  · have key : ∀ (l : List (List Int32)), (∀ t, t ∈ l → ∀ y, y ∈ t → bok y) → ∀ (a : List Int32), (∀ y, y ∈ a → bok y) → ∀ y, y ∈ l.foldl (fun a t => a ++ ((if a = [] then nI 40 else nI 44) :: t)) a → bok y := by
      intro l
      induction l with
      | nil => intro _ a ha; exact ha
      | cons t l ih =>
        intro hl a ha
        rw [List.foldl_cons]
        refine ih (fun t ht => hl t (List.mem_cons_of_mem _ ht)) _ ?_
        intro y hy
        rw [List.mem_append, List.mem_cons] at hy
        rcases hy with hy | hy | hy
        · exact ha y hy
        · rw [hy]; split <;> decide
        · exact hl t List.mem_cons_self y hy
    intro y hy
    rw [h3, List.mem_append, List.mem_singleton] at hy
    rcases hy with hy | hy
    · refine key (os.map T) ?_ [] (fun y hy => absurd hy (by simp)) y hy
      intro t ht
      rw [List.mem_map] at ht
      obtain ⟨u, hu, rfl⟩ := ht
      have := kids_m.mp (h1.mem_iff.mp hu)
      exact h u this.1 this.2.1
    · rw [hy]; decide
def mwrP (σ : St) (x : Int32) (r : Int32) (σ9 : St) : Prop := mt1 σ x σ9 ∨ (∃ (i : Nat) (T : Nat → List Int32) (tx sz td w9 : Nat → Int32), i < 8 ∧ x = nI i ∧ ¬ mN σ i = 0 ∧ txA σ i T 0 ∧ (T 0).length ≤ 98 ∧ (∀ k, k < (T 0).length → w9 k = (T 0).getD k 0) ∧ w9 (T 0).length = nI 59 ∧ σ9 = sN (sI (sI (sI (sI (mT σ 0) 16 tx) 17 sz) 18 td) 11 w9) 0 18 (nI ((T 0).length + 1)) ∧ r = nI ((T 0).length + 1))
theorem tw_st {σ : St} {tx sz td tx9 sz9 td9 : Nat → Int32} : sI (sI (sI (sI (sI (sI σ 16 tx) 17 sz) 18 td) 16 tx9) 17 sz9) 18 td9 = sI (sI (sI σ 16 tx9) 17 sz9) 18 td9 := by
  rw [pu_st, sI_sI]
theorem tw_len {σ : St} {i v : Nat} {T : Nat → List Int32} {Λ : Nat → Nat} (hv : v < mN σ i) (hΛ : twL σ i Λ) (hB : ∀ v, v < mN σ i → Λ v ≤ 98) (hT : ∀ u, v < u → u < mN σ i → (T u).length = Λ u) : mK σ i v < 0 → ((kidsL σ i v).map (fun u => (T u).length + 1)).sum + 1 ≤ 98 := by
  intro hneg
  have h1 := hΛ v hv
  have h5 : (kidsL σ i v).map (fun u => (T u).length + 1) = (kidsL σ i v).map (fun u => Λ u + 1) := List.map_congr_left (fun x hx => by have := kids_m.mp hx; rw [hT x this.1 this.2.1])
  rw [h5]
  rw [if_pos hneg] at h1
  have := hB v hv
  omega
set_option maxRecDepth 100000 in
set_option maxHeartbeats 4000000 in
theorem m_X11_write (l : Launch) (w : Wd) (σ : St) (hM : ∀ i, i < 8 → mtOk σ i) (x : Int32) (hO : ∀ i, i < 8 → ¬ mN σ i = 0 → ∃ Λ, twL σ i Λ ∧ ∀ v, v < mN σ i → Λ v ≤ 98) : MI l yX11_write wsX11_write (rmL 3) w [.ref (w.1 (0)), .int (x)] (σ) (mwrP σ x) := by
  refine MI_of (cc := cX11_write) (maxL := 3) (ret := .int) (by decide) rfl (Nat.le_of_ble_eq_true rfl) ?_
  intro p e s m args below meth c A C hr hlk
  have C : Cx p s m args c w A cX11_write RX11 3 wsX11_write := C
  have hin_11 : ∀ u ∈ wsX110, u ∈ wsX11_write := by decide +kernel
  have hl_17 : Cond.fieldLink RX11 17 "LineageBenchModel" "many" "[I" ∈ wsX11_write := by decide +kernel
  have hl_48 : Cond.fieldLink RX11 48 "LineageBenchModel" "written" "[B" ∈ wsX11_write := by decide +kernel
  have hl_63 : Cond.fieldLink RX11 63 "LineageBenchModel" "texts" "[B" ∈ wsX11_write := by decide +kernel
  have hl_66 : Cond.fieldLink RX11 66 "LineageBenchModel" "textSize" "[I" ∈ wsX11_write := by decide +kernel
  have hl_107 : Cond.fieldLink RX11 107 "LineageBenchModel" "thrown" "I" ∈ wsX11_write := by decide +kernel
  have hl_181 : Cond.fieldLink RX11 181 "LineageBenchModel" "writtenMany" "I" ∈ wsX11_write := by decide +kernel
  refine g_aload_n (pc9 := 1) C rfl 0 dX11_write_0 rfl rfl ?_
  refine g_iconst (pc9 := 2) C rfl (nI (0)) dX11_write_1 rfl ?_
  refine g_put (pc9 := 5) C rfl (0) 0 dX11_write_2 (by decide) (ce_0 w (σ)) (rfl) hin_11 hl_107 tyX11 tyX11_ok nmX11 rfl (by decide) rfl rfl rfl (Nat.le_of_ble_eq_true rfl) ?_
  refine g_aload_n (pc9 := 6) C rfl 0 dX11_write_5 rfl rfl ?_
  refine g_iload_n (pc9 := 7) C rfl 1 dX11_write_6 rfl rfl ?_
  refine g_callSi (nn := 1) (rest := [.ref (w.1 (0))]) (pc9 := 10) C rfl [.int (x)] rfl dX11_write_7 (m_X11_noShelf l w (sN σ (0) 0 (nI (0))) x) gX11_write_X11_noShelf rfl rfl rfl (by decide +kernel) ⟨by decide, by decide⟩ rfl (Nat.le_of_ble_eq_true rfl) ⟨by decide, by decide⟩ (fun r_1 σ_1 q_1 => ?_)
  obtain ⟨qs_1, qr_1⟩ := q_1
  rw [qs_1, qr_1]
  clear qs_1 qr_1
  refine g_iconst (pc9 := 11) C rfl (nI (1)) dX11_write_10 rfl ?_
  refine g_callVi (nn := 2) (rest := []) (pc9 := 14) C rfl (0) [.int (pI (¬ okI 8 x)), .int (nI (1))] rfl dX11_write_11 (m_throwsP l w (sN σ (0) 0 (nI (0))) (¬ okI 8 x) 1) gX11_write_X11_throwsIf (by decide) (ce_0 w (sN σ (0) 0 (nI (0)))) rfl rfl rfl rfl rfl (by decide +kernel) ⟨by decide, by decide⟩ rfl (Nat.le_of_ble_eq_true rfl) ⟨by decide, by decide⟩ (fun r_2 σ_2 q_2 => ?_)
  obtain ⟨qr_2, qt_2, qf_2⟩ := q_2
  rw [qr_2]
  refine g_if_ne (pc9 := 17) C rfl 39 dX11_write_14 rfl (fun c_3 => ?_) (fun c_3 => ?_)
  · have hns : ¬ okI 8 x := pI_ye c_3
    refine g_st (σ9 := sN σ (0) 0 (nI (1))) ((qt_2 hns).trans (by show sN (sN σ (0) 0 (nI (0))) (0) 0 (nI (1)) = sN σ (0) 0 (nI (1)); rw [sN_sN])) ?_
    refine g_iconst (pc9 := 40) C rfl (nI (0)) dX11_write_39 rfl ?_
    exact g_ireturn C hr hlk dX11_write_40 (by first | exact Or.inl (Or.inl ⟨hns, rfl⟩) | exact Or.inl (Or.inr ⟨i, hb_i, rfl, hz_i, rfl⟩))
  · have hns : ¬ (¬ okI 8 x) := pI_no c_3
    rw [qf_2 hns]
    obtain ⟨i, hb_i, hx_i⟩ := Classical.not_not.mp hns
    subst hx_i
    refine g_aload_n (pc9 := 18) C rfl 0 dX11_write_17 rfl rfl ?_
    refine g_aload_n (pc9 := 19) C rfl 0 dX11_write_18 rfl rfl ?_
    refine g_get (v := .ref (w.1 (2))) (pc9 := 22) C rfl (0) 5 dX11_write_19 (by decide) (ce_0 w (sN σ (0) 0 (nI (0)))) hin_11 hl_17 rfl (by decide) rfl rfl ?_
    refine g_iload_n (pc9 := 23) C rfl 1 dX11_write_22 rfl rfl ?_
    refine g_iald (x := nI (mN σ (i))) (pc9 := 24) C rfl (2) (i) dX11_write_23 (by decide) (ce_2 w (sN σ (0) 0 (nI (0)))) rfl (by omega) (by decide) ((congrFun (iA_N) _).trans (hM i hb_i).1) ?_
    have h47_i := (hM i hb_i).2.1
    refine g_if_ne (pc9 := 27) C rfl 31 dX11_write_24 rfl (fun c_4 => ?_) (fun c_4 => ?_)
    · replace c_4 := (not_congr (z_eq (by omega))).mp c_4
      have hz_i : ¬ mN σ i = 0 := by omega
      refine g_iconst (pc9 := 32) C rfl (nI (0)) dX11_write_31 rfl ?_
      refine g_iconst (pc9 := 33) C rfl (nI (2)) dX11_write_32 rfl ?_
      refine g_callVi (nn := 2) (rest := []) (pc9 := 36) C rfl (0) [.int (nI (0)), .int (nI (2))] rfl dX11_write_33 (m_throws0 l w (sN σ (0) 0 (nI (0))) 2) gX11_write_X11_throwsIf (by decide) (ce_0 w (sN σ (0) 0 (nI (0)))) rfl rfl rfl rfl rfl (by decide +kernel) ⟨by decide, by decide⟩ rfl (Nat.le_of_ble_eq_true rfl) ⟨by decide, by decide⟩ (fun r_5 σ_5 q_5 => ?_)
      obtain ⟨qs_5, qr_5⟩ := q_5
      rw [qs_5, qr_5]
      refine g_if_eq (pc9 := 39) C rfl 41 dX11_write_36 rfl (fun c_6 => ?_) (fun c_6 => ?_)
      · refine g_aload_n (pc9 := 42) C rfl 0 dX11_write_41 rfl rfl ?_
        refine g_get (v := .ref (w.1 (2))) (pc9 := 45) C rfl (0) 5 dX11_write_42 (by decide) (ce_0 w (sN σ (0) 0 (nI (0)))) hin_11 hl_17 rfl (by decide) rfl rfl ?_
        refine g_iload_n (pc9 := 46) C rfl 1 dX11_write_45 rfl rfl ?_
        refine g_iald (x := nI (mN σ (i))) (pc9 := 47) C rfl (2) (i) dX11_write_46 (by decide) (ce_2 w (sN σ (0) 0 (nI (0)))) rfl (by omega) (by decide) ((congrFun (iA_N) _).trans (hM i hb_i).1) ?_
        refine g_iconst (pc9 := 48) C rfl (nI (1)) dX11_write_47 rfl ?_
        refine g_isubN (pc9 := 49) C rfl dX11_write_48 (by omega) ?_
        refine g_istore_n (pc9 := 50) C rfl [(2, .int (nI ((mN σ (i)) - (1)))), (0, .ref (w.1 (0))), (1, .int (nI (i)))] dX11_write_49 rfl (by decide) rfl ?_
        obtain ⟨Λ, hΛ, hB⟩ := hO i hb_i hz_i
        refine g_sub [0, 1, 2] [(2, .int (nI ((mN σ (i)) - (1)))), (0, .ref (w.1 (0))), (1, .int (nI (i)))] rfl ?_
        refine g_st (σ9 := sI (sI (sI (sN σ (0) 0 (nI (0))) (16) (iA σ 16)) (17) (iA σ 17)) (18) (iA σ 18)) (by rw [show sI (mT σ 0) 16 (iA σ 16) = mT σ 0 from sI_self, show sI (mT σ 0) 17 (iA σ 17) = mT σ 0 from sI_self]; exact (show sI (mT σ 0) 18 (iA (mT σ 0) 18) = mT σ 0 from sI_self).symm) ?_
        rw [show nI (mN σ i - 1) = dn (mN σ i) from (dn_s (by omega)).symm]
        refine g_lp4 (α := Nat × (Nat → List Int32)) (β := Nat → Int32) (γ := Nat → Int32) (δ := Nat → Int32) (fun zz tx sz td => zz.1 ≤ mN σ i ∧ txA σ i zz.2 zz.1 ∧ ∀ u, zz.1 ≤ u → u < mN σ i → rp tx sz u (zz.2 u) ∧ (zz.2 u).length = Λ u ∧ ∀ y, y ∈ zz.2 u → bok y) (fun zz tx sz td => zz.1) (fun zz tx sz td => G p l e _ s m args below meth c _ w A _ (sI (sI (sI (sN σ (0) 0 (nI (0))) (16) (tx)) (17) (sz)) (18) (td)) 0 0 50 [(2, .int (dn zz.1)), (0, .ref (w.1 (0))), (1, .int (nI (i)))] []) (fun zz tx sz td hI ih0 => ?_) ((mN σ i, fun _ => [])) (iA σ 16) (iA σ 17) (iA σ 18) ⟨Nat.le_refl _, fun x h1 h2 => absurd h1 (Nat.not_le.mpr h2), fun x h1 h2 => absurd h1 (Nat.not_le.mpr h2)⟩
        obtain ⟨hK, hE, hR⟩ := hI
        obtain ⟨K, T⟩ := zz
        replace hK : K ≤ mN σ i := hK
        replace hE : txA σ i T K := hE
        replace hR : ∀ u, K ≤ u → u < mN σ i → rp tx sz u (T u) ∧ (T u).length = Λ u ∧ ∀ y, y ∈ T u → bok y := hR
        refine g_lv (lv9 := [(2, .int (dn K)), (0, .ref (w.1 (0))), (1, .int (nI (i)))]) rfl ?_
        rcases Nat.eq_zero_or_pos K with hK0 | hK0
        · subst hK0
          rw [dn_0]
          have hR0 := hR 0 (Nat.le_refl _) (by omega)
          have hL0 := hB 0 (by omega)
          refine g_iload_n (pc9 := 51) C rfl 0 dX11_write_50 rfl rfl ?_
          refine g_if_lt (pc9 := 54) C rfl 66 dX11_write_51 rfl (fun c_7 => ?_) (fun c_7 => ?_)
          · refine g_iconst (pc9 := 67) C rfl (nI (0)) dX11_write_66 rfl ?_
            refine g_istore_n (pc9 := 68) C rfl [(2, .int (nI (0))), (0, .ref (w.1 (0))), (1, .int (nI (i)))] dX11_write_67 rfl (by decide) rfl ?_
            refine g_sub [0, 1, 2] [(2, .int (nI (0))), (0, .ref (w.1 (0))), (1, .int (nI (i)))] rfl ?_
            refine g_st (σ9 := sI (sI (sI (sI (sN σ (0) 0 (nI (0))) (16) (tx)) (17) (sz)) (18) (td)) (11) (iA σ 11)) (show sI (sI (sI (sI (sN σ (0) 0 (nI (0))) (16) (tx)) (17) (sz)) (18) (td)) 11 (iA (sI (sI (sI (sN σ (0) 0 (nI (0))) (16) (tx)) (17) (sz)) (18) (td)) 11) = _ from sI_self).symm ?_
            refine g_lp2 (α := Nat) (β := Nat → Int32) (fun k w9 => k ≤ (T 0).length ∧ ∀ z, z < k → w9 z = (T 0).getD z 0) (fun k w9 => (T 0).length - k) (fun k w9 => G p l e _ s m args below meth c _ w A _ (sI (sI (sI (sI (sN σ (0) 0 (nI (0))) (16) (tx)) (17) (sz)) (18) (td)) (11) (w9)) 0 0 68 [(2, .int (nI (k))), (0, .ref (w.1 (0))), (1, .int (nI (i)))] []) (fun k w9 hI ih1 => ?_) (0) (iA σ 11) ⟨Nat.zero_le _, fun z hz => absurd hz (by omega)⟩
            obtain ⟨hk, hw⟩ := hI
            refine g_iload_n (pc9 := 69) C rfl 0 dX11_write_68 rfl rfl ?_
            refine g_aload_n (pc9 := 70) C rfl 1 dX11_write_69 rfl rfl ?_
            refine g_get (v := .ref (w.1 (17))) (pc9 := 73) C rfl (0) 26 dX11_write_70 (by decide) (ce_0 w (sI (sI (sI (sI (sN σ (0) 0 (nI (0))) (16) (tx)) (17) (sz)) (18) (td)) (11) (w9))) hin_11 hl_66 rfl (by decide) rfl rfl ?_
            refine g_iconst (pc9 := 74) C rfl (nI (0)) dX11_write_73 rfl ?_
            refine g_iald (x := nI ((T 0).length)) (pc9 := 75) C rfl (17) (0) dX11_write_74 (by decide) (ce_17 w (sI (sI (sI (sI (sN σ (0) 0 (nI (0))) (16) (tx)) (17) (sz)) (18) (td)) (11) (w9))) rfl (by omega) (by decide) ((congrFun (((iA_n (by decide)).trans (iA_n (by decide))).trans (iA_s)) _).trans hR0.1.1) ?_
            refine g_icmp_ge (pc9 := 78) C rfl 96 dX11_write_75 rfl (fun c_8 => ?_) (fun c_8 => ?_)
            · replace c_8 := (nI_leI (by omega) (by omega)).mp c_8
              refine g_aload_n (pc9 := 97) C rfl 1 dX11_write_96 rfl rfl ?_
              refine g_get (v := .ref (w.1 (11))) (pc9 := 100) C rfl (0) 17 dX11_write_97 (by decide) (ce_0 w (sI (sI (sI (sI (sN σ (0) 0 (nI (0))) (16) (tx)) (17) (sz)) (18) (td)) (11) (w9))) hin_11 hl_48 rfl (by decide) rfl rfl ?_
              refine g_aload_n (pc9 := 101) C rfl 1 dX11_write_100 rfl rfl ?_
              refine g_get (v := .ref (w.1 (17))) (pc9 := 104) C rfl (0) 26 dX11_write_101 (by decide) (ce_0 w (sI (sI (sI (sI (sN σ (0) 0 (nI (0))) (16) (tx)) (17) (sz)) (18) (td)) (11) (w9))) hin_11 hl_66 rfl (by decide) rfl rfl ?_
              refine g_iconst (pc9 := 105) C rfl (nI (0)) dX11_write_104 rfl ?_
              refine g_iald (x := nI ((T 0).length)) (pc9 := 106) C rfl (17) (0) dX11_write_105 (by decide) (ce_17 w (sI (sI (sI (sI (sN σ (0) 0 (nI (0))) (16) (tx)) (17) (sz)) (18) (td)) (11) (w9))) rfl (by omega) (by decide) ((congrFun (((iA_n (by decide)).trans (iA_n (by decide))).trans (iA_s)) _).trans hR0.1.1) ?_
              refine g_bipush (pc9 := 108) C rfl (nI (59)) dX11_write_106 rfl ?_
              refine g_bast (pc9 := 109) C rfl (11) ((T 0).length) (w9) dX11_write_108 (by decide) (fun _ => rfl) (ce_11 w (sI (sI (sI (sI (sN σ (0) 0 (nI (0))) (16) (tx)) (17) (sz)) (18) (td)) (11) (w9))) rfl (by omega) (by decide) (iA_s) ?_
              rw [sI_sI (a := 11)]
              refine g_aload_n (pc9 := 110) C rfl 1 dX11_write_109 rfl rfl ?_
              refine g_aload_n (pc9 := 111) C rfl 1 dX11_write_110 rfl rfl ?_
              refine g_get (v := .ref (w.1 (17))) (pc9 := 114) C rfl (0) 26 dX11_write_111 (by decide) (ce_0 w (sI (sI (sI (sI (sN σ (0) 0 (nI (0))) (16) (tx)) (17) (sz)) (18) (td)) (11) (upd (w9) ((T 0).length) (vp_nar .byte (nI (59)))))) hin_11 hl_66 rfl (by decide) rfl rfl ?_
              refine g_iconst (pc9 := 115) C rfl (nI (0)) dX11_write_114 rfl ?_
              refine g_iald (x := nI ((T 0).length)) (pc9 := 116) C rfl (17) (0) dX11_write_115 (by decide) (ce_17 w (sI (sI (sI (sI (sN σ (0) 0 (nI (0))) (16) (tx)) (17) (sz)) (18) (td)) (11) (upd (w9) ((T 0).length) (vp_nar .byte (nI (59)))))) rfl (by omega) (by decide) ((congrFun (((iA_n (by decide)).trans (iA_n (by decide))).trans (iA_s)) _).trans hR0.1.1) ?_
              refine g_iconst (pc9 := 117) C rfl (nI (1)) dX11_write_116 rfl ?_
              refine g_iaddN (pc9 := 118) C rfl dX11_write_117 ?_
              refine g_put (pc9 := 121) C rfl (0) 18 dX11_write_118 (by decide) (ce_0 w (sI (sI (sI (sI (sN σ (0) 0 (nI (0))) (16) (tx)) (17) (sz)) (18) (td)) (11) (upd (w9) ((T 0).length) (vp_nar .byte (nI (59)))))) (rfl) hin_11 hl_181 tyX11 tyX11_ok nmX11 rfl (by decide) rfl rfl rfl (Nat.le_of_ble_eq_true rfl) ?_
              refine g_aload_n (pc9 := 122) C rfl 1 dX11_write_121 rfl rfl ?_
              refine g_get (v := .int (nI (((T 0).length) + 1))) (pc9 := 125) C rfl (0) 18 dX11_write_122 (by decide) (ce_0 w (sN (sI (sI (sI (sI (sN σ (0) 0 (nI (0))) (16) (tx)) (17) (sz)) (18) (td)) (11) (upd (w9) ((T 0).length) (vp_nar .byte (nI (59))))) (0) 18 (nI (((T 0).length) + 1)))) hin_11 hl_181 rfl (by decide) rfl (congrArg (fun z => some (Value.int z)) (nF_s)) ?_
              exact g_ireturn C hr hlk dX11_write_125 (Or.inr ⟨i, T, tx, sz, td, upd (w9) ((T 0).length) (vp_nar .byte (nI (59))), hb_i, rfl, hz_i, hE, by omega, fun z hz => by rw [pk_un (by omega)]; exact hw z (by omega), pk_us.trans (by decide), rfl, rfl⟩)
            · replace c_8 := (not_congr (nI_leI (by omega) (by omega))).mp c_8
              have hbk := (hR0.2.2 _ (gd_m (show k < (T 0).length by omega))).2
              refine g_aload_n (pc9 := 79) C rfl 1 dX11_write_78 rfl rfl ?_
              refine g_get (v := .ref (w.1 (11))) (pc9 := 82) C rfl (0) 17 dX11_write_79 (by decide) (ce_0 w (sI (sI (sI (sI (sN σ (0) 0 (nI (0))) (16) (tx)) (17) (sz)) (18) (td)) (11) (w9))) hin_11 hl_48 rfl (by decide) rfl rfl ?_
              refine g_iload_n (pc9 := 83) C rfl 0 dX11_write_82 rfl rfl ?_
              refine g_aload_n (pc9 := 84) C rfl 1 dX11_write_83 rfl rfl ?_
              refine g_get (v := .ref (w.1 (16))) (pc9 := 87) C rfl (0) 25 dX11_write_84 (by decide) (ce_0 w (sI (sI (sI (sI (sN σ (0) 0 (nI (0))) (16) (tx)) (17) (sz)) (18) (td)) (11) (w9))) hin_11 hl_63 rfl (by decide) rfl rfl ?_
              refine g_iload_n (pc9 := 88) C rfl 0 dX11_write_87 rfl rfl ?_
              refine g_bald (x := (T 0).getD k 0) (pc9 := 89) C rfl (16) (k) dX11_write_88 (by decide) (ce_16 w (sI (sI (sI (sI (sN σ (0) 0 (nI (0))) (16) (tx)) (17) (sz)) (18) (td)) (11) (w9))) rfl (by omega) (by decide) ((congrFun ((((iA_n (by decide)).trans (iA_n (by decide))).trans (iA_n (by decide))).trans (iA_s)) _).trans ((congrArg tx (by omega)).trans (rp_g hR0.1 (by omega : k < (T 0).length)))) ?_
              refine g_bast (pc9 := 90) C rfl (11) (k) (w9) dX11_write_89 (by decide) (fun _ => rfl) (ce_11 w (sI (sI (sI (sI (sN σ (0) 0 (nI (0))) (16) (tx)) (17) (sz)) (18) (td)) (11) (w9))) rfl (by omega) (by decide) (iA_s) ?_
              rw [sI_sI (a := 11)]
              refine g_iinc (pc9 := 93) C rfl [(2, .int (nI (k + 1))), (0, .ref (w.1 (0))), (1, .int (nI (i)))] 0 (nI (k + 1)) dX11_write_90 rfl (nI_1 (k)) (by decide) rfl ?_
              refine g_goto C 68 dX11_write_93 rfl ?_
              refine g_sub [0, 1, 2] [(2, .int (nI (k + 1))), (0, .ref (w.1 (0))), (1, .int (nI (i)))] rfl ?_
              exact ih1 (k + 1) (upd (w9) (k) (vp_nar .byte ((T 0).getD k 0))) ⟨by omega, fun z hz => by by_cases e : z = k; (rw [e, pk_us]; exact hbk); rw [pk_un e]; exact hw z (by omega)⟩ (by omega)
          · exact absurd (by decide) c_7
        · rw [dn_s hK0]
          obtain ⟨v, rfl⟩ : ∃ z, K = z + 1 := ⟨K - 1, by omega⟩
          rw [show v + 1 - 1 = v by omega]
          refine g_iload_n (pc9 := 51) C rfl 0 dX11_write_50 rfl rfl ?_
          refine g_if_lt (pc9 := 54) C rfl 66 dX11_write_51 rfl (fun c_9 => ?_) (fun c_9 => ?_)
          · replace c_9 := (z_lt (by omega)).mp c_9
            exact absurd c_9 (by simp)
          · replace c_9 := (not_congr (z_lt (by omega))).mp c_9
            refine g_aload_n (pc9 := 55) C rfl 1 dX11_write_54 rfl rfl ?_
            refine g_iload_n (pc9 := 56) C rfl 2 dX11_write_55 rfl rfl ?_
            refine g_iload_n (pc9 := 57) C rfl 0 dX11_write_56 rfl rfl ?_
            refine g_callVv (nn := 2) (rest := []) (pc9 := 60) C rfl (0) [.int (nI (i)), .int (nI (v))] rfl dX11_write_57 (m_X11_textOf l w (sI (sI (sI (sN σ (0) 0 (nI (0))) (16) (tx)) (17) (sz)) (18) (td)) hM i v hb_i (show v < mN σ i by omega) T (fun x h1 h2 => ⟨(hR x h1 h2).1, by have h3 := (hR x h1 h2).2.1; have h4 := hB x h2; omega⟩) (fun x h1 h2 => (hR x h1 h2).2.2) (tw_len (show v < mN σ i by omega) hΛ hB (fun u h1 h2 => (hR u h1 h2).2.1))) gX11_write_X11_textOf (by decide) (ce_0 w (sI (sI (sI (sN σ (0) 0 (nI (0))) (16) (tx)) (17) (sz)) (18) (td))) rfl rfl rfl rfl rfl (by decide +kernel) ⟨by decide, by decide⟩ rfl (Nat.le_of_ble_eq_true rfl) ⟨by decide, by decide⟩ (fun σ_10 q_10 => ?_)
            obtain ⟨L, tx9, sz9, td9, qs_10, hr1, hsm, hll, hLE⟩ := q_10
            replace hLE : txE σ i T v L := hLE
            refine g_st (σ9 := sI (sI (sI (sN σ (0) 0 (nI (0))) (16) (tx9)) (17) (sz9)) (18) (td9)) (qs_10.trans tw_st) ?_
            refine g_iinc (pc9 := 63) C rfl [(2, .int (dn v)), (0, .ref (w.1 (0))), (1, .int (nI (i)))] 0 (dn v) dX11_write_60 rfl rfl (by decide) rfl ?_
            refine g_goto C 50 dX11_write_63 rfl ?_
            refine g_sub [0, 1, 2] [(2, .int (dn v)), (0, .ref (w.1 (0))), (1, .int (nI (i)))] rfl ?_
            have hTu : ∀ u, v < u → (fun z => if z = v then L else T z) u = T u := fun u hu => if_neg (by omega)
            have hTv : (fun z => if z = v then L else T z) v = L := if_pos rfl
            have hLE2 : txE σ i (fun z => if z = v then L else T z) v L := txE_c (fun u h1 _ => (hTu u h1).symm) hLE
            have hLl := txE_l (by omega) hΛ (fun u h1 h2 => (hR u h1 h2).2.1) hLE
            have hLb := txE_b ((hM i hb_i).2.2.2.2 v (by omega)) (fun u h1 h2 => (hR u h1 h2).2.2) hLE
            refine ih0 (v, fun z => if z = v then L else T z) tx9 sz9 td9 ⟨by show v ≤ _; omega, fun u h1 h2 => ?_, fun u h1 h2 => ?_⟩ (by show v < v + 1; omega)
            · by_cases e : u = v
              · rw [e]; show txE σ i _ v ((fun z => if z = v then L else T z) v); rw [hTv]; exact hLE2
              · have h3 : v < u := by have : v ≤ u := h1; omega
                show txE σ i _ u ((fun z => if z = v then L else T z) u)
                rw [hTu u h3]
                exact txE_c (fun z h4 _ => (hTu z (by omega)).symm) (hE u h3 h2)
            · by_cases e : u = v
              · rw [e]; show rp tx9 sz9 v ((fun z => if z = v then L else T z) v) ∧ ((fun z => if z = v then L else T z) v).length = Λ v ∧ ∀ y, y ∈ (fun z => if z = v then L else T z) v → bok y; rw [hTv]; exact ⟨hr1, hLl, hLb⟩
              · have h3 : v < u := by have : v ≤ u := h1; omega
                show rp tx9 sz9 u ((fun z => if z = v then L else T z) u) ∧ ((fun z => if z = v then L else T z) u).length = Λ u ∧ ∀ y, y ∈ (fun z => if z = v then L else T z) u → bok y
                rw [hTu u h3]
                have h4 := hR u h3 h2
                exact ⟨rp_sm hsm (by omega) e (by have := hB u h2; omega) h4.1, h4.2⟩
      · exact absurd c_6 (by decide)
    · replace c_4 := (z_eq (by omega)).mp c_4
      have hz_i : mN σ i = 0 := by omega
      refine g_iconst (pc9 := 28) C rfl (nI (1)) dX11_write_27 rfl ?_
      refine g_goto C 32 dX11_write_28 rfl ?_
      refine g_iconst (pc9 := 33) C rfl (nI (2)) dX11_write_32 rfl ?_
      refine g_callVi (nn := 2) (rest := []) (pc9 := 36) C rfl (0) [.int (nI (1)), .int (nI (2))] rfl dX11_write_33 (m_throws1 l w (sN σ (0) 0 (nI (0))) 2) gX11_write_X11_throwsIf (by decide) (ce_0 w (sN σ (0) 0 (nI (0)))) rfl rfl rfl rfl rfl (by decide +kernel) ⟨by decide, by decide⟩ rfl (Nat.le_of_ble_eq_true rfl) ⟨by decide, by decide⟩ (fun r_11 σ_11 q_11 => ?_)
      obtain ⟨qs_11, qr_11⟩ := q_11
      rw [qr_11]
      refine g_st (σ9 := sN σ (0) 0 (nI (2))) (qs_11.trans (by show sN (sN σ (0) 0 (nI (0))) (0) 0 (nI (2)) = sN σ (0) 0 (nI (2)); rw [sN_sN])) ?_
      refine g_if_eq (pc9 := 39) C rfl 41 dX11_write_36 rfl (fun c_12 => ?_) (fun c_12 => ?_)
      · exact absurd c_12 (by decide)
      · refine g_iconst (pc9 := 40) C rfl (nI (0)) dX11_write_39 rfl ?_
        exact g_ireturn C hr hlk dX11_write_40 (by first | exact Or.inl (Or.inl ⟨hns, rfl⟩) | exact Or.inl (Or.inr ⟨i, hb_i, rfl, hz_i, rfl⟩))

/-! The reference: texts of nodes -/
def ltL : List Int32 → List Int32 → Prop
  | _, [] => False
  | [], _ :: _ => True
  | x :: xs, y :: ys => x < y ∨ (x = y ∧ ltL xs ys)
theorem ltL_nil : ∀ (b : List Int32), ¬ ltL b []
  | [] => id
  | _ :: _ => id
theorem ltL_t : ∀ (a b c : List Int32), ltL a b → ltL b c → ltL a c
  | _, b, [], _, h => absurd h (ltL_nil b)
  | [], _, _ :: _, _, _ => trivial
  | x :: xs, [], _ :: _, h, _ => absurd h (ltL_nil (x :: xs))
  | x :: xs, y :: ys, z :: zs, h1, h2 => by
    rcases h1 with h1 | ⟨e1, h1⟩ <;> rcases h2 with h2 | ⟨e2, h2⟩
    · exact Or.inl (Int32.lt_trans h1 h2)
    · exact Or.inl (e2 ▸ h1)
    · exact Or.inl (e1 ▸ h2)
    · exact Or.inr ⟨e1.trans e2, ltL_t xs ys zs h1 h2⟩
abbrev bok (c : Int32) : Prop := vp_nar .byte (c.toInt8.toInt32) = c ∧ vp_nar .byte c = c
/-- the text of v is L -/
def rp (tx sz : Nat → Int32) (v : Nat) (L : List Int32) : Prop := sz v = nI L.length ∧ ∀ k, (h : k < L.length) → tx (100 * v + k) = L[k]
/-- all but v as it was -/
def smT (tx sz tx9 sz9 : Nat → Int32) (v : Nat) : Prop := ∀ u, u < 47 → u ≠ v → sz9 u = sz u ∧ ∀ k, k < 100 → tx9 (100 * u + k) = tx (100 * u + k)
theorem smT_r {tx sz : Nat → Int32} {v : Nat} : smT tx sz tx sz v := fun _ _ _ => ⟨rfl, fun _ _ => rfl⟩
theorem smT_t {tx sz tx1 sz1 tx2 sz2 : Nat → Int32} {v : Nat} (h1 : smT tx sz tx1 sz1 v) (h2 : smT tx1 sz1 tx2 sz2 v) : smT tx sz tx2 sz2 v := fun u hu hn => ⟨(h2 u hu hn).1.trans (h1 u hu hn).1, fun k hk => ((h2 u hu hn).2 k hk).trans ((h1 u hu hn).2 k hk)⟩
theorem rp_sm {tx sz tx9 sz9 : Nat → Int32} {v u : Nat} {L : List Int32} (h : smT tx sz tx9 sz9 v) (hu : u < 47) (hn : u ≠ v) (hL : L.length ≤ 99) (hr : rp tx sz u L) : rp tx9 sz9 u L := ⟨(h u hu hn).1.trans hr.1, fun k hk => ((h u hu hn).2 k (by omega)).trans (hr.2 k hk)⟩
theorem rp_put {tx sz : Nat → Int32} {v : Nat} {L : List Int32} {x : Int32} (hr : rp tx sz v L) : rp (upd tx (100 * v + L.length) x) (upd sz v (nI (L.length + 1))) v (L ++ [x]) := by
  refine ⟨by rw [pk_us, List.length_append]; rfl, fun k hk => ?_⟩
  rw [List.length_append] at hk
  by_cases e : k = L.length
  · subst e
    rw [pk_us, List.getElem_append_right (Nat.le_refl _)]
    simp
  · have h2 : k < L.length := by simp at hk; omega
    rw [pk_un (by omega), List.getElem_append_left h2]
    exact hr.2 k h2
theorem sm_put {tx sz : Nat → Int32} {v n : Nat} {x y : Int32} (hn : n < 100) : smT tx sz (upd tx (100 * v + n) x) (upd sz v y) v := by
  intro u hu h
  refine ⟨pk_un h, fun k hk => pk_un (by omega)⟩
theorem pu_st {σ : St} {tx sz td tx9 sz9 : Nat → Int32} : sI (sI (sI (sI (sI σ 16 tx) 17 sz) 18 td) 16 tx9) 17 sz9 = sI (sI (sI σ 16 tx9) 17 sz9) 18 td := by
  rw [sI_cm (a := 18) (b := 16) (by decide), sI_cm (a := 17) (b := 16) (by decide), sI_sI, sI_cm (a := 18) (b := 17) (by decide), sI_sI]
theorem rp_g {tx sz : Nat → Int32} {v k : Nat} {L : List Int32} (hr : rp tx sz v L) (h : k < L.length) : tx (100 * v + k) = L.getD k 0 := by
  rw [hr.2 k h, List.getD_eq_getElem?_getD, List.getElem?_eq_getElem h]
  rfl
theorem dr_c {L : List Int32} {k : Nat} (h : k < L.length) : L.drop k = L.getD k 0 :: L.drop (k + 1) := by
  rw [List.drop_eq_getElem_cons h, List.getD_eq_getElem?_getD, List.getElem?_eq_getElem h]
  rfl
theorem dr_n {L : List Int32} {k : Nat} (h : L.length ≤ k) : L.drop k = [] := List.drop_eq_nil_of_le h
theorem ltL_e {A B : List Int32} {k : Nat} (h1 : k < A.length) (h2 : k < B.length) (e : A.getD k 0 = B.getD k 0) (hq : ltL A B ↔ ltL (A.drop k) (B.drop k)) : ltL A B ↔ ltL (A.drop (k + 1)) (B.drop (k + 1)) := by
  rw [hq, dr_c h1, dr_c h2, e]
  exact ⟨fun h => h.elim (fun q => absurd q Int32.lt_irrefl) (fun q => q.2), fun h => Or.inr ⟨rfl, h⟩⟩
theorem ltL_n {A B : List Int32} {k : Nat} (h1 : k ≤ B.length) (h2 : B.length ≤ A.length ∧ (k = A.length ∨ k = B.length)) : ¬ ltL (A.drop k) (B.drop k) := by
  rw [dr_n (L := B) (by omega)]
  cases A.drop k <;> exact id
theorem ltL_y {A B : List Int32} {k : Nat} (h1 : k ≤ A.length) (h2 : A.length < B.length ∧ (k = A.length ∨ k = B.length)) : ltL (A.drop k) (B.drop k) := by
  rw [dr_n (L := A) (by omega), dr_c (L := B) (by omega)]
  trivial
theorem ltL_x {A B : List Int32} {k : Nat} (h1 : k < A.length) (h2 : k < B.length) (hn : ¬ A.getD k 0 = B.getD k 0) (h : ¬ A.getD k 0 < B.getD k 0) : ¬ ltL (A.drop k) (B.drop k) := by
  rw [dr_c h1, dr_c h2]
  exact fun q => q.elim h (fun r => hn r.1)
theorem ltL_w {A B : List Int32} {k : Nat} (h1 : k < A.length) (h2 : k < B.length) (h : A.getD k 0 < B.getD k 0) : ltL (A.drop k) (B.drop k) := by
  rw [dr_c h1, dr_c h2]
  exact Or.inl h
set_option maxRecDepth 100000 in
set_option maxHeartbeats 4000000 in
theorem m_X11_isLess (l : Launch) (w : Wd) (σ : St) (a b : Nat) (ha : a < 47) (hb : b < 47) (LA LB : List Int32) (hA : rp (iA σ 16) (iA σ 17) a LA) (hB : rp (iA σ 16) (iA σ 17) b LB) (hlA : LA.length ≤ 99) (hlB : LB.length ≤ 99) : MI l yX11_isLess wsX11_isLess (rmL 1) w [.ref (w.1 (0)), .int (nI (a)), .int (nI (b))] (σ) (fun r σ9 => σ9 = σ ∧ r = pI (ltL LA LB)) := by
  refine MI_of (cc := cX11_isLess) (maxL := 4) (ret := .boolean) (by decide) rfl (Nat.le_of_ble_eq_true rfl) ?_
  intro p e s m args below meth c A C hr hlk
  have C : Cx p s m args c w A cX11_isLess RX11 4 wsX11_isLess := C
  have hin_11 : ∀ u ∈ wsX110, u ∈ wsX11_isLess := by decide +kernel
  have hl_63 : Cond.fieldLink RX11 63 "LineageBenchModel" "texts" "[B" ∈ wsX11_isLess := by decide +kernel
  have hl_66 : Cond.fieldLink RX11 66 "LineageBenchModel" "textSize" "[I" ∈ wsX11_isLess := by decide +kernel
  refine g_iconst (pc9 := 1) C rfl (nI (0)) dX11_isLess_0 rfl ?_
  refine g_istore_n (pc9 := 2) C rfl [(3, .int (nI (0))), (0, .ref (w.1 (0))), (1, .int (nI (a))), (2, .int (nI (b)))] dX11_isLess_1 rfl (by decide) rfl ?_
  refine g_sub [0, 1, 2, 3] [(3, .int (nI (0))), (0, .ref (w.1 (0))), (1, .int (nI (a))), (2, .int (nI (b)))] rfl ?_
  refine g_lp1 (α := Nat) (fun k => k ≤ LA.length ∧ k ≤ LB.length ∧ (ltL LA LB ↔ ltL (LA.drop k) (LB.drop k))) (fun k => LA.length - k) (fun k => G p l e _ s m args below meth c _ w A _ (σ) 0 0 2 [(3, .int (nI (k))), (0, .ref (w.1 (0))), (1, .int (nI (a))), (2, .int (nI (b)))] []) (fun k hI ih => ?_) (0) ⟨Nat.zero_le _, Nat.zero_le _, Iff.rfl⟩
  obtain ⟨hk1, hk2, hq⟩ := hI
  refine g_iload_n (pc9 := 3) C rfl 0 dX11_isLess_2 rfl rfl ?_
  refine g_aload_n (pc9 := 4) C rfl 1 dX11_isLess_3 rfl rfl ?_
  refine g_get (v := .ref (w.1 (17))) (pc9 := 7) C rfl (0) 26 dX11_isLess_4 (by decide) (ce_0 w (σ)) hin_11 hl_66 rfl (by decide) rfl rfl ?_
  refine g_iload_n (pc9 := 8) C rfl 2 dX11_isLess_7 rfl rfl ?_
  refine g_iald (x := nI (LA.length)) (pc9 := 9) C rfl (17) (a) dX11_isLess_8 (by decide) (ce_17 w (σ)) rfl (by omega) (by decide) hA.1 ?_
  refine g_icmp_ge (pc9 := 12) C rfl 53 dX11_isLess_9 rfl (fun c_1 => ?_) (fun c_1 => ?_)
  · replace c_1 := (nI_leI (by omega) (by omega)).mp c_1
    refine g_iload_n (pc9 := 54) C rfl 0 dX11_isLess_53 rfl rfl ?_
    refine g_aload_n (pc9 := 55) C rfl 1 dX11_isLess_54 rfl rfl ?_
    refine g_get (v := .ref (w.1 (17))) (pc9 := 58) C rfl (0) 26 dX11_isLess_55 (by decide) (ce_0 w (σ)) hin_11 hl_66 rfl (by decide) rfl rfl ?_
    refine g_iload_n (pc9 := 59) C rfl 2 dX11_isLess_58 rfl rfl ?_
    refine g_iald (x := nI (LA.length)) (pc9 := 60) C rfl (17) (a) dX11_isLess_59 (by decide) (ce_17 w (σ)) rfl (by omega) (by decide) hA.1 ?_
    refine g_icmp_eq (pc9 := 63) C rfl 73 dX11_isLess_60 rfl (fun c_2 => ?_) (fun c_2 => ?_)
    · replace c_2 := (nI_eq (by omega) (by omega)).mp c_2
      have hend : k = LA.length ∨ k = LB.length := by omega
      refine g_aload_n (pc9 := 74) C rfl 1 dX11_isLess_73 rfl rfl ?_
      refine g_get (v := .ref (w.1 (17))) (pc9 := 77) C rfl (0) 26 dX11_isLess_74 (by decide) (ce_0 w (σ)) hin_11 hl_66 rfl (by decide) rfl rfl ?_
      refine g_iload_n (pc9 := 78) C rfl 2 dX11_isLess_77 rfl rfl ?_
      refine g_iald (x := nI (LA.length)) (pc9 := 79) C rfl (17) (a) dX11_isLess_78 (by decide) (ce_17 w (σ)) rfl (by omega) (by decide) hA.1 ?_
      refine g_aload_n (pc9 := 80) C rfl 1 dX11_isLess_79 rfl rfl ?_
      refine g_get (v := .ref (w.1 (17))) (pc9 := 83) C rfl (0) 26 dX11_isLess_80 (by decide) (ce_0 w (σ)) hin_11 hl_66 rfl (by decide) rfl rfl ?_
      refine g_iload_n (pc9 := 84) C rfl 3 dX11_isLess_83 rfl rfl ?_
      refine g_iald (x := nI (LB.length)) (pc9 := 85) C rfl (17) (b) dX11_isLess_84 (by decide) (ce_17 w (σ)) rfl (by omega) (by decide) hB.1 ?_
      refine g_icmp_ge (pc9 := 88) C rfl 92 dX11_isLess_85 rfl (fun c_3 => ?_) (fun c_3 => ?_)
      · replace c_3 := (nI_leI (by omega) (by omega)).mp c_3
        have hz : ¬ ltL LA LB := fun h => ltL_n hk2 ⟨by omega, hend⟩ (hq.mp h)
        refine g_iconst (pc9 := 93) C rfl (nI (0)) dX11_isLess_92 rfl ?_
        exact g_zreturn C hr hlk dX11_isLess_93 (by decide) ⟨rfl, by first | exact (pI_t hz).symm | exact (pI_f hz).symm⟩
      · replace c_3 := (not_congr (nI_leI (by omega) (by omega))).mp c_3
        have hz : ltL LA LB := hq.mpr (ltL_y hk1 ⟨by omega, hend⟩)
        refine g_iconst (pc9 := 89) C rfl (nI (1)) dX11_isLess_88 rfl ?_
        refine g_goto C 93 dX11_isLess_89 rfl ?_
        exact g_zreturn C hr hlk dX11_isLess_93 (by decide) ⟨rfl, by first | exact (pI_t hz).symm | exact (pI_f hz).symm⟩
    · replace c_2 := (not_congr (nI_eq (by omega) (by omega))).mp c_2
      refine g_iload_n (pc9 := 64) C rfl 0 dX11_isLess_63 rfl rfl ?_
      refine g_aload_n (pc9 := 65) C rfl 1 dX11_isLess_64 rfl rfl ?_
      refine g_get (v := .ref (w.1 (17))) (pc9 := 68) C rfl (0) 26 dX11_isLess_65 (by decide) (ce_0 w (σ)) hin_11 hl_66 rfl (by decide) rfl rfl ?_
      refine g_iload_n (pc9 := 69) C rfl 3 dX11_isLess_68 rfl rfl ?_
      refine g_iald (x := nI (LB.length)) (pc9 := 70) C rfl (17) (b) dX11_isLess_69 (by decide) (ce_17 w (σ)) rfl (by omega) (by decide) hB.1 ?_
      refine g_icmp_ne (pc9 := 73) C rfl 94 dX11_isLess_70 rfl (fun c_4 => ?_) (fun c_4 => ?_)
      · replace c_4 := (not_congr (nI_eq (by omega) (by omega))).mp c_4
        have hb1 : k < LA.length := by omega
        have hb2 : k < LB.length := by omega
        refine g_aload_n (pc9 := 95) C rfl 1 dX11_isLess_94 rfl rfl ?_
        refine g_get (v := .ref (w.1 (16))) (pc9 := 98) C rfl (0) 25 dX11_isLess_95 (by decide) (ce_0 w (σ)) hin_11 hl_63 rfl (by decide) rfl rfl ?_
        refine g_bipush (pc9 := 100) C rfl (nI (100)) dX11_isLess_98 rfl ?_
        refine g_iload_n (pc9 := 101) C rfl 2 dX11_isLess_100 rfl rfl ?_
        refine g_imulN (pc9 := 102) C rfl dX11_isLess_101 ?_
        refine g_iload_n (pc9 := 103) C rfl 0 dX11_isLess_102 rfl rfl ?_
        refine g_iaddN (pc9 := 104) C rfl dX11_isLess_103 ?_
        refine g_bald (x := LA.getD k 0) (pc9 := 105) C rfl (16) ((100 * a) + k) dX11_isLess_104 (by decide) (ce_16 w (σ)) rfl (by omega) (by decide) (rp_g hA (by omega)) ?_
        refine g_aload_n (pc9 := 106) C rfl 1 dX11_isLess_105 rfl rfl ?_
        refine g_get (v := .ref (w.1 (16))) (pc9 := 109) C rfl (0) 25 dX11_isLess_106 (by decide) (ce_0 w (σ)) hin_11 hl_63 rfl (by decide) rfl rfl ?_
        refine g_bipush (pc9 := 111) C rfl (nI (100)) dX11_isLess_109 rfl ?_
        refine g_iload_n (pc9 := 112) C rfl 3 dX11_isLess_111 rfl rfl ?_
        refine g_imulN (pc9 := 113) C rfl dX11_isLess_112 ?_
        refine g_iload_n (pc9 := 114) C rfl 0 dX11_isLess_113 rfl rfl ?_
        refine g_iaddN (pc9 := 115) C rfl dX11_isLess_114 ?_
        refine g_bald (x := LB.getD k 0) (pc9 := 116) C rfl (16) ((100 * b) + k) dX11_isLess_115 (by decide) (ce_16 w (σ)) rfl (by omega) (by decide) (rp_g hB (by omega)) ?_
        refine g_icmp_ge (pc9 := 119) C rfl 123 dX11_isLess_116 rfl (fun c_5 => ?_) (fun c_5 => ?_)
        · have hz : ¬ ltL LA LB := fun h => ltL_x hb1 hb2 (by first | exact hne | exact absurd hb1 (by omega) | exact absurd hb2 (by omega)) (Int32.not_lt.mpr c_5) (hq.mp h)
          refine g_iconst (pc9 := 124) C rfl (nI (0)) dX11_isLess_123 rfl ?_
          exact g_zreturn C hr hlk dX11_isLess_124 (by decide) ⟨rfl, by first | exact (pI_t hz).symm | exact (pI_f hz).symm⟩
        · have hz : ltL LA LB := hq.mpr (ltL_w hb1 hb2 (Int32.not_le.mp c_5))
          refine g_iconst (pc9 := 120) C rfl (nI (1)) dX11_isLess_119 rfl ?_
          refine g_goto C 124 dX11_isLess_120 rfl ?_
          exact g_zreturn C hr hlk dX11_isLess_124 (by decide) ⟨rfl, by first | exact (pI_t hz).symm | exact (pI_f hz).symm⟩
      · replace c_4 := (nI_eq (by omega) (by omega)).mp c_4
        have hend : k = LA.length ∨ k = LB.length := by omega
        refine g_aload_n (pc9 := 74) C rfl 1 dX11_isLess_73 rfl rfl ?_
        refine g_get (v := .ref (w.1 (17))) (pc9 := 77) C rfl (0) 26 dX11_isLess_74 (by decide) (ce_0 w (σ)) hin_11 hl_66 rfl (by decide) rfl rfl ?_
        refine g_iload_n (pc9 := 78) C rfl 2 dX11_isLess_77 rfl rfl ?_
        refine g_iald (x := nI (LA.length)) (pc9 := 79) C rfl (17) (a) dX11_isLess_78 (by decide) (ce_17 w (σ)) rfl (by omega) (by decide) hA.1 ?_
        refine g_aload_n (pc9 := 80) C rfl 1 dX11_isLess_79 rfl rfl ?_
        refine g_get (v := .ref (w.1 (17))) (pc9 := 83) C rfl (0) 26 dX11_isLess_80 (by decide) (ce_0 w (σ)) hin_11 hl_66 rfl (by decide) rfl rfl ?_
        refine g_iload_n (pc9 := 84) C rfl 3 dX11_isLess_83 rfl rfl ?_
        refine g_iald (x := nI (LB.length)) (pc9 := 85) C rfl (17) (b) dX11_isLess_84 (by decide) (ce_17 w (σ)) rfl (by omega) (by decide) hB.1 ?_
        refine g_icmp_ge (pc9 := 88) C rfl 92 dX11_isLess_85 rfl (fun c_6 => ?_) (fun c_6 => ?_)
        · replace c_6 := (nI_leI (by omega) (by omega)).mp c_6
          have hz : ¬ ltL LA LB := fun h => ltL_n hk2 ⟨by omega, hend⟩ (hq.mp h)
          refine g_iconst (pc9 := 93) C rfl (nI (0)) dX11_isLess_92 rfl ?_
          exact g_zreturn C hr hlk dX11_isLess_93 (by decide) ⟨rfl, by first | exact (pI_t hz).symm | exact (pI_f hz).symm⟩
        · replace c_6 := (not_congr (nI_leI (by omega) (by omega))).mp c_6
          have hz : ltL LA LB := hq.mpr (ltL_y hk1 ⟨by omega, hend⟩)
          refine g_iconst (pc9 := 89) C rfl (nI (1)) dX11_isLess_88 rfl ?_
          refine g_goto C 93 dX11_isLess_89 rfl ?_
          exact g_zreturn C hr hlk dX11_isLess_93 (by decide) ⟨rfl, by first | exact (pI_t hz).symm | exact (pI_f hz).symm⟩
  · replace c_1 := (not_congr (nI_leI (by omega) (by omega))).mp c_1
    refine g_iload_n (pc9 := 13) C rfl 0 dX11_isLess_12 rfl rfl ?_
    refine g_aload_n (pc9 := 14) C rfl 1 dX11_isLess_13 rfl rfl ?_
    refine g_get (v := .ref (w.1 (17))) (pc9 := 17) C rfl (0) 26 dX11_isLess_14 (by decide) (ce_0 w (σ)) hin_11 hl_66 rfl (by decide) rfl rfl ?_
    refine g_iload_n (pc9 := 18) C rfl 3 dX11_isLess_17 rfl rfl ?_
    refine g_iald (x := nI (LB.length)) (pc9 := 19) C rfl (17) (b) dX11_isLess_18 (by decide) (ce_17 w (σ)) rfl (by omega) (by decide) hB.1 ?_
    refine g_icmp_ge (pc9 := 22) C rfl 53 dX11_isLess_19 rfl (fun c_7 => ?_) (fun c_7 => ?_)
    · replace c_7 := (nI_leI (by omega) (by omega)).mp c_7
      refine g_iload_n (pc9 := 54) C rfl 0 dX11_isLess_53 rfl rfl ?_
      refine g_aload_n (pc9 := 55) C rfl 1 dX11_isLess_54 rfl rfl ?_
      refine g_get (v := .ref (w.1 (17))) (pc9 := 58) C rfl (0) 26 dX11_isLess_55 (by decide) (ce_0 w (σ)) hin_11 hl_66 rfl (by decide) rfl rfl ?_
      refine g_iload_n (pc9 := 59) C rfl 2 dX11_isLess_58 rfl rfl ?_
      refine g_iald (x := nI (LA.length)) (pc9 := 60) C rfl (17) (a) dX11_isLess_59 (by decide) (ce_17 w (σ)) rfl (by omega) (by decide) hA.1 ?_
      refine g_icmp_eq (pc9 := 63) C rfl 73 dX11_isLess_60 rfl (fun c_8 => ?_) (fun c_8 => ?_)
      · replace c_8 := (nI_eq (by omega) (by omega)).mp c_8
        have hend : k = LA.length ∨ k = LB.length := by omega
        refine g_aload_n (pc9 := 74) C rfl 1 dX11_isLess_73 rfl rfl ?_
        refine g_get (v := .ref (w.1 (17))) (pc9 := 77) C rfl (0) 26 dX11_isLess_74 (by decide) (ce_0 w (σ)) hin_11 hl_66 rfl (by decide) rfl rfl ?_
        refine g_iload_n (pc9 := 78) C rfl 2 dX11_isLess_77 rfl rfl ?_
        refine g_iald (x := nI (LA.length)) (pc9 := 79) C rfl (17) (a) dX11_isLess_78 (by decide) (ce_17 w (σ)) rfl (by omega) (by decide) hA.1 ?_
        refine g_aload_n (pc9 := 80) C rfl 1 dX11_isLess_79 rfl rfl ?_
        refine g_get (v := .ref (w.1 (17))) (pc9 := 83) C rfl (0) 26 dX11_isLess_80 (by decide) (ce_0 w (σ)) hin_11 hl_66 rfl (by decide) rfl rfl ?_
        refine g_iload_n (pc9 := 84) C rfl 3 dX11_isLess_83 rfl rfl ?_
        refine g_iald (x := nI (LB.length)) (pc9 := 85) C rfl (17) (b) dX11_isLess_84 (by decide) (ce_17 w (σ)) rfl (by omega) (by decide) hB.1 ?_
        refine g_icmp_ge (pc9 := 88) C rfl 92 dX11_isLess_85 rfl (fun c_9 => ?_) (fun c_9 => ?_)
        · replace c_9 := (nI_leI (by omega) (by omega)).mp c_9
          have hz : ¬ ltL LA LB := fun h => ltL_n hk2 ⟨by omega, hend⟩ (hq.mp h)
          refine g_iconst (pc9 := 93) C rfl (nI (0)) dX11_isLess_92 rfl ?_
          exact g_zreturn C hr hlk dX11_isLess_93 (by decide) ⟨rfl, by first | exact (pI_t hz).symm | exact (pI_f hz).symm⟩
        · replace c_9 := (not_congr (nI_leI (by omega) (by omega))).mp c_9
          have hz : ltL LA LB := hq.mpr (ltL_y hk1 ⟨by omega, hend⟩)
          refine g_iconst (pc9 := 89) C rfl (nI (1)) dX11_isLess_88 rfl ?_
          refine g_goto C 93 dX11_isLess_89 rfl ?_
          exact g_zreturn C hr hlk dX11_isLess_93 (by decide) ⟨rfl, by first | exact (pI_t hz).symm | exact (pI_f hz).symm⟩
      · replace c_8 := (not_congr (nI_eq (by omega) (by omega))).mp c_8
        refine g_iload_n (pc9 := 64) C rfl 0 dX11_isLess_63 rfl rfl ?_
        refine g_aload_n (pc9 := 65) C rfl 1 dX11_isLess_64 rfl rfl ?_
        refine g_get (v := .ref (w.1 (17))) (pc9 := 68) C rfl (0) 26 dX11_isLess_65 (by decide) (ce_0 w (σ)) hin_11 hl_66 rfl (by decide) rfl rfl ?_
        refine g_iload_n (pc9 := 69) C rfl 3 dX11_isLess_68 rfl rfl ?_
        refine g_iald (x := nI (LB.length)) (pc9 := 70) C rfl (17) (b) dX11_isLess_69 (by decide) (ce_17 w (σ)) rfl (by omega) (by decide) hB.1 ?_
        refine g_icmp_ne (pc9 := 73) C rfl 94 dX11_isLess_70 rfl (fun c_10 => ?_) (fun c_10 => ?_)
        · replace c_10 := (not_congr (nI_eq (by omega) (by omega))).mp c_10
          have hb1 : k < LA.length := by omega
          have hb2 : k < LB.length := by omega
          refine g_aload_n (pc9 := 95) C rfl 1 dX11_isLess_94 rfl rfl ?_
          refine g_get (v := .ref (w.1 (16))) (pc9 := 98) C rfl (0) 25 dX11_isLess_95 (by decide) (ce_0 w (σ)) hin_11 hl_63 rfl (by decide) rfl rfl ?_
          refine g_bipush (pc9 := 100) C rfl (nI (100)) dX11_isLess_98 rfl ?_
          refine g_iload_n (pc9 := 101) C rfl 2 dX11_isLess_100 rfl rfl ?_
          refine g_imulN (pc9 := 102) C rfl dX11_isLess_101 ?_
          refine g_iload_n (pc9 := 103) C rfl 0 dX11_isLess_102 rfl rfl ?_
          refine g_iaddN (pc9 := 104) C rfl dX11_isLess_103 ?_
          refine g_bald (x := LA.getD k 0) (pc9 := 105) C rfl (16) ((100 * a) + k) dX11_isLess_104 (by decide) (ce_16 w (σ)) rfl (by omega) (by decide) (rp_g hA (by omega)) ?_
          refine g_aload_n (pc9 := 106) C rfl 1 dX11_isLess_105 rfl rfl ?_
          refine g_get (v := .ref (w.1 (16))) (pc9 := 109) C rfl (0) 25 dX11_isLess_106 (by decide) (ce_0 w (σ)) hin_11 hl_63 rfl (by decide) rfl rfl ?_
          refine g_bipush (pc9 := 111) C rfl (nI (100)) dX11_isLess_109 rfl ?_
          refine g_iload_n (pc9 := 112) C rfl 3 dX11_isLess_111 rfl rfl ?_
          refine g_imulN (pc9 := 113) C rfl dX11_isLess_112 ?_
          refine g_iload_n (pc9 := 114) C rfl 0 dX11_isLess_113 rfl rfl ?_
          refine g_iaddN (pc9 := 115) C rfl dX11_isLess_114 ?_
          refine g_bald (x := LB.getD k 0) (pc9 := 116) C rfl (16) ((100 * b) + k) dX11_isLess_115 (by decide) (ce_16 w (σ)) rfl (by omega) (by decide) (rp_g hB (by omega)) ?_
          refine g_icmp_ge (pc9 := 119) C rfl 123 dX11_isLess_116 rfl (fun c_11 => ?_) (fun c_11 => ?_)
          · have hz : ¬ ltL LA LB := fun h => ltL_x hb1 hb2 (by first | exact hne | exact absurd hb1 (by omega) | exact absurd hb2 (by omega)) (Int32.not_lt.mpr c_11) (hq.mp h)
            refine g_iconst (pc9 := 124) C rfl (nI (0)) dX11_isLess_123 rfl ?_
            exact g_zreturn C hr hlk dX11_isLess_124 (by decide) ⟨rfl, by first | exact (pI_t hz).symm | exact (pI_f hz).symm⟩
          · have hz : ltL LA LB := hq.mpr (ltL_w hb1 hb2 (Int32.not_le.mp c_11))
            refine g_iconst (pc9 := 120) C rfl (nI (1)) dX11_isLess_119 rfl ?_
            refine g_goto C 124 dX11_isLess_120 rfl ?_
            exact g_zreturn C hr hlk dX11_isLess_124 (by decide) ⟨rfl, by first | exact (pI_t hz).symm | exact (pI_f hz).symm⟩
        · replace c_10 := (nI_eq (by omega) (by omega)).mp c_10
          have hend : k = LA.length ∨ k = LB.length := by omega
          refine g_aload_n (pc9 := 74) C rfl 1 dX11_isLess_73 rfl rfl ?_
          refine g_get (v := .ref (w.1 (17))) (pc9 := 77) C rfl (0) 26 dX11_isLess_74 (by decide) (ce_0 w (σ)) hin_11 hl_66 rfl (by decide) rfl rfl ?_
          refine g_iload_n (pc9 := 78) C rfl 2 dX11_isLess_77 rfl rfl ?_
          refine g_iald (x := nI (LA.length)) (pc9 := 79) C rfl (17) (a) dX11_isLess_78 (by decide) (ce_17 w (σ)) rfl (by omega) (by decide) hA.1 ?_
          refine g_aload_n (pc9 := 80) C rfl 1 dX11_isLess_79 rfl rfl ?_
          refine g_get (v := .ref (w.1 (17))) (pc9 := 83) C rfl (0) 26 dX11_isLess_80 (by decide) (ce_0 w (σ)) hin_11 hl_66 rfl (by decide) rfl rfl ?_
          refine g_iload_n (pc9 := 84) C rfl 3 dX11_isLess_83 rfl rfl ?_
          refine g_iald (x := nI (LB.length)) (pc9 := 85) C rfl (17) (b) dX11_isLess_84 (by decide) (ce_17 w (σ)) rfl (by omega) (by decide) hB.1 ?_
          refine g_icmp_ge (pc9 := 88) C rfl 92 dX11_isLess_85 rfl (fun c_12 => ?_) (fun c_12 => ?_)
          · replace c_12 := (nI_leI (by omega) (by omega)).mp c_12
            have hz : ¬ ltL LA LB := fun h => ltL_n hk2 ⟨by omega, hend⟩ (hq.mp h)
            refine g_iconst (pc9 := 93) C rfl (nI (0)) dX11_isLess_92 rfl ?_
            exact g_zreturn C hr hlk dX11_isLess_93 (by decide) ⟨rfl, by first | exact (pI_t hz).symm | exact (pI_f hz).symm⟩
          · replace c_12 := (not_congr (nI_leI (by omega) (by omega))).mp c_12
            have hz : ltL LA LB := hq.mpr (ltL_y hk1 ⟨by omega, hend⟩)
            refine g_iconst (pc9 := 89) C rfl (nI (1)) dX11_isLess_88 rfl ?_
            refine g_goto C 93 dX11_isLess_89 rfl ?_
            exact g_zreturn C hr hlk dX11_isLess_93 (by decide) ⟨rfl, by first | exact (pI_t hz).symm | exact (pI_f hz).symm⟩
    · replace c_7 := (not_congr (nI_leI (by omega) (by omega))).mp c_7
      refine g_aload_n (pc9 := 23) C rfl 1 dX11_isLess_22 rfl rfl ?_
      refine g_get (v := .ref (w.1 (16))) (pc9 := 26) C rfl (0) 25 dX11_isLess_23 (by decide) (ce_0 w (σ)) hin_11 hl_63 rfl (by decide) rfl rfl ?_
      refine g_bipush (pc9 := 28) C rfl (nI (100)) dX11_isLess_26 rfl ?_
      refine g_iload_n (pc9 := 29) C rfl 2 dX11_isLess_28 rfl rfl ?_
      refine g_imulN (pc9 := 30) C rfl dX11_isLess_29 ?_
      refine g_iload_n (pc9 := 31) C rfl 0 dX11_isLess_30 rfl rfl ?_
      refine g_iaddN (pc9 := 32) C rfl dX11_isLess_31 ?_
      refine g_bald (x := LA.getD k 0) (pc9 := 33) C rfl (16) ((100 * a) + k) dX11_isLess_32 (by decide) (ce_16 w (σ)) rfl (by omega) (by decide) (rp_g hA (by omega)) ?_
      refine g_aload_n (pc9 := 34) C rfl 1 dX11_isLess_33 rfl rfl ?_
      refine g_get (v := .ref (w.1 (16))) (pc9 := 37) C rfl (0) 25 dX11_isLess_34 (by decide) (ce_0 w (σ)) hin_11 hl_63 rfl (by decide) rfl rfl ?_
      refine g_bipush (pc9 := 39) C rfl (nI (100)) dX11_isLess_37 rfl ?_
      refine g_iload_n (pc9 := 40) C rfl 3 dX11_isLess_39 rfl rfl ?_
      refine g_imulN (pc9 := 41) C rfl dX11_isLess_40 ?_
      refine g_iload_n (pc9 := 42) C rfl 0 dX11_isLess_41 rfl rfl ?_
      refine g_iaddN (pc9 := 43) C rfl dX11_isLess_42 ?_
      refine g_bald (x := LB.getD k 0) (pc9 := 44) C rfl (16) ((100 * b) + k) dX11_isLess_43 (by decide) (ce_16 w (σ)) rfl (by omega) (by decide) (rp_g hB (by omega)) ?_
      refine g_icmp_ne (pc9 := 47) C rfl 53 dX11_isLess_44 rfl (fun c_13 => ?_) (fun c_13 => ?_)
      · have hne : ¬ LA.getD k 0 = LB.getD k 0 := c_13
        refine g_iload_n (pc9 := 54) C rfl 0 dX11_isLess_53 rfl rfl ?_
        refine g_aload_n (pc9 := 55) C rfl 1 dX11_isLess_54 rfl rfl ?_
        refine g_get (v := .ref (w.1 (17))) (pc9 := 58) C rfl (0) 26 dX11_isLess_55 (by decide) (ce_0 w (σ)) hin_11 hl_66 rfl (by decide) rfl rfl ?_
        refine g_iload_n (pc9 := 59) C rfl 2 dX11_isLess_58 rfl rfl ?_
        refine g_iald (x := nI (LA.length)) (pc9 := 60) C rfl (17) (a) dX11_isLess_59 (by decide) (ce_17 w (σ)) rfl (by omega) (by decide) hA.1 ?_
        refine g_icmp_eq (pc9 := 63) C rfl 73 dX11_isLess_60 rfl (fun c_14 => ?_) (fun c_14 => ?_)
        · replace c_14 := (nI_eq (by omega) (by omega)).mp c_14
          have hend : k = LA.length ∨ k = LB.length := by omega
          refine g_aload_n (pc9 := 74) C rfl 1 dX11_isLess_73 rfl rfl ?_
          refine g_get (v := .ref (w.1 (17))) (pc9 := 77) C rfl (0) 26 dX11_isLess_74 (by decide) (ce_0 w (σ)) hin_11 hl_66 rfl (by decide) rfl rfl ?_
          refine g_iload_n (pc9 := 78) C rfl 2 dX11_isLess_77 rfl rfl ?_
          refine g_iald (x := nI (LA.length)) (pc9 := 79) C rfl (17) (a) dX11_isLess_78 (by decide) (ce_17 w (σ)) rfl (by omega) (by decide) hA.1 ?_
          refine g_aload_n (pc9 := 80) C rfl 1 dX11_isLess_79 rfl rfl ?_
          refine g_get (v := .ref (w.1 (17))) (pc9 := 83) C rfl (0) 26 dX11_isLess_80 (by decide) (ce_0 w (σ)) hin_11 hl_66 rfl (by decide) rfl rfl ?_
          refine g_iload_n (pc9 := 84) C rfl 3 dX11_isLess_83 rfl rfl ?_
          refine g_iald (x := nI (LB.length)) (pc9 := 85) C rfl (17) (b) dX11_isLess_84 (by decide) (ce_17 w (σ)) rfl (by omega) (by decide) hB.1 ?_
          refine g_icmp_ge (pc9 := 88) C rfl 92 dX11_isLess_85 rfl (fun c_15 => ?_) (fun c_15 => ?_)
          · replace c_15 := (nI_leI (by omega) (by omega)).mp c_15
            have hz : ¬ ltL LA LB := fun h => ltL_n hk2 ⟨by omega, hend⟩ (hq.mp h)
            refine g_iconst (pc9 := 93) C rfl (nI (0)) dX11_isLess_92 rfl ?_
            exact g_zreturn C hr hlk dX11_isLess_93 (by decide) ⟨rfl, by first | exact (pI_t hz).symm | exact (pI_f hz).symm⟩
          · replace c_15 := (not_congr (nI_leI (by omega) (by omega))).mp c_15
            have hz : ltL LA LB := hq.mpr (ltL_y hk1 ⟨by omega, hend⟩)
            refine g_iconst (pc9 := 89) C rfl (nI (1)) dX11_isLess_88 rfl ?_
            refine g_goto C 93 dX11_isLess_89 rfl ?_
            exact g_zreturn C hr hlk dX11_isLess_93 (by decide) ⟨rfl, by first | exact (pI_t hz).symm | exact (pI_f hz).symm⟩
        · replace c_14 := (not_congr (nI_eq (by omega) (by omega))).mp c_14
          refine g_iload_n (pc9 := 64) C rfl 0 dX11_isLess_63 rfl rfl ?_
          refine g_aload_n (pc9 := 65) C rfl 1 dX11_isLess_64 rfl rfl ?_
          refine g_get (v := .ref (w.1 (17))) (pc9 := 68) C rfl (0) 26 dX11_isLess_65 (by decide) (ce_0 w (σ)) hin_11 hl_66 rfl (by decide) rfl rfl ?_
          refine g_iload_n (pc9 := 69) C rfl 3 dX11_isLess_68 rfl rfl ?_
          refine g_iald (x := nI (LB.length)) (pc9 := 70) C rfl (17) (b) dX11_isLess_69 (by decide) (ce_17 w (σ)) rfl (by omega) (by decide) hB.1 ?_
          refine g_icmp_ne (pc9 := 73) C rfl 94 dX11_isLess_70 rfl (fun c_16 => ?_) (fun c_16 => ?_)
          · replace c_16 := (not_congr (nI_eq (by omega) (by omega))).mp c_16
            have hb1 : k < LA.length := by omega
            have hb2 : k < LB.length := by omega
            refine g_aload_n (pc9 := 95) C rfl 1 dX11_isLess_94 rfl rfl ?_
            refine g_get (v := .ref (w.1 (16))) (pc9 := 98) C rfl (0) 25 dX11_isLess_95 (by decide) (ce_0 w (σ)) hin_11 hl_63 rfl (by decide) rfl rfl ?_
            refine g_bipush (pc9 := 100) C rfl (nI (100)) dX11_isLess_98 rfl ?_
            refine g_iload_n (pc9 := 101) C rfl 2 dX11_isLess_100 rfl rfl ?_
            refine g_imulN (pc9 := 102) C rfl dX11_isLess_101 ?_
            refine g_iload_n (pc9 := 103) C rfl 0 dX11_isLess_102 rfl rfl ?_
            refine g_iaddN (pc9 := 104) C rfl dX11_isLess_103 ?_
            refine g_bald (x := LA.getD k 0) (pc9 := 105) C rfl (16) ((100 * a) + k) dX11_isLess_104 (by decide) (ce_16 w (σ)) rfl (by omega) (by decide) (rp_g hA (by omega)) ?_
            refine g_aload_n (pc9 := 106) C rfl 1 dX11_isLess_105 rfl rfl ?_
            refine g_get (v := .ref (w.1 (16))) (pc9 := 109) C rfl (0) 25 dX11_isLess_106 (by decide) (ce_0 w (σ)) hin_11 hl_63 rfl (by decide) rfl rfl ?_
            refine g_bipush (pc9 := 111) C rfl (nI (100)) dX11_isLess_109 rfl ?_
            refine g_iload_n (pc9 := 112) C rfl 3 dX11_isLess_111 rfl rfl ?_
            refine g_imulN (pc9 := 113) C rfl dX11_isLess_112 ?_
            refine g_iload_n (pc9 := 114) C rfl 0 dX11_isLess_113 rfl rfl ?_
            refine g_iaddN (pc9 := 115) C rfl dX11_isLess_114 ?_
            refine g_bald (x := LB.getD k 0) (pc9 := 116) C rfl (16) ((100 * b) + k) dX11_isLess_115 (by decide) (ce_16 w (σ)) rfl (by omega) (by decide) (rp_g hB (by omega)) ?_
            refine g_icmp_ge (pc9 := 119) C rfl 123 dX11_isLess_116 rfl (fun c_17 => ?_) (fun c_17 => ?_)
            · have hz : ¬ ltL LA LB := fun h => ltL_x hb1 hb2 (by first | exact hne | exact absurd hb1 (by omega) | exact absurd hb2 (by omega)) (Int32.not_lt.mpr c_17) (hq.mp h)
              refine g_iconst (pc9 := 124) C rfl (nI (0)) dX11_isLess_123 rfl ?_
              exact g_zreturn C hr hlk dX11_isLess_124 (by decide) ⟨rfl, by first | exact (pI_t hz).symm | exact (pI_f hz).symm⟩
            · have hz : ltL LA LB := hq.mpr (ltL_w hb1 hb2 (Int32.not_le.mp c_17))
              refine g_iconst (pc9 := 120) C rfl (nI (1)) dX11_isLess_119 rfl ?_
              refine g_goto C 124 dX11_isLess_120 rfl ?_
              exact g_zreturn C hr hlk dX11_isLess_124 (by decide) ⟨rfl, by first | exact (pI_t hz).symm | exact (pI_f hz).symm⟩
          · replace c_16 := (nI_eq (by omega) (by omega)).mp c_16
            have hend : k = LA.length ∨ k = LB.length := by omega
            refine g_aload_n (pc9 := 74) C rfl 1 dX11_isLess_73 rfl rfl ?_
            refine g_get (v := .ref (w.1 (17))) (pc9 := 77) C rfl (0) 26 dX11_isLess_74 (by decide) (ce_0 w (σ)) hin_11 hl_66 rfl (by decide) rfl rfl ?_
            refine g_iload_n (pc9 := 78) C rfl 2 dX11_isLess_77 rfl rfl ?_
            refine g_iald (x := nI (LA.length)) (pc9 := 79) C rfl (17) (a) dX11_isLess_78 (by decide) (ce_17 w (σ)) rfl (by omega) (by decide) hA.1 ?_
            refine g_aload_n (pc9 := 80) C rfl 1 dX11_isLess_79 rfl rfl ?_
            refine g_get (v := .ref (w.1 (17))) (pc9 := 83) C rfl (0) 26 dX11_isLess_80 (by decide) (ce_0 w (σ)) hin_11 hl_66 rfl (by decide) rfl rfl ?_
            refine g_iload_n (pc9 := 84) C rfl 3 dX11_isLess_83 rfl rfl ?_
            refine g_iald (x := nI (LB.length)) (pc9 := 85) C rfl (17) (b) dX11_isLess_84 (by decide) (ce_17 w (σ)) rfl (by omega) (by decide) hB.1 ?_
            refine g_icmp_ge (pc9 := 88) C rfl 92 dX11_isLess_85 rfl (fun c_18 => ?_) (fun c_18 => ?_)
            · replace c_18 := (nI_leI (by omega) (by omega)).mp c_18
              have hz : ¬ ltL LA LB := fun h => ltL_n hk2 ⟨by omega, hend⟩ (hq.mp h)
              refine g_iconst (pc9 := 93) C rfl (nI (0)) dX11_isLess_92 rfl ?_
              exact g_zreturn C hr hlk dX11_isLess_93 (by decide) ⟨rfl, by first | exact (pI_t hz).symm | exact (pI_f hz).symm⟩
            · replace c_18 := (not_congr (nI_leI (by omega) (by omega))).mp c_18
              have hz : ltL LA LB := hq.mpr (ltL_y hk1 ⟨by omega, hend⟩)
              refine g_iconst (pc9 := 89) C rfl (nI (1)) dX11_isLess_88 rfl ?_
              refine g_goto C 93 dX11_isLess_89 rfl ?_
              exact g_zreturn C hr hlk dX11_isLess_93 (by decide) ⟨rfl, by first | exact (pI_t hz).symm | exact (pI_f hz).symm⟩
      · have hs := ltL_e (by omega) (by omega) (Classical.not_not.mp (fun h => h c_13)) hq
        refine g_iinc (pc9 := 50) C rfl [(3, .int (nI (k + 1))), (0, .ref (w.1 (0))), (1, .int (nI (a))), (2, .int (nI (b)))] 0 (nI (k + 1)) dX11_isLess_47 rfl (nI_1 (k)) (by decide) rfl ?_
        refine g_goto C 2 dX11_isLess_50 rfl ?_
        refine g_sub [0, 1, 2, 3] [(3, .int (nI (k + 1))), (0, .ref (w.1 (0))), (1, .int (nI (a))), (2, .int (nI (b)))] rfl ?_
        exact ih (k + 1) ⟨by omega, by omega, hs⟩ (by omega)
set_option maxRecDepth 100000 in
set_option maxHeartbeats 4000000 in
theorem m_X11_puts_ (l : Launch) (w : Wd) (σ : St) (v : Nat) (hv : v < 47) (L : List Int32) (hr9 : rp (iA σ 16) (iA σ 17) v L) (hl : L.length ≤ 98) (x : Int32) (hx : vp_nar .byte (x.toInt8.toInt32) = x) : MV l yX11_puts_ wsX11_puts_ (rmL 1) w [.ref (w.1 (0)), .int (nI (v)), .int (x)] (σ) (fun σ9 => ∃ tx9 sz9, σ9 = sI (sI σ 16 tx9) 17 sz9 ∧ rp tx9 sz9 v (L ++ [x]) ∧ smT (iA σ 16) (iA σ 17) tx9 sz9 v) := by
  refine MV_of (cc := cX11_puts_) (maxL := 3) (by decide) rfl (Nat.le_of_ble_eq_true rfl) ?_
  intro p e s m args below meth c A C hr hlk
  have C : Cx p s m args c w A cX11_puts_ RX11 3 wsX11_puts_ := C
  have hin_11 : ∀ u ∈ wsX110, u ∈ wsX11_puts_ := by decide +kernel
  have hl_63 : Cond.fieldLink RX11 63 "LineageBenchModel" "texts" "[B" ∈ wsX11_puts_ := by decide +kernel
  have hl_66 : Cond.fieldLink RX11 66 "LineageBenchModel" "textSize" "[I" ∈ wsX11_puts_ := by decide +kernel
  refine g_aload_n (pc9 := 1) C rfl 0 dX11_puts__0 rfl rfl ?_
  refine g_get (v := .ref (w.1 (16))) (pc9 := 4) C rfl (0) 25 dX11_puts__1 (by decide) (ce_0 w (σ)) hin_11 hl_63 rfl (by decide) rfl rfl ?_
  refine g_bipush (pc9 := 6) C rfl (nI (100)) dX11_puts__4 rfl ?_
  refine g_iload_n (pc9 := 7) C rfl 1 dX11_puts__6 rfl rfl ?_
  refine g_imulN (pc9 := 8) C rfl dX11_puts__7 ?_
  refine g_aload_n (pc9 := 9) C rfl 0 dX11_puts__8 rfl rfl ?_
  refine g_get (v := .ref (w.1 (17))) (pc9 := 12) C rfl (0) 26 dX11_puts__9 (by decide) (ce_0 w (σ)) hin_11 hl_66 rfl (by decide) rfl rfl ?_
  refine g_iload_n (pc9 := 13) C rfl 1 dX11_puts__12 rfl rfl ?_
  refine g_iald (x := nI (L.length)) (pc9 := 14) C rfl (17) (v) dX11_puts__13 (by decide) (ce_17 w (σ)) rfl (by omega) (by decide) hr9.1 ?_
  refine g_iaddN (pc9 := 15) C rfl dX11_puts__14 ?_
  refine g_iload_n (pc9 := 16) C rfl 2 dX11_puts__15 rfl rfl ?_
  refine g_i2b (pc9 := 17) C rfl dX11_puts__16 ?_
  refine g_bast (pc9 := 18) C rfl (16) ((100 * v) + (L.length)) (iA σ (16)) dX11_puts__17 (by decide) (fun _ => rfl) (ce_16 w (σ)) rfl (by omega) (by decide) rfl ?_
  refine g_aload_n (pc9 := 19) C rfl 0 dX11_puts__18 rfl rfl ?_
  refine g_get (v := .ref (w.1 (17))) (pc9 := 22) C rfl (0) 26 dX11_puts__19 (by decide) (ce_0 w (sI σ (16) (upd (iA σ (16)) ((100 * v) + (L.length)) (vp_nar .byte ((x).toInt8.toInt32))))) hin_11 hl_66 rfl (by decide) rfl rfl ?_
  refine g_iload_n (pc9 := 23) C rfl 1 dX11_puts__22 rfl rfl ?_
  refine g_dup2 (pc9 := 24) C rfl dX11_puts__23 rfl rfl ?_
  refine g_iald (x := nI (L.length)) (pc9 := 25) C rfl (17) (v) dX11_puts__24 (by decide) (ce_17 w (sI σ (16) (upd (iA σ (16)) ((100 * v) + (L.length)) (vp_nar .byte ((x).toInt8.toInt32))))) rfl (by omega) (by decide) ((congrFun (iA_n (by decide)) _).trans hr9.1) ?_
  refine g_iconst (pc9 := 26) C rfl (nI (1)) dX11_puts__25 rfl ?_
  refine g_iaddN (pc9 := 27) C rfl dX11_puts__26 ?_
  refine g_iast (pc9 := 28) C rfl (17) (v) (iA σ (17)) dX11_puts__27 (by decide) (fun _ => rfl) (ce_17 w (sI σ (16) (upd (iA σ (16)) ((100 * v) + (L.length)) (vp_nar .byte ((x).toInt8.toInt32))))) rfl (by omega) (by decide) (iA_n (by decide)) ?_
  exact g_return C hr hlk dX11_puts__28 ⟨upd (iA σ 16) (100 * v + L.length) x, upd (iA σ 17) v (nI (L.length + 1)), by rw [hx], rp_put hr9, sm_put (by omega)⟩

/-! The reference: partOf, joins, build -/
abbrev mp2 (σ : St) (t : Nat) : Int32 := nI 1 <<< (iA σ 5 t &&& 31) ||| nI 1 <<< (iA σ 6 t &&& 31)
abbrev mp3 (σ : St) (t : Nat) : Int32 := mp2 σ t ||| nI 1 <<< (iA σ 7 t &&& 31)
def mpS (σ : St) (x : Int32) (t : Nat) (q : Int32) : Int32 := if mp3 σ t &&& (x ^^^ (-1)) = 0 ∧ ¬ mp2 σ t &&& q = 0 then q ||| mp2 σ t else q
def mpU (σ : St) (x q : Int32) : Nat → Int32
  | 0 => q
  | t + 1 => mpS σ x t (mpU σ x q t)
def mpI (σ : St) (z : Nat) (x : Int32) (k : Nat) : Nat → Int32
  | 0 => bitI k
  | j + 1 => mpU σ x (mpI σ z x k j) z
/-- the part of k within x -/
def mpaR (σ : St) (z : Nat) (x : Int32) (k : Nat) (r : Int32) : Prop := ∃ j, r = mpI σ z x k j ∧ mpU σ x r z = r
theorem mpI_f {σ : St} {z : Nat} {x : Int32} {k j : Nat} (h : mpU σ x (mpI σ z x k j) z = mpI σ z x k j) : ∀ i, j ≤ i → mpI σ z x k i = mpI σ z x k j
  | 0, hi => by rw [show j = 0 by omega]
  | i + 1, hi => by
    by_cases e : j = i + 1
    · rw [e]
    · show mpU σ x (mpI σ z x k i) z = _
      rw [mpI_f h i (by omega), h]
theorem mpaR_u {σ : St} {z : Nat} {x : Int32} {k : Nat} {r r2 : Int32} (h1 : mpaR σ z x k r) (h2 : mpaR σ z x k r2) : r = r2 := by
  obtain ⟨j, rfl, e1⟩ := h1
  obtain ⟨i, rfl, e2⟩ := h2
  rcases Nat.le_total j i with h | h
  · exact (mpI_f e1 i h).symm
  · exact mpI_f e2 j h
theorem mpaR_st {σ τ : St} {z : Nat} {x : Int32} {k : Nat} {r : Int32} (h5 : iA τ 5 = iA σ 5) (h6 : iA τ 6 = iA σ 6) (h7 : iA τ 7 = iA σ 7) (h : mpaR τ z x k r) : mpaR σ z x k r := by
  have e1 : ∀ t q, mpS τ x t q = mpS σ x t q := fun t q => by
    unfold mpS mp3 mp2
    rw [h5, h6, h7]
  have e2 : ∀ z q, mpU τ x q z = mpU σ x q z := by
    intro z
    induction z with
    | zero => intro q; rfl
    | succ z ih => intro q; show mpS τ x z (mpU τ x q z) = mpS σ x z (mpU σ x q z); rw [ih, e1]
  have e3 : ∀ j, mpI τ z x k j = mpI σ z x k j := by
    intro j
    induction j with
    | zero => rfl
    | succ j ih => show mpU τ x (mpI τ z x k j) z = mpU σ x (mpI σ z x k j) z; rw [ih, e2]
  obtain ⟨j, h1, h2⟩ := h
  exact ⟨j, by rw [h1, e3], by rw [← e2]; exact h2⟩
noncomputable def mpa (σ : St) (z : Nat) (x : Int32) (k : Nat) : Int32 := @dite Int32 (∃ r, mpaR σ z x k r) (Classical.propDecidable _) (fun h => Classical.choose h) (fun _ => 0)
theorem mpa_e {σ : St} {z : Nat} {x : Int32} {k : Nat} {r : Int32} (h : mpaR σ z x k r) : r = mpa σ z x k := by
  have h2 : ∃ r, mpaR σ z x k r := ⟨r, h⟩
  have : mpa σ z x k = Classical.choose h2 := by unfold mpa; exact dif_pos h2
  rw [this]
  exact mpaR_u h (Classical.choose_spec h2)
abbrev vN (x : Int32) : Nat := x.toBitVec.toNat
theorem vN_or (x y : Int32) : vN x ≤ vN (x ||| y) := by
  show x.toBitVec.toNat ≤ (x.toBitVec ||| y.toBitVec).toNat
  rw [BitVec.toNat_or]
  exact Nat.left_le_or
theorem vN_lt (x : Int32) : vN x < 4294967296 := x.toBitVec.isLt
theorem vN_inj {x y : Int32} (h : vN x = vN y) : x = y := Int32.toBitVec_inj.mp (BitVec.eq_of_toNat_eq h)
theorem mpU_le {σ : St} {x q : Int32} : ∀ z, vN q ≤ vN (mpU σ x q z)
  | 0 => Nat.le_refl _
  | z + 1 => by
    have h := mpU_le (σ := σ) (x := x) (q := q) z
    show vN q ≤ vN (mpS σ x z (mpU σ x q z))
    unfold mpS
    split
    · exact Nat.le_trans h (vN_or _ _)
    · exact h
theorem mp_mu {σ : St} {x q : Int32} {z : Nat} {y : Int32} (hy : ¬ y = q) : 2 * (4294967296 - vN (mpU σ x q z)) + (if q = mpU σ x q z then 0 else 1) < 2 * (4294967296 - vN q) + (if y = q then 0 else 1) := by
  rw [if_neg hy]
  have h1 := mpU_le (σ := σ) (x := x) (q := q) z
  have h2 := vN_lt (mpU σ x q z)
  by_cases e : q = mpU σ x q z
  · rw [if_pos e, ← e]; omega
  · rw [if_neg e]
    have : vN q ≠ vN (mpU σ x q z) := fun h => e (vN_inj h)
    omega
theorem bit_nz {k : Nat} (h : k < 12) : ¬ bitI k = nI 0 := by
  have : ∀ q : Fin 12, ¬ bitI q.val = nI 0 := by decide +kernel
  exact this ⟨k, h⟩
set_option maxRecDepth 100000 in
set_option maxHeartbeats 4000000 in
theorem m_X11_partOf (l : Launch) (w : Wd) (σ : St) (z : Nat) (hz : nF σ 0 11 = nI z) (h80 : z ≤ 80) (x : Int32) (k : Nat) (hk : k < 12) : MI l yX11_partOf wsX11_partOf (rmL 1) w [.ref (w.1 (0)), .int (x), .int (nI (k))] (σ) (fun r σ9 => σ9 = σ ∧ mpaR σ z x k r) := by
  refine MI_of (cc := cX11_partOf) (maxL := 7) (ret := .int) (by decide) rfl (Nat.le_of_ble_eq_true rfl) ?_
  intro p e s m args below meth c A C hr hlk
  have C : Cx p s m args c w A cX11_partOf RX11 7 wsX11_partOf := C
  have hin_11 : ∀ u ∈ wsX110, u ∈ wsX11_partOf := by decide +kernel
  have hl_27 : Cond.fieldLink RX11 27 "LineageBenchModel" "tripleA" "[I" ∈ wsX11_partOf := by decide +kernel
  have hl_30 : Cond.fieldLink RX11 30 "LineageBenchModel" "tripleB" "[I" ∈ wsX11_partOf := by decide +kernel
  have hl_33 : Cond.fieldLink RX11 33 "LineageBenchModel" "tripleC" "[I" ∈ wsX11_partOf := by decide +kernel
  have hl_222 : Cond.fieldLink RX11 222 "LineageBenchModel" "triples" "I" ∈ wsX11_partOf := by decide +kernel
  refine g_iconst (pc9 := 1) C rfl (nI (1)) dX11_partOf_0 rfl ?_
  refine g_iload_n (pc9 := 2) C rfl 2 dX11_partOf_1 rfl rfl ?_
  refine g_ishl (pc9 := 3) C rfl dX11_partOf_2 ?_
  refine g_istore_n (pc9 := 4) C rfl [(3, .int ((nI (1)) <<< ((nI (k)) &&& 31))), (0, .ref (w.1 (0))), (1, .int (x)), (2, .int (nI (k)))] dX11_partOf_3 rfl (by decide) rfl ?_
  refine g_iconst (pc9 := 5) C rfl (nI (0)) dX11_partOf_4 rfl ?_
  refine g_istore (pc9 := 7) C rfl [(4, .int (nI (0))), (3, .int ((nI (1)) <<< ((nI (k)) &&& 31))), (0, .ref (w.1 (0))), (1, .int (x)), (2, .int (nI (k)))] dX11_partOf_5 (by decide) rfl ?_
  refine g_sub [0, 1, 2, 3, 4] [(4, .int (nI (0))), (3, .int ((nI (1)) <<< ((nI (k)) &&& 31))), (0, .ref (w.1 (0))), (1, .int (x)), (2, .int (nI (k)))] rfl ?_
  refine g_lp2 (α := Int32) (β := Int32) (fun y q => (∃ j, q = mpI σ z x k j) ∧ (¬ y = q ∨ mpU σ x q z = q)) (fun y q => 2 * (4294967296 - vN q) + (if y = q then 0 else 1)) (fun y q => G p l e _ s m args below meth c _ w A _ (σ) 0 0 7 [(4, .int (y)), (3, .int (q)), (0, .ref (w.1 (0))), (1, .int (x)), (2, .int (nI (k)))] []) (fun y q hI ih0 => ?_) (nI 0) (bitI k) ⟨⟨0, rfl⟩, Or.inl (fun h => bit_nz hk h.symm)⟩
  obtain ⟨⟨j, hj⟩, hf⟩ := hI
  refine g_iload (pc9 := 9) C rfl 0 dX11_partOf_7 rfl ?_
  refine g_iload_n (pc9 := 10) C rfl 1 dX11_partOf_9 rfl rfl ?_
  refine g_icmp_eq (pc9 := 13) C rfl 89 dX11_partOf_10 rfl (fun c_1 => ?_) (fun c_1 => ?_)
  · have hfx : mpU σ x q z = q := hf.resolve_left (fun h => h c_1)
    refine g_iload_n (pc9 := 90) C rfl 1 dX11_partOf_89 rfl rfl ?_
    exact g_ireturn C hr hlk dX11_partOf_90 ⟨rfl, j, hj, hfx⟩
  · have hyq : ¬ y = q := c_1
    refine g_iload_n (pc9 := 14) C rfl 1 dX11_partOf_13 rfl rfl ?_
    refine g_istore (pc9 := 16) C rfl [(4, .int (q)), (3, .int (q)), (0, .ref (w.1 (0))), (1, .int (x)), (2, .int (nI (k)))] dX11_partOf_14 (by decide) rfl ?_
    refine g_iconst (pc9 := 17) C rfl (nI (0)) dX11_partOf_16 rfl ?_
    refine g_istore (pc9 := 19) C rfl [(5, .int (nI (0))), (4, .int (q)), (3, .int (q)), (0, .ref (w.1 (0))), (1, .int (x)), (2, .int (nI (k)))] dX11_partOf_17 (by decide) rfl ?_
    refine g_sub [0, 1, 2, 3, 4, 5] [(5, .int (nI (0))), (4, .int (q)), (3, .int (q)), (0, .ref (w.1 (0))), (1, .int (x)), (2, .int (nI (k)))] rfl ?_
    refine g_lp1 (α := Nat) (fun t => t ≤ z) (fun t => z - t) (fun t => G p l e _ s m args below meth c _ w A _ (σ) 0 0 19 [(5, .int (nI (t))), (4, .int (q)), (3, .int (mpU σ x q t)), (0, .ref (w.1 (0))), (1, .int (x)), (2, .int (nI (k)))] []) (fun t ht ih1 => ?_) (0) (Nat.zero_le _)
    refine g_iload (pc9 := 21) C rfl 0 dX11_partOf_19 rfl ?_
    refine g_aload_n (pc9 := 22) C rfl 3 dX11_partOf_21 rfl rfl ?_
    refine g_get (v := .int (nI (z))) (pc9 := 25) C rfl (0) 11 dX11_partOf_22 (by decide) (ce_0 w (σ)) hin_11 hl_222 rfl (by decide) rfl (congrArg (fun z => some (Value.int z)) hz) ?_
    refine g_icmp_ge (pc9 := 28) C rfl 86 dX11_partOf_25 rfl (fun c_2 => ?_) (fun c_2 => ?_)
    · replace c_2 := (nI_leI (by omega) (by omega)).mp c_2
      refine g_goto C 7 dX11_partOf_86 rfl ?_
      refine g_sub [1, 2, 3, 4, 5] [(4, .int (q)), (3, .int (mpU σ x q t)), (0, .ref (w.1 (0))), (1, .int (x)), (2, .int (nI (k)))] rfl ?_
      rw [show t = z by omega]
      refine ih0 q (mpU σ x q z) ⟨⟨j + 1, by rw [hj]; rfl⟩, ?_⟩ (mp_mu hyq)
      by_cases e : q = mpU σ x q z
      · exact Or.inr (by rw [← e, ← e])
      · exact Or.inl e
    · replace c_2 := (not_congr (nI_leI (by omega) (by omega))).mp c_2
      refine g_iconst (pc9 := 29) C rfl (nI (1)) dX11_partOf_28 rfl ?_
      refine g_aload_n (pc9 := 30) C rfl 3 dX11_partOf_29 rfl rfl ?_
      refine g_get (v := .ref (w.1 (5))) (pc9 := 33) C rfl (0) 8 dX11_partOf_30 (by decide) (ce_0 w (σ)) hin_11 hl_27 rfl (by decide) rfl rfl ?_
      refine g_iload (pc9 := 35) C rfl 0 dX11_partOf_33 rfl ?_
      refine g_iald (x := (iA σ (5)) (t)) (pc9 := 36) C rfl (5) (t) dX11_partOf_35 (by decide) (ce_5 w (σ)) rfl (by omega) (by decide) rfl ?_
      refine g_ishl (pc9 := 37) C rfl dX11_partOf_36 ?_
      refine g_iconst (pc9 := 38) C rfl (nI (1)) dX11_partOf_37 rfl ?_
      refine g_aload_n (pc9 := 39) C rfl 3 dX11_partOf_38 rfl rfl ?_
      refine g_get (v := .ref (w.1 (6))) (pc9 := 42) C rfl (0) 9 dX11_partOf_39 (by decide) (ce_0 w (σ)) hin_11 hl_30 rfl (by decide) rfl rfl ?_
      refine g_iload (pc9 := 44) C rfl 0 dX11_partOf_42 rfl ?_
      refine g_iald (x := (iA σ (6)) (t)) (pc9 := 45) C rfl (6) (t) dX11_partOf_44 (by decide) (ce_6 w (σ)) rfl (by omega) (by decide) rfl ?_
      refine g_ishl (pc9 := 46) C rfl dX11_partOf_45 ?_
      refine g_ior (pc9 := 47) C rfl dX11_partOf_46 ?_
      refine g_istore (pc9 := 49) C rfl [(6, .int (((nI (1)) <<< (((iA σ (5)) (t)) &&& 31)) ||| ((nI (1)) <<< (((iA σ (6)) (t)) &&& 31)))), (5, .int (nI (t))), (4, .int (q)), (3, .int (mpU σ x q t)), (0, .ref (w.1 (0))), (1, .int (x)), (2, .int (nI (k)))] dX11_partOf_47 (by decide) rfl ?_
      refine g_iload (pc9 := 51) C rfl 0 dX11_partOf_49 rfl ?_
      refine g_iconst (pc9 := 52) C rfl (nI (1)) dX11_partOf_51 rfl ?_
      refine g_aload_n (pc9 := 53) C rfl 4 dX11_partOf_52 rfl rfl ?_
      refine g_get (v := .ref (w.1 (7))) (pc9 := 56) C rfl (0) 10 dX11_partOf_53 (by decide) (ce_0 w (σ)) hin_11 hl_33 rfl (by decide) rfl rfl ?_
      refine g_iload (pc9 := 58) C rfl 1 dX11_partOf_56 rfl ?_
      refine g_iald (x := (iA σ (7)) (t)) (pc9 := 59) C rfl (7) (t) dX11_partOf_58 (by decide) (ce_7 w (σ)) rfl (by omega) (by decide) rfl ?_
      refine g_ishl (pc9 := 60) C rfl dX11_partOf_59 ?_
      refine g_ior (pc9 := 61) C rfl dX11_partOf_60 ?_
      refine g_iload_n (pc9 := 62) C rfl 5 dX11_partOf_61 rfl rfl ?_
      refine g_iconst (pc9 := 63) C rfl ((-1)) dX11_partOf_62 rfl ?_
      refine g_ixor (pc9 := 64) C rfl dX11_partOf_63 ?_
      refine g_iand (pc9 := 65) C rfl dX11_partOf_64 ?_
      refine g_if_ne (pc9 := 68) C rfl 80 dX11_partOf_65 rfl (fun c_3 => ?_) (fun c_3 => ?_)
      · have hs : mpU σ x q (t + 1) = mpU σ x q t := if_neg (fun h => c_3 h.1)
        refine g_iinc (pc9 := 83) C rfl [(5, .int (nI (t + 1))), (6, .int (((nI (1)) <<< (((iA σ (5)) (t)) &&& 31)) ||| ((nI (1)) <<< (((iA σ (6)) (t)) &&& 31)))), (4, .int (q)), (3, .int (mpU σ x q t)), (0, .ref (w.1 (0))), (1, .int (x)), (2, .int (nI (k)))] 1 (nI (t + 1)) dX11_partOf_80 rfl (nI_1 (t)) (by decide) rfl ?_
        refine g_goto C 19 dX11_partOf_83 rfl ?_
        refine g_sub [0, 2, 3, 4, 5, 6] [(5, .int (nI (t + 1))), (4, .int (q)), (3, .int (mpU σ x q t)), (0, .ref (w.1 (0))), (1, .int (x)), (2, .int (nI (k)))] rfl ?_
        refine g_lv (lv9 := [(5, .int (nI (t + 1))), (4, .int (q)), (3, .int (mpU σ x q (t + 1))), (0, .ref (w.1 (0))), (1, .int (x)), (2, .int (nI (k)))]) (by rw [hs]) ?_
        exact ih1 (t + 1) (by omega) (by omega)
      · have h1 := Classical.not_not.mp (fun h => h c_3)
        refine g_iload (pc9 := 70) C rfl 0 dX11_partOf_68 rfl ?_
        refine g_iload_n (pc9 := 71) C rfl 3 dX11_partOf_70 rfl rfl ?_
        refine g_iand (pc9 := 72) C rfl dX11_partOf_71 ?_
        refine g_if_eq (pc9 := 75) C rfl 80 dX11_partOf_72 rfl (fun c_4 => ?_) (fun c_4 => ?_)
        · have hs : mpU σ x q (t + 1) = mpU σ x q t := if_neg (fun h => h.2 c_4)
          refine g_iinc (pc9 := 83) C rfl [(5, .int (nI (t + 1))), (6, .int (((nI (1)) <<< (((iA σ (5)) (t)) &&& 31)) ||| ((nI (1)) <<< (((iA σ (6)) (t)) &&& 31)))), (4, .int (q)), (3, .int (mpU σ x q t)), (0, .ref (w.1 (0))), (1, .int (x)), (2, .int (nI (k)))] 1 (nI (t + 1)) dX11_partOf_80 rfl (nI_1 (t)) (by decide) rfl ?_
          refine g_goto C 19 dX11_partOf_83 rfl ?_
          refine g_sub [0, 2, 3, 4, 5, 6] [(5, .int (nI (t + 1))), (4, .int (q)), (3, .int (mpU σ x q t)), (0, .ref (w.1 (0))), (1, .int (x)), (2, .int (nI (k)))] rfl ?_
          refine g_lv (lv9 := [(5, .int (nI (t + 1))), (4, .int (q)), (3, .int (mpU σ x q (t + 1))), (0, .ref (w.1 (0))), (1, .int (x)), (2, .int (nI (k)))]) (by rw [hs]) ?_
          exact ih1 (t + 1) (by omega) (by omega)
        · have hs : mpU σ x q (t + 1) = mpU σ x q t ||| mp2 σ t := if_pos ⟨h1, c_4⟩
          refine g_iload_n (pc9 := 76) C rfl 3 dX11_partOf_75 rfl rfl ?_
          refine g_iload (pc9 := 78) C rfl 0 dX11_partOf_76 rfl ?_
          refine g_ior (pc9 := 79) C rfl dX11_partOf_78 ?_
          refine g_istore_n (pc9 := 80) C rfl [(3, .int ((mpU σ x q t) ||| (((nI (1)) <<< (((iA σ (5)) (t)) &&& 31)) ||| ((nI (1)) <<< (((iA σ (6)) (t)) &&& 31))))), (6, .int (((nI (1)) <<< (((iA σ (5)) (t)) &&& 31)) ||| ((nI (1)) <<< (((iA σ (6)) (t)) &&& 31)))), (5, .int (nI (t))), (4, .int (q)), (0, .ref (w.1 (0))), (1, .int (x)), (2, .int (nI (k)))] dX11_partOf_79 rfl (by decide) rfl ?_
          refine g_iinc (pc9 := 83) C rfl [(5, .int (nI (t + 1))), (3, .int ((mpU σ x q t) ||| (((nI (1)) <<< (((iA σ (5)) (t)) &&& 31)) ||| ((nI (1)) <<< (((iA σ (6)) (t)) &&& 31))))), (6, .int (((nI (1)) <<< (((iA σ (5)) (t)) &&& 31)) ||| ((nI (1)) <<< (((iA σ (6)) (t)) &&& 31)))), (4, .int (q)), (0, .ref (w.1 (0))), (1, .int (x)), (2, .int (nI (k)))] 2 (nI (t + 1)) dX11_partOf_80 rfl (nI_1 (t)) (by decide) rfl ?_
          refine g_goto C 19 dX11_partOf_83 rfl ?_
          refine g_sub [0, 3, 1, 4, 5, 6] [(5, .int (nI (t + 1))), (4, .int (q)), (3, .int ((mpU σ x q t) ||| (((nI (1)) <<< (((iA σ (5)) (t)) &&& 31)) ||| ((nI (1)) <<< (((iA σ (6)) (t)) &&& 31))))), (0, .ref (w.1 (0))), (1, .int (x)), (2, .int (nI (k)))] rfl ?_
          refine g_lv (lv9 := [(5, .int (nI (t + 1))), (4, .int (q)), (3, .int (mpU σ x q (t + 1))), (0, .ref (w.1 (0))), (1, .int (x)), (2, .int (nI (k)))]) (by rw [hs]) ?_
          exact ih1 (t + 1) (by omega) (by omega)
/-- the parts of x: what is left, and those found -/
noncomputable def mjP (σ : St) (z : Nat) (x : Int32) : Nat → Int32 × List Int32
  | 0 => (x, [])
  | u + 1 => cI ((mjP σ z x u).1 = 0) (mjP σ z x u) ((mjP σ z x u).1 &&& (mpa σ z x (ntz (mjP σ z x u).1).toNatClampNeg ^^^ (-1)), (mjP σ z x u).2 ++ [mpa σ z x (ntz (mjP σ z x u).1).toNatClampNeg])
theorem mjP_0 {σ : St} {z : Nat} {x : Int32} {u : Nat} (h : (mjP σ z x u).1 = 0) : ∀ i, u ≤ i → mjP σ z x i = mjP σ z x u
  | 0, hi => by rw [show u = 0 by omega]
  | i + 1, hi => by
    by_cases e : u = i + 1
    · rw [e]
    · have h2 := mjP_0 h i (by omega)
      show cI ((mjP σ z x i).1 = 0) (mjP σ z x i) _ = _
      rw [cI_t (by rw [h2]; exact h), h2]
theorem mjP_m {σ : St} {z : Nat} {x y : Int32} {u : Nat} (h : y ∈ (mjP σ z x u).2) : ∀ i, u ≤ i → y ∈ (mjP σ z x i).2
  | 0, hi => by rw [show 0 = u by omega]; exact h
  | i + 1, hi => by
    by_cases e : u = i + 1
    · rw [← e]; exact h
    · have h2 := mjP_m h i (by omega)
      by_cases q : (mjP σ z x i).1 = 0
      · rw [show mjP σ z x (i + 1) = mjP σ z x i from cI_t q]; exact h2
      · rw [show mjP σ z x (i + 1) = _ from cI_f q]; exact List.mem_append_left _ h2
abbrev JS : Type := List Int32 × Fam
noncomputable def mjS (σ : St) (z : Nat) (s : JS) : JS := cI (s.1 = []) s (cI (bC (s.1.getLastD 0) = nI 1) (s.1.dropLast, maA s.2 (s.1.getLastD 0)) (s.1.dropLast ++ (mjP σ z (s.1.getLastD 0) 12).2.reverse, maA s.2 (s.1.getLastD 0)))
def mjC (σ : St) (z : Nat) (s : JS) : Prop := ¬ s.1 = [] ∧ ¬ bC (s.1.getLastD 0) = nI 1 ∧ s.1.getLastD 0 ∈ (mjP σ z (s.1.getLastD 0) 12).2
noncomputable def mjT (σ : St) (z : Nat) (x : Int32) : Nat → JS
  | 0 => ([x], (0, iA σ 13))
  | n + 1 => mjS σ z (mjT σ z x n)
/-- what joining needs: it ends, within the rows -/
def mjK (σ : St) (z : Nat) (x : Int32) (N : Nat) : Prop := N ≤ 300 ∧ ((mjT σ z x N).1 = [] ∨ ∃ m, m < N ∧ mjC σ z (mjT σ z x m)) ∧ ∀ n, n ≤ N → (∀ m, m < n → ¬ mjC σ z (mjT σ z x m)) → (mjT σ z x n).1.length ≤ 24 ∧ (mjT σ z x n).2.1 ≤ n ∧ (¬ (mjT σ z x n).1 = [] → ¬ bC ((mjT σ z x n).1.getLastD 0) = nI 1 → ¬ (mjT σ z x n).1.getLastD 0 = 0 ∧ (mjP σ z ((mjT σ z x n).1.getLastD 0) 12).1 = 0 ∧ ∀ u, u < 12 → ¬ (mjP σ z ((mjT σ z x n).1.getLastD 0) u).1 = 0 → ∃ k, k < 12 ∧ ntz (mjP σ z ((mjT σ z x n).1.getLastD 0) u).1 = nI k)
/-- the row holds the list -/
def hrL (w : Nat → Int32) (bs : List Int32) : Prop := ∀ k, k < bs.length → w k = bs.getD k 0
theorem hrL_app {w : Nat → Int32} {bs : List Int32} {y : Int32} (h : hrL w bs) : hrL (upd w bs.length y) (bs ++ [y]) := by
  intro k hk
  rw [List.length_append] at hk
  by_cases e : k = bs.length
  · rw [e, pk_us]; simp
  · have : k < bs.length := by simp at hk; omega
    rw [pk_un e, h k this, List.getD_eq_getElem?_getD, List.getD_eq_getElem?_getD, List.getElem?_append_left this]
theorem dl_app {bs : List Int32} (h : ¬ bs = []) : bs.dropLast ++ [bs.getLastD 0] = bs := by
  rcases List.eq_nil_or_concat bs with e | ⟨a, b, e⟩
  · exact absurd e h
  · rw [e, List.concat_eq_append]; simp
theorem hrL_dl {w : Nat → Int32} {bs : List Int32} (h : hrL w bs) (hn : ¬ bs = []) : hrL w bs.dropLast ∧ w (bs.length - 1) = bs.getLastD 0 := by
  have e := dl_app hn
  have hl : bs.length = bs.dropLast.length + 1 := by rw [← e]; simp
  constructor
  · intro k hk
    rw [h k (by omega), ← e]
    rw [List.getD_eq_getElem?_getD, List.getD_eq_getElem?_getD, List.getElem?_append_left hk]
    simp
  · rw [h (bs.length - 1) (by omega)]
    rw [show bs.length - 1 = bs.dropLast.length by omega]
    have : bs.getD bs.dropLast.length 0 = (bs.dropLast ++ [bs.getLastD 0]).getD bs.dropLast.length 0 := by rw [e]
    rw [this]
    simp
/-- swapped from both ends, a times -/
def hrR (w : Nat → Int32) (bs ps : List Int32) (a : Nat) : Prop := (∀ k, k < bs.length → w k = bs.getD k 0) ∧ ∀ q, q < ps.length → w (bs.length + q) = if q < a ∨ ps.length - 1 - q < a then ps.getD (ps.length - 1 - q) 0 else ps.getD q 0
theorem hrR_0 {w : Nat → Int32} {bs ps : List Int32} (h : hrL w (bs ++ ps)) : hrR w bs ps 0 := by
  constructor
  · intro k hk
    rw [h k (by rw [List.length_append]; omega), List.getD_eq_getElem?_getD, List.getD_eq_getElem?_getD, List.getElem?_append_left hk]
  · intro q hq
    rw [h (bs.length + q) (by rw [List.length_append]; omega), if_neg (by omega), List.getD_eq_getElem?_getD, List.getD_eq_getElem?_getD, List.getElem?_append_right (by omega), show bs.length + q - bs.length = q by omega]
theorem hrR_e {w : Nat → Int32} {bs ps : List Int32} {a : Nat} (h : hrR w bs ps a) (ha : ps.length - 1 ≤ 2 * a) : hrL w (bs ++ ps.reverse) := by
  intro k hk
  rw [List.length_append, List.length_reverse] at hk
  rw [List.getD_eq_getElem?_getD]
  by_cases e : k < bs.length
  · rw [h.1 k e, List.getElem?_append_left e, List.getD_eq_getElem?_getD]
  · have h2 := h.2 (k - bs.length) (by omega)
    rw [show bs.length + (k - bs.length) = k by omega] at h2
    rw [h2, List.getElem?_append_right (by omega), List.getElem?_reverse (by omega)]
    split
    · rw [List.getD_eq_getElem?_getD]
    · rw [List.getD_eq_getElem?_getD, show ps.length - 1 - (k - bs.length) = k - bs.length by omega]
theorem hrR_s {w : Nat → Int32} {bs ps : List Int32} {a : Nat} (h : hrR w bs ps a) (ha : bs.length + a < bs.length + ps.length - 1 - a) : hrR (upd (upd w (bs.length + a) (w (bs.length + ps.length - 1 - a))) (bs.length + ps.length - 1 - a) (w (bs.length + a))) bs ps (a + 1) := by
  constructor
  · intro k hk
    rw [pk_un (by omega), pk_un (by omega)]
    exact h.1 k hk
  · intro q hq
    have h1 := h.2 a (by omega)
    have h2 := h.2 (ps.length - 1 - a) (by omega)
    rw [show bs.length + (ps.length - 1 - a) = bs.length + ps.length - 1 - a by omega] at h2
    rw [if_neg (by omega)] at h1
    rw [if_neg (by omega)] at h2
    by_cases e1 : q = ps.length - 1 - a
    · rw [show bs.length + q = bs.length + ps.length - 1 - a by omega, pk_us, h1, if_pos (by omega), show ps.length - 1 - q = a by omega]
    · by_cases e2 : q = a
      · rw [pk_un (by omega), show bs.length + q = bs.length + a by omega, pk_us, h2, if_pos (by omega), e2]
      · rw [pk_un (by omega), pk_un (by omega), h.2 q hq]
        by_cases e3 : q < a ∨ ps.length - 1 - q < a
        · rw [if_pos e3, if_pos (by omega)]
        · rw [if_neg e3, if_neg (by omega)]
set_option maxRecDepth 100000 in
set_option maxHeartbeats 4000000 in
theorem m21_rev {p : Program} {l : Launch} {e : Env} {s : State} {m : MethodId} {args : Array Value} {below : List Frame} {meth : Method} {c : Code} {Q : State → Prop} {w : Wd} {A : Nat → Prop} (C : Cx p s m args c w A cX11_joins RX11 9 wsX11_joins) (σ : St) (x y o : Int32) (bs ps : List Int32) (hb : bs.length ≤ 24) (hp1 : 0 < ps.length) (hp : ps.length ≤ 12) (F : Fam) (w0 : Nat → Int32) (h0 : hrL w0 (bs ++ ps)) (kont : ∀ w9 : Nat → Int32, hrL w9 (bs ++ ps.reverse) → G p l e (rmL 2) s m args below meth c Q w A 9 (sN (sI (sI σ (20) (w9)) (13) ((F).2)) (0) 21 (nI ((F).1))) 0 0 158 [(2, .int (nI (bs.length + ps.length))), (0, .ref (w.1 (0))), (1, .int (x))] []) : G p l e (rmL 2) s m args below meth c Q w A 9 (sN (sI (sI σ (20) (w0)) (13) ((F).2)) (0) 21 (nI ((F).1))) 0 0 110 [(6, .int (nI (bs.length))), (7, .int (nI (bs.length + ps.length - 1))), (5, .int (nI (bs.length))), (4, .int (y)), (3, .int (o)), (2, .int (nI (bs.length + ps.length))), (0, .ref (w.1 (0))), (1, .int (x))] [] := by
  have hin_11 : ∀ u ∈ wsX110, u ∈ wsX11_joins := by decide +kernel
  have hl_76 : Cond.fieldLink RX11 76 "LineageBenchModel" "waiting" "[I" ∈ wsX11_joins := by decide +kernel
  refine g_lv (lv9 := [(6, .int (nI (bs.length + 0))), (7, .int (nI (bs.length + ps.length - 1 - 0))), (5, .int (nI (bs.length))), (4, .int (y)), (3, .int (o)), (2, .int (nI (bs.length + ps.length))), (0, .ref (w.1 (0))), (1, .int (x))]) (by rw [Nat.add_zero, Nat.sub_zero]) ?_
  refine g_lp2 (α := Nat) (β := Nat → Int32) (fun a w9 => 2 * a ≤ ps.length ∧ hrR w9 bs ps a) (fun a w9 => ps.length - a) (fun a w9 => G p l e _ s m args below meth c _ w A _ (sN (sI (sI σ (20) (w9)) (13) ((F).2)) (0) 21 (nI ((F).1))) 0 0 110 [(6, .int (nI (bs.length + a))), (7, .int (nI (bs.length + ps.length - 1 - a))), (5, .int (nI (bs.length))), (4, .int (y)), (3, .int (o)), (2, .int (nI (bs.length + ps.length))), (0, .ref (w.1 (0))), (1, .int (x))] []) (fun a w9 hI ih0 => ?_) (0) (w0) ⟨Nat.zero_le _, hrR_0 h0⟩
  obtain ⟨ha, hr9⟩ := hI
  refine g_iload (pc9 := 112) C rfl 0 dX11_joins_110 rfl ?_
  refine g_iload (pc9 := 114) C rfl 1 dX11_joins_112 rfl ?_
  refine g_icmp_ge (pc9 := 117) C rfl 158 dX11_joins_114 rfl (fun c_1 => ?_) (fun c_1 => ?_)
  · replace c_1 := (nI_leI (by omega) (by omega)).mp c_1
    refine g_sub [5, 6, 7] [(2, .int (nI (bs.length + ps.length))), (0, .ref (w.1 (0))), (1, .int (x))] rfl ?_
    exact kont w9 (hrR_e hr9 (by omega))
  · replace c_1 := (not_congr (nI_leI (by omega) (by omega))).mp c_1
    refine g_aload_n (pc9 := 118) C rfl 6 dX11_joins_117 rfl rfl ?_
    refine g_get (v := .ref (w.1 (20))) (pc9 := 121) C rfl (0) 29 dX11_joins_118 (by decide) (ce_0 w (sN (sI (sI σ (20) (w9)) (13) ((F).2)) (0) 21 (nI ((F).1)))) hin_11 hl_76 rfl (by decide) rfl rfl ?_
    refine g_iload (pc9 := 123) C rfl 0 dX11_joins_121 rfl ?_
    refine g_iald (x := w9 (bs.length + a)) (pc9 := 124) C rfl (20) (bs.length + a) dX11_joins_123 (by decide) (ce_20 w (sN (sI (sI σ (20) (w9)) (13) ((F).2)) (0) 21 (nI ((F).1)))) rfl (by omega) (by decide) (congrFun (((iA_N).trans (iA_n (by decide))).trans (iA_s)) _) ?_
    refine g_istore (pc9 := 126) C rfl [(8, .int (w9 (bs.length + a))), (6, .int (nI (bs.length + a))), (7, .int (nI (bs.length + ps.length - 1 - a))), (5, .int (nI (bs.length))), (4, .int (y)), (3, .int (o)), (2, .int (nI (bs.length + ps.length))), (0, .ref (w.1 (0))), (1, .int (x))] dX11_joins_124 (by decide) rfl ?_
    refine g_aload_n (pc9 := 127) C rfl 7 dX11_joins_126 rfl rfl ?_
    refine g_get (v := .ref (w.1 (20))) (pc9 := 130) C rfl (0) 29 dX11_joins_127 (by decide) (ce_0 w (sN (sI (sI σ (20) (w9)) (13) ((F).2)) (0) 21 (nI ((F).1)))) hin_11 hl_76 rfl (by decide) rfl rfl ?_
    refine g_iload (pc9 := 132) C rfl 1 dX11_joins_130 rfl ?_
    refine g_aload_n (pc9 := 133) C rfl 7 dX11_joins_132 rfl rfl ?_
    refine g_get (v := .ref (w.1 (20))) (pc9 := 136) C rfl (0) 29 dX11_joins_133 (by decide) (ce_0 w (sN (sI (sI σ (20) (w9)) (13) ((F).2)) (0) 21 (nI ((F).1)))) hin_11 hl_76 rfl (by decide) rfl rfl ?_
    refine g_iload (pc9 := 138) C rfl 2 dX11_joins_136 rfl ?_
    refine g_iald (x := w9 (bs.length + ps.length - 1 - a)) (pc9 := 139) C rfl (20) (bs.length + ps.length - 1 - a) dX11_joins_138 (by decide) (ce_20 w (sN (sI (sI σ (20) (w9)) (13) ((F).2)) (0) 21 (nI ((F).1)))) rfl (by omega) (by decide) (congrFun (((iA_N).trans (iA_n (by decide))).trans (iA_s)) _) ?_
    refine g_iast (pc9 := 140) C rfl (20) (bs.length + a) (w9) dX11_joins_139 (by decide) (fun _ => rfl) (ce_20 w (sN (sI (sI σ (20) (w9)) (13) ((F).2)) (0) 21 (nI ((F).1)))) rfl (by omega) (by decide) (((iA_N).trans (iA_n (by decide))).trans (iA_s)) ?_
    rw [sI_sN (a := 0) (k := 21) (b := 20), sI_cm (a := 13) (b := 20) (by decide), sI_sI (a := 20)]
    refine g_aload_n (pc9 := 141) C rfl 7 dX11_joins_140 rfl rfl ?_
    refine g_get (v := .ref (w.1 (20))) (pc9 := 144) C rfl (0) 29 dX11_joins_141 (by decide) (ce_0 w (sN (sI (sI σ (20) (upd (w9) (bs.length + a) (w9 (bs.length + ps.length - 1 - a)))) (13) ((F).2)) (0) 21 (nI ((F).1)))) hin_11 hl_76 rfl (by decide) rfl rfl ?_
    refine g_iload (pc9 := 146) C rfl 2 dX11_joins_144 rfl ?_
    refine g_iload (pc9 := 148) C rfl 0 dX11_joins_146 rfl ?_
    refine g_iast (pc9 := 149) C rfl (20) (bs.length + ps.length - 1 - a) (upd (w9) (bs.length + a) (w9 (bs.length + ps.length - 1 - a))) dX11_joins_148 (by decide) (fun _ => rfl) (ce_20 w (sN (sI (sI σ (20) (upd (w9) (bs.length + a) (w9 (bs.length + ps.length - 1 - a)))) (13) ((F).2)) (0) 21 (nI ((F).1)))) rfl (by omega) (by decide) (((iA_N).trans (iA_n (by decide))).trans (iA_s)) ?_
    rw [sI_sN (a := 0) (k := 21) (b := 20), sI_cm (a := 13) (b := 20) (by decide), sI_sI (a := 20)]
    refine g_iinc (pc9 := 152) C rfl [(6, .int (nI (bs.length + (a + 1)))), (8, .int (w9 (bs.length + a))), (7, .int (nI (bs.length + ps.length - 1 - a))), (5, .int (nI (bs.length))), (4, .int (y)), (3, .int (o)), (2, .int (nI (bs.length + ps.length))), (0, .ref (w.1 (0))), (1, .int (x))] 1 (nI (bs.length + (a + 1))) dX11_joins_149 rfl (nI_1 (bs.length + a)) (by decide) rfl ?_
    refine g_iinc (pc9 := 155) C rfl [(7, .int (nI (bs.length + ps.length - 1 - (a + 1)))), (6, .int (nI (bs.length + (a + 1)))), (8, .int (w9 (bs.length + a))), (5, .int (nI (bs.length))), (4, .int (y)), (3, .int (o)), (2, .int (nI (bs.length + ps.length))), (0, .ref (w.1 (0))), (1, .int (x))] 2 (nI (bs.length + ps.length - 1 - (a + 1))) dX11_joins_152 rfl ((sb_m1 (by omega)).trans (congrArg nI (by omega))) (by decide) rfl ?_
    refine g_goto C 110 dX11_joins_155 rfl ?_
    refine g_sub [1, 0, 3, 4, 5, 6, 7, 8] [(6, .int (nI (bs.length + (a + 1)))), (7, .int (nI (bs.length + ps.length - 1 - (a + 1)))), (5, .int (nI (bs.length))), (4, .int (y)), (3, .int (o)), (2, .int (nI (bs.length + ps.length))), (0, .ref (w.1 (0))), (1, .int (x))] rfl ?_
    exact ih0 (a + 1) _ ⟨by omega, hrR_s hr9 (by omega)⟩ (by omega)
set_option maxRecDepth 100000 in
set_option maxHeartbeats 4000000 in
theorem m21_parts {p : Program} {l : Launch} {e : Env} {s : State} {m : MethodId} {args : Array Value} {below : List Frame} {meth : Method} {c : Code} {Q : State → Prop} {w : Wd} {A : Nat → Prop} (C : Cx p s m args c w A cX11_joins RX11 9 wsX11_joins) (σ : St) (z : Nat) (hz : nF σ 0 11 = nI z) (h80 : z ≤ 80) (x o : Int32) (bs : List Int32) (hb : bs.length ≤ 24) (F : Fam) (w0 : Nat → Int32) (h0 : hrL w0 bs) (hend : (mjP σ z o (12)).1 = 0) (hK : ∀ u, u < 12 → ¬ (mjP σ z o (u)).1 = 0 → ∃ k, k < 12 ∧ ntz (mjP σ z o (u)).1 = nI k) (kont : ∀ w9 : Nat → Int32, hrL w9 (bs ++ (mjP σ z o (12)).2) → ¬ o ∈ (mjP σ z o (12)).2 → (mjP σ z o (12)).2.length ≤ 12 → G p l e (rmL 2) s m args below meth c Q w A 9 (sN (sI (sI σ (20) (w9)) (13) ((F).2)) (0) 21 (nI ((F).1))) 0 0 101 [(4, .int ((mjP σ z o (12)).1)), (2, .int (nI (bs.length + (mjP σ z o (12)).2.length))), (5, .int (nI (bs.length))), (3, .int (o)), (0, .ref (w.1 (0))), (1, .int (x))] []) (clash : ∀ w9 : Nat → Int32, o ∈ (mjP σ z o (12)).2 → G p l e (rmL 2) s m args below meth c Q w A 9 (sN (sI (sI σ (20) (w9)) (13) ((F).2)) (0) 21 (nI ((F).1))) 0 0 76 [(3, .int (o)), (0, .ref (w.1 (0))), (1, .int (x))] []) : G p l e (rmL 2) s m args below meth c Q w A 9 (sN (sI (sI σ (20) (w0)) (13) ((F).2)) (0) 21 (nI ((F).1))) 0 0 53 [(4, .int (o)), (2, .int (nI (bs.length))), (5, .int (nI (bs.length))), (3, .int (o)), (0, .ref (w.1 (0))), (1, .int (x))] [] := by
  have hin_11 : ∀ u ∈ wsX110, u ∈ wsX11_joins := by decide +kernel
  have hl_76 : Cond.fieldLink RX11 76 "LineageBenchModel" "waiting" "[I" ∈ wsX11_joins := by decide +kernel
  refine g_lp2 (α := Nat) (β := Nat → Int32) (fun u w9 => u ≤ 12 ∧ (mjP σ z o (u)).2.length = u ∧ hrL w9 (bs ++ (mjP σ z o (u)).2) ∧ ¬ o ∈ (mjP σ z o (u)).2) (fun u w9 => 12 - u) (fun u w9 => G p l e _ s m args below meth c _ w A _ (sN (sI (sI σ (20) (w9)) (13) ((F).2)) (0) 21 (nI ((F).1))) 0 0 53 [(4, .int ((mjP σ z o (u)).1)), (2, .int (nI (bs.length + (mjP σ z o (u)).2.length))), (5, .int (nI (bs.length))), (3, .int (o)), (0, .ref (w.1 (0))), (1, .int (x))] []) (fun u w9 hI ih0 => ?_) (0) (w0) ⟨Nat.zero_le _, rfl, by rw [show (mjP σ z o (0)).2 = [] from rfl, List.append_nil]; exact h0, fun h => absurd h (by rw [show (mjP σ z o (0)).2 = [] from rfl]; simp)⟩
  obtain ⟨hu, hlu, hr9, hno⟩ := hI
  refine g_iload (pc9 := 55) C rfl 0 dX11_joins_53 rfl ?_
  refine g_if_eq (pc9 := 58) C rfl 101 dX11_joins_55 rfl (fun c_1 => ?_) (fun c_1 => ?_)
  · have he : (mjP σ z o (u)).1 = 0 := c_1
    have hP : mjP σ z o (u) = mjP σ z o (12) := (mjP_0 he 12 hu).symm
    refine g_sub [0, 1, 2, 3, 4, 5] [(4, .int ((mjP σ z o (u)).1)), (2, .int (nI (bs.length + (mjP σ z o (u)).2.length))), (5, .int (nI (bs.length))), (3, .int (o)), (0, .ref (w.1 (0))), (1, .int (x))] rfl ?_
    refine g_lv (lv9 := [(4, .int ((mjP σ z o (12)).1)), (2, .int (nI (bs.length + (mjP σ z o (12)).2.length))), (5, .int (nI (bs.length))), (3, .int (o)), (0, .ref (w.1 (0))), (1, .int (x))]) (by rw [hP]) ?_
    exact kont w9 (by rw [← hP]; exact hr9) (by rw [← hP]; exact hno) (by rw [← hP, hlu]; exact hu)
  · have hn0 : ¬ (mjP σ z o (u)).1 = 0 := c_1
    have hu12 : u < 12 := Nat.lt_of_le_of_ne hu (fun h => hn0 (by rw [h]; exact hend))
    obtain ⟨k, hk, hkz⟩ := hK u hu12 hn0
    have hS : mjP σ z o (u + 1) = ((mjP σ z o (u)).1 &&& (mpa σ z o k ^^^ (-1)), (mjP σ z o (u)).2 ++ [mpa σ z o k]) := by
      show cI _ _ _ = _
      rw [cI_f hn0, hkz, nI_clamp (by omega)]
    refine g_aload_n (pc9 := 59) C rfl 4 dX11_joins_58 rfl rfl ?_
    refine g_iload_n (pc9 := 60) C rfl 3 dX11_joins_59 rfl rfl ?_
    refine g_iload (pc9 := 62) C rfl 0 dX11_joins_60 rfl ?_
    refine g_callSi (nn := 1) (rest := [.int (o), .ref (w.1 (0))]) (pc9 := 65) C rfl [.int ((mjP σ z o (u)).1)] rfl dX11_joins_62 (m_ntz l w _ ((mjP σ z o (u)).1)) gX11_joins_J6_numberOfTrailingZeros_0f7a4 rfl rfl rfl (by decide +kernel) ⟨by decide, by decide⟩ rfl (Nat.le_of_ble_eq_true rfl) ⟨by decide, by decide⟩ (fun r_2 σ_2 q_2 => ?_)
    obtain ⟨qs_2, qr_2⟩ := q_2
    rw [qs_2, qr_2, hkz]
    refine g_callVi (nn := 2) (rest := []) (pc9 := 68) C rfl (0) [.int (o), .int (nI (k))] rfl dX11_joins_65 (m_X11_partOf l w (sN (sI (sI σ (20) (w9)) (13) ((F).2)) (0) 21 (nI ((F).1))) z hz h80 o k hk) gX11_joins_X11_partOf (by decide) (ce_0 w (sN (sI (sI σ (20) (w9)) (13) ((F).2)) (0) 21 (nI ((F).1)))) rfl rfl rfl rfl rfl (by decide +kernel) ⟨by decide, by decide⟩ rfl (Nat.le_of_ble_eq_true rfl) ⟨by decide, by decide⟩ (fun r_3 σ_3 q_3 => ?_)
    obtain ⟨qs_3, qr_3⟩ := q_3
    have qe_3 : r_3 = mpa σ z o k := mpa_e (mpaR_st (τ := sN (sI (sI σ (20) (w9)) (13) ((F).2)) (0) 21 (nI ((F).1))) rfl rfl rfl qr_3)
    rw [qs_3, qe_3]
    refine g_istore (pc9 := 70) C rfl [(6, .int (mpa σ z o k)), (4, .int ((mjP σ z o (u)).1)), (2, .int (nI (bs.length + (mjP σ z o (u)).2.length))), (5, .int (nI (bs.length))), (3, .int (o)), (0, .ref (w.1 (0))), (1, .int (x))] dX11_joins_68 (by decide) rfl ?_
    refine g_iload (pc9 := 72) C rfl 0 dX11_joins_70 rfl ?_
    refine g_iload_n (pc9 := 73) C rfl 4 dX11_joins_72 rfl rfl ?_
    refine g_icmp_ne (pc9 := 76) C rfl 78 dX11_joins_73 rfl (fun c_4 => ?_) (fun c_4 => ?_)
    · have hne : ¬ mpa σ z o k = o := c_4
      refine g_aload_n (pc9 := 79) C rfl 5 dX11_joins_78 rfl rfl ?_
      refine g_get (v := .ref (w.1 (20))) (pc9 := 82) C rfl (0) 29 dX11_joins_79 (by decide) (ce_0 w (sN (sI (sI σ (20) (w9)) (13) ((F).2)) (0) 21 (nI ((F).1)))) hin_11 hl_76 rfl (by decide) rfl rfl ?_
      refine g_iload_n (pc9 := 83) C rfl 2 dX11_joins_82 rfl rfl ?_
      refine g_iload (pc9 := 85) C rfl 0 dX11_joins_83 rfl ?_
      refine g_iast (pc9 := 86) C rfl (20) (bs.length + (mjP σ z o (u)).2.length) (w9) dX11_joins_85 (by decide) (fun _ => rfl) (ce_20 w (sN (sI (sI σ (20) (w9)) (13) ((F).2)) (0) 21 (nI ((F).1)))) rfl (by omega) (by decide) (((iA_N).trans (iA_n (by decide))).trans (iA_s)) ?_
      rw [sI_sN (a := 0) (k := 21) (b := 20), sI_cm (a := 13) (b := 20) (by decide), sI_sI (a := 20)]
      refine g_iinc (pc9 := 89) C rfl [(2, .int (nI (bs.length + (mjP σ z o (u)).2.length + 1))), (6, .int (mpa σ z o k)), (4, .int ((mjP σ z o (u)).1)), (5, .int (nI (bs.length))), (3, .int (o)), (0, .ref (w.1 (0))), (1, .int (x))] 2 (nI (bs.length + (mjP σ z o (u)).2.length + 1)) dX11_joins_86 rfl (nI_1 (bs.length + (mjP σ z o (u)).2.length)) (by decide) rfl ?_
      refine g_iload (pc9 := 91) C rfl 2 dX11_joins_89 rfl ?_
      refine g_iload (pc9 := 93) C rfl 1 dX11_joins_91 rfl ?_
      refine g_iconst (pc9 := 94) C rfl ((-1)) dX11_joins_93 rfl ?_
      refine g_ixor (pc9 := 95) C rfl dX11_joins_94 ?_
      refine g_iand (pc9 := 96) C rfl dX11_joins_95 ?_
      refine g_istore (pc9 := 98) C rfl [(4, .int (((mjP σ z o (u)).1) &&& ((mpa σ z o k) ^^^ ((-1))))), (2, .int (nI (bs.length + (mjP σ z o (u)).2.length + 1))), (6, .int (mpa σ z o k)), (5, .int (nI (bs.length))), (3, .int (o)), (0, .ref (w.1 (0))), (1, .int (x))] dX11_joins_96 (by decide) rfl ?_
      refine g_goto C 53 dX11_joins_98 rfl ?_
      refine g_sub [0, 1, 3, 4, 5, 6] [(4, .int (((mjP σ z o (u)).1) &&& ((mpa σ z o k) ^^^ ((-1))))), (2, .int (nI (bs.length + (mjP σ z o (u)).2.length + 1))), (5, .int (nI (bs.length))), (3, .int (o)), (0, .ref (w.1 (0))), (1, .int (x))] rfl ?_
      refine g_lv (lv9 := [(4, .int ((mjP σ z o (u + 1)).1)), (2, .int (nI (bs.length + (mjP σ z o (u + 1)).2.length))), (5, .int (nI (bs.length))), (3, .int (o)), (0, .ref (w.1 (0))), (1, .int (x))]) (by rw [hS, List.length_append, List.length_singleton]; rfl) ?_
      refine ih0 (u + 1) _ ⟨by omega, by rw [hS, List.length_append, hlu]; rfl, ?_, ?_⟩ (by omega)
      · rw [hS]; show hrL _ (bs ++ ((mjP σ z o (u)).2 ++ [mpa σ z o k])); rw [← List.append_assoc, ← List.length_append]; exact hrL_app hr9
      · rw [hS]; intro h; rw [List.mem_append, List.mem_singleton] at h; exact h.elim hno (fun q => hne q.symm)
    · have heq : mpa σ z o k = o := Classical.not_not.mp (fun h => h c_4)
      refine g_sub [4, 5, 6] [(3, .int (o)), (0, .ref (w.1 (0))), (1, .int (x))] rfl ?_
      exact clash w9 (mjP_m (u := u + 1) (by rw [hS, heq]; exact List.mem_append_right _ (List.mem_singleton.mpr rfl)) 12 (by omega))
def mjR (σ : St) (z : Nat) (x : Int32) (r : Int32) (σ9 : St) : Prop := ∃ n w9 F, (∀ m, m < n → ¬ mjC σ z (mjT σ z x m)) ∧ σ9 = msSt (sI σ 20 w9) F ∧ (((mjT σ z x n).1 = [] ∧ r = nI 0 ∧ F = (mjT σ z x n).2) ∨ (mjC σ z (mjT σ z x n) ∧ r = (mjT σ z x n).1.getLastD 0))
theorem jo_st {σ : St} {w : Nat → Int32} {f : Nat → Int32} {n : Int32} : sI (sN (sI (sI σ 20 (iA σ 20)) 13 f) 0 21 n) 20 w = sN (sI (sI σ 20 w) 13 f) 0 21 n := by
  rw [sI_sN, sI_cm (a := 13) (b := 20) (by decide), sI_sI]
theorem jo_pos {σ : St} {z : Nat} {x : Int32} (h : ¬ x = 0) : 0 < (mjP σ z x 12).2.length := by
  have h1 : (mjP σ z x 1).2 = [] ++ [mpa σ z x (ntz x).toNatClampNeg] := by
    show (cI ((mjP σ z x 0).1 = 0) _ _ : Int32 × List Int32).2 = _
    rw [cI_f (show ¬ (mjP σ z x 0).1 = 0 from h)]
    rfl
  have h2 : mpa σ z x (ntz x).toNatClampNeg ∈ (mjP σ z x 12).2 := mjP_m (u := 1) (by rw [h1]; simp) 12 (by decide)
  exact List.length_pos_of_mem h2
set_option maxRecDepth 100000 in
set_option maxHeartbeats 4000000 in
theorem m_X11_joins (l : Launch) (w : Wd) (σ : St) (z : Nat) (hz : nF σ 0 11 = nI z) (h80 : z ≤ 80) (x : Int32) (hJ0 : ∃ N, mjK σ z x N) : MI l yX11_joins wsX11_joins (rmL 2) w [.ref (w.1 (0)), .int (x)] (σ) (mjR σ z x) := by
  refine MI_of (cc := cX11_joins) (maxL := 9) (ret := .int) (by decide) rfl (Nat.le_of_ble_eq_true rfl) ?_
  intro p e s m args below meth c A C hr hlk
  have C : Cx p s m args c w A cX11_joins RX11 9 wsX11_joins := C
  have hin_11 : ∀ u ∈ wsX110, u ∈ wsX11_joins := by decide +kernel
  have hl_76 : Cond.fieldLink RX11 76 "LineageBenchModel" "waiting" "[I" ∈ wsX11_joins := by decide +kernel
  have hl_129 : Cond.fieldLink RX11 129 "LineageBenchModel" "setMany" "I" ∈ wsX11_joins := by decide +kernel
  obtain ⟨N, hN3, hNe, hJ⟩ := hJ0
  refine g_st (σ9 := sI (sI σ 20 (iA σ 20)) 13 (iA σ 13)) (by rw [show sI σ 20 (iA σ 20) = σ from sI_self]; exact (show sI σ 13 (iA σ 13) = σ from sI_self).symm) ?_
  refine g_aload_n (pc9 := 1) C rfl 0 dX11_joins_0 rfl rfl ?_
  refine g_iconst (pc9 := 2) C rfl (nI (0)) dX11_joins_1 rfl ?_
  refine g_put (pc9 := 5) C rfl (0) 21 dX11_joins_2 (by decide) (ce_0 w (sI (sI σ (20) (iA σ 20)) (13) (iA σ 13))) (rfl) hin_11 hl_129 tyX11 tyX11_ok nmX11 rfl (by decide) rfl rfl rfl (Nat.le_of_ble_eq_true rfl) ?_
  refine g_iconst (pc9 := 6) C rfl (nI (0)) dX11_joins_5 rfl ?_
  refine g_istore_n (pc9 := 7) C rfl [(2, .int (nI (0))), (0, .ref (w.1 (0))), (1, .int (x))] dX11_joins_6 rfl (by decide) rfl ?_
  refine g_aload_n (pc9 := 8) C rfl 1 dX11_joins_7 rfl rfl ?_
  refine g_get (v := .ref (w.1 (20))) (pc9 := 11) C rfl (0) 29 dX11_joins_8 (by decide) (ce_0 w (sN (sI (sI σ (20) (iA σ 20)) (13) (iA σ 13)) (0) 21 (nI (0)))) hin_11 hl_76 rfl (by decide) rfl rfl ?_
  refine g_iconst (pc9 := 12) C rfl (nI (0)) dX11_joins_11 rfl ?_
  refine g_iload_n (pc9 := 13) C rfl 2 dX11_joins_12 rfl rfl ?_
  refine g_iast (pc9 := 14) C rfl (20) (0) (iA σ 20) dX11_joins_13 (by decide) (fun _ => rfl) (ce_20 w (sN (sI (sI σ (20) (iA σ 20)) (13) (iA σ 13)) (0) 21 (nI (0)))) rfl (by omega) (by decide) (((iA_N).trans (iA_n (by decide))).trans (iA_s)) ?_
  rw [sI_sN (a := 0) (k := 21) (b := 20), sI_cm (a := 13) (b := 20) (by decide), sI_sI (a := 20)]
  refine g_iinc (pc9 := 17) C rfl [(2, .int (nI (0 + 1))), (0, .ref (w.1 (0))), (1, .int (x))] 0 (nI (0 + 1)) dX11_joins_14 rfl (nI_1 (0)) (by decide) rfl ?_
  refine g_sub [0, 1, 2] [(2, .int (nI (0 + 1))), (0, .ref (w.1 (0))), (1, .int (x))] rfl ?_
  refine g_st (σ9 := sN (sI (sI σ (20) (upd (iA σ 20) 0 x)) (13) (((mjT σ z x (0)).2).2)) (0) 21 (nI (((mjT σ z x (0)).2).1))) (by first | rfl | exact jo_st) ?_
  refine g_lp2 (α := Nat) (β := Nat → Int32) (fun n w9 => n ≤ N ∧ (∀ m, m < n → ¬ mjC σ z (mjT σ z x m)) ∧ hrL w9 (mjT σ z x (n)).1) (fun n w9 => N - n) (fun n w9 => G p l e _ s m args below meth c _ w A _ (sN (sI (sI σ (20) (w9)) (13) (((mjT σ z x (n)).2).2)) (0) 21 (nI (((mjT σ z x (n)).2).1))) 0 0 17 [(2, .int (nI ((mjT σ z x (n)).1.length))), (0, .ref (w.1 (0))), (1, .int (x))] []) (fun n w9 hI ih0 => ?_) (0) (upd (iA σ 20) 0 x) ⟨Nat.zero_le _, fun m h => absurd h (by omega), fun k hk => by rw [show k = 0 by have : k < 1 := hk; omega]; exact pk_us⟩
  obtain ⟨hn, hnc, hr9⟩ := hI
  obtain ⟨hln, hFn, hJn⟩ := hJ n hn hnc
  rcases Classical.em ((mjT σ z x (n)).1 = []) with hem | hem
  · refine g_lv (lv9 := [(2, .int (nI (0))), (0, .ref (w.1 (0))), (1, .int (x))]) (by rw [hem]; rfl) ?_
    refine g_iload_n (pc9 := 18) C rfl 0 dX11_joins_17 rfl rfl ?_
    refine g_if_le (pc9 := 21) C rfl 161 dX11_joins_18 rfl (fun c_1 => ?_) (fun c_1 => ?_)
    · refine g_iconst (pc9 := 162) C rfl (nI (0)) dX11_joins_161 rfl ?_
      exact g_ireturn C hr hlk dX11_joins_162 ⟨n, w9, (mjT σ z x (n)).2, hnc, rfl, Or.inl ⟨hem, rfl, rfl⟩⟩
    · exact absurd c_1 (by decide)
  · have hnN : n < N := Nat.lt_of_le_of_ne hn (fun h => hNe.elim (fun q => hem (by rw [h]; exact q)) (fun ⟨m9, h1, h2⟩ => hnc m9 (by omega) h2))
    have hpos : 0 < ((mjT σ z x (n)).1).length := by rcases Nat.eq_zero_or_pos ((mjT σ z x (n)).1).length with h | h; exact absurd (List.length_eq_zero_iff.mp h) hem; exact h
    have hdl : (((mjT σ z x (n)).1).dropLast).length = ((mjT σ z x (n)).1).length - 1 := List.length_dropLast
    obtain ⟨hrd, hone⟩ := hrL_dl hr9 hem
    refine g_iload_n (pc9 := 18) C rfl 0 dX11_joins_17 rfl rfl ?_
    refine g_if_le (pc9 := 21) C rfl 161 dX11_joins_18 rfl (fun c_2 => ?_) (fun c_2 => ?_)
    · replace c_2 := (z_le (by omega)).mp c_2
      exact absurd hpos (by omega)
    · replace c_2 := (not_congr (z_le (by omega))).mp c_2
      refine g_iinc (pc9 := 24) C rfl [(2, .int (nI ((mjT σ z x (n)).1.length - 1))), (0, .ref (w.1 (0))), (1, .int (x))] 0 (nI ((mjT σ z x (n)).1.length - 1)) dX11_joins_21 rfl (sb_m1 (by omega)) (by decide) rfl ?_
      refine g_aload_n (pc9 := 25) C rfl 1 dX11_joins_24 rfl rfl ?_
      refine g_get (v := .ref (w.1 (20))) (pc9 := 28) C rfl (0) 29 dX11_joins_25 (by decide) (ce_0 w (sN (sI (sI σ (20) (w9)) (13) (((mjT σ z x (n)).2).2)) (0) 21 (nI (((mjT σ z x (n)).2).1)))) hin_11 hl_76 rfl (by decide) rfl rfl ?_
      refine g_iload_n (pc9 := 29) C rfl 0 dX11_joins_28 rfl rfl ?_
      refine g_iald (x := ((mjT σ z x (n)).1).getLastD 0) (pc9 := 30) C rfl (20) ((mjT σ z x (n)).1.length - 1) dX11_joins_29 (by decide) (ce_20 w (sN (sI (sI σ (20) (w9)) (13) (((mjT σ z x (n)).2).2)) (0) 21 (nI (((mjT σ z x (n)).2).1)))) rfl (by omega) (by decide) ((congrFun (((iA_N).trans (iA_n (by decide))).trans (iA_s)) _).trans hone) ?_
      refine g_istore_n (pc9 := 31) C rfl [(3, .int (((mjT σ z x (n)).1).getLastD 0)), (2, .int (nI ((mjT σ z x (n)).1.length - 1))), (0, .ref (w.1 (0))), (1, .int (x))] dX11_joins_30 rfl (by decide) rfl ?_
      refine g_aload_n (pc9 := 32) C rfl 2 dX11_joins_31 rfl rfl ?_
      refine g_iload_n (pc9 := 33) C rfl 0 dX11_joins_32 rfl rfl ?_
      refine g_callVv (nn := 1) (rest := []) (pc9 := 36) C rfl (0) [.int (((mjT σ z x (n)).1).getLastD 0)] rfl dX11_joins_33 (m_X11_adds l w (sI σ 20 w9) (mjT σ z x (n)).2 (by omega) (((mjT σ z x (n)).1).getLastD 0)) gX11_joins_X11_adds (by decide) (ce_0 w (sN (sI (sI σ (20) (w9)) (13) (((mjT σ z x (n)).2).2)) (0) 21 (nI (((mjT σ z x (n)).2).1)))) rfl rfl rfl rfl rfl (by decide +kernel) ⟨by decide, by decide⟩ rfl (Nat.le_of_ble_eq_true rfl) ⟨by decide, by decide⟩ (fun σ_3 q_3 => ?_)
      replace q_3 : σ_3 = sN (sI (sI σ (20) (w9)) (13) ((maA (mjT σ z x (n)).2 (((mjT σ z x (n)).1).getLastD 0)).2)) (0) 21 (nI ((maA (mjT σ z x (n)).2 (((mjT σ z x (n)).1).getLastD 0)).1)) := q_3
      rw [q_3]
      clear q_3
      refine g_iload_n (pc9 := 37) C rfl 0 dX11_joins_36 rfl rfl ?_
      refine g_callSi (nn := 1) (rest := []) (pc9 := 40) C rfl [.int (((mjT σ z x (n)).1).getLastD 0)] rfl dX11_joins_37 (m_bitCount l w _ (((mjT σ z x (n)).1).getLastD 0)) gX11_joins_J6_bitCount_0f7a4 rfl rfl rfl (by decide +kernel) ⟨by decide, by decide⟩ rfl (Nat.le_of_ble_eq_true rfl) ⟨by decide, by decide⟩ (fun r_4 σ_4 q_4 => ?_)
      obtain ⟨qs_4, qr_4⟩ := q_4
      rw [qs_4, qr_4]
      clear qs_4 qr_4
      refine g_iconst (pc9 := 41) C rfl (nI (1)) dX11_joins_40 rfl ?_
      refine g_icmp_ne (pc9 := 44) C rfl 47 dX11_joins_41 rfl (fun c_5 => ?_) (fun c_5 => ?_)
      · have hb1 : ¬ bC (((mjT σ z x (n)).1).getLastD 0) = nI 1 := c_5
        obtain ⟨ho0, hend, hKK⟩ := hJn hem hb1
        refine g_iload_n (pc9 := 48) C rfl 0 dX11_joins_47 rfl rfl ?_
        refine g_istore (pc9 := 50) C rfl [(4, .int (((mjT σ z x (n)).1).getLastD 0)), (3, .int (((mjT σ z x (n)).1).getLastD 0)), (2, .int (nI ((mjT σ z x (n)).1.length - 1))), (0, .ref (w.1 (0))), (1, .int (x))] dX11_joins_48 (by decide) rfl ?_
        refine g_iload_n (pc9 := 51) C rfl 2 dX11_joins_50 rfl rfl ?_
        refine g_istore (pc9 := 53) C rfl [(5, .int (nI ((mjT σ z x (n)).1.length - 1))), (4, .int (((mjT σ z x (n)).1).getLastD 0)), (3, .int (((mjT σ z x (n)).1).getLastD 0)), (2, .int (nI ((mjT σ z x (n)).1.length - 1))), (0, .ref (w.1 (0))), (1, .int (x))] dX11_joins_51 (by decide) rfl ?_
        refine g_sub [1, 3, 0, 2, 4, 5] [(4, .int (((mjT σ z x (n)).1).getLastD 0)), (2, .int (nI ((mjT σ z x (n)).1.length - 1))), (5, .int (nI ((mjT σ z x (n)).1.length - 1))), (3, .int (((mjT σ z x (n)).1).getLastD 0)), (0, .ref (w.1 (0))), (1, .int (x))] rfl ?_
        refine g_lv (lv9 := [(4, .int (((mjT σ z x (n)).1).getLastD 0)), (2, .int (nI ((((mjT σ z x (n)).1).dropLast).length))), (5, .int (nI ((((mjT σ z x (n)).1).dropLast).length))), (3, .int (((mjT σ z x (n)).1).getLastD 0)), (0, .ref (w.1 (0))), (1, .int (x))]) (by rw [← hdl]) ?_
        refine m21_parts C σ z hz h80 x (((mjT σ z x (n)).1).getLastD 0) (((mjT σ z x (n)).1).dropLast) (by omega) (maA (mjT σ z x (n)).2 (((mjT σ z x (n)).1).getLastD 0)) w9 hrd hend hKK (fun w8 hr8 hno hl8 => ?_) (fun w8 hin => ?_)
        · have hS : mjT σ z x (n + 1) = (((mjT σ z x (n)).1).dropLast ++ (mjP σ z (((mjT σ z x (n)).1).getLastD 0) 12).2.reverse, maA (mjT σ z x (n)).2 (((mjT σ z x (n)).1).getLastD 0)) := by
            show mjS σ z (mjT σ z x (n)) = _
            unfold mjS
            rw [cI_f hem, cI_f hb1]
          have hc : ¬ mjC σ z (mjT σ z x (n)) := fun h => hno h.2.2
          have hp1 : 0 < (mjP σ z (((mjT σ z x (n)).1).getLastD 0) 12).2.length := jo_pos ho0
          refine g_iload (pc9 := 103) C rfl 2 dX11_joins_101 rfl ?_
          refine g_istore (pc9 := 105) C rfl [(6, .int (nI ((((mjT σ z x (n)).1).dropLast).length))), (4, .int ((mjP σ z (((mjT σ z x (n)).1).getLastD 0) 12).1)), (2, .int (nI ((((mjT σ z x (n)).1).dropLast).length + (mjP σ z (((mjT σ z x (n)).1).getLastD 0) 12).2.length))), (5, .int (nI ((((mjT σ z x (n)).1).dropLast).length))), (3, .int (((mjT σ z x (n)).1).getLastD 0)), (0, .ref (w.1 (0))), (1, .int (x))] dX11_joins_103 (by decide) rfl ?_
          refine g_iload_n (pc9 := 106) C rfl 2 dX11_joins_105 rfl rfl ?_
          refine g_iconst (pc9 := 107) C rfl (nI (1)) dX11_joins_106 rfl ?_
          refine g_isubN (pc9 := 108) C rfl dX11_joins_107 (by omega) ?_
          refine g_istore (pc9 := 110) C rfl [(7, .int (nI (((((mjT σ z x (n)).1).dropLast).length + (mjP σ z (((mjT σ z x (n)).1).getLastD 0) 12).2.length) - (1)))), (6, .int (nI ((((mjT σ z x (n)).1).dropLast).length))), (4, .int ((mjP σ z (((mjT σ z x (n)).1).getLastD 0) 12).1)), (2, .int (nI ((((mjT σ z x (n)).1).dropLast).length + (mjP σ z (((mjT σ z x (n)).1).getLastD 0) 12).2.length))), (5, .int (nI ((((mjT σ z x (n)).1).dropLast).length))), (3, .int (((mjT σ z x (n)).1).getLastD 0)), (0, .ref (w.1 (0))), (1, .int (x))] dX11_joins_108 (by decide) rfl ?_
          refine g_sub [1, 0, 4, 2, 5, 3, 6, 7] [(6, .int (nI ((((mjT σ z x (n)).1).dropLast).length))), (7, .int (nI (((((mjT σ z x (n)).1).dropLast).length + (mjP σ z (((mjT σ z x (n)).1).getLastD 0) 12).2.length) - (1)))), (5, .int (nI ((((mjT σ z x (n)).1).dropLast).length))), (4, .int ((mjP σ z (((mjT σ z x (n)).1).getLastD 0) 12).1)), (3, .int (((mjT σ z x (n)).1).getLastD 0)), (2, .int (nI ((((mjT σ z x (n)).1).dropLast).length + (mjP σ z (((mjT σ z x (n)).1).getLastD 0) 12).2.length))), (0, .ref (w.1 (0))), (1, .int (x))] rfl ?_
          refine m21_rev C σ x _ _ (((mjT σ z x (n)).1).dropLast) (mjP σ z (((mjT σ z x (n)).1).getLastD 0) 12).2 (by omega) hp1 hl8 (maA (mjT σ z x (n)).2 (((mjT σ z x (n)).1).getLastD 0)) w8 hr8 (fun w7 hr7 => ?_)
          refine g_goto C 17 dX11_joins_158 rfl ?_
          refine g_sub [0, 1, 2] [(2, .int (nI ((((mjT σ z x (n)).1).dropLast).length + (mjP σ z (((mjT σ z x (n)).1).getLastD 0) 12).2.length))), (0, .ref (w.1 (0))), (1, .int (x))] rfl ?_
          refine g_st (σ9 := sN (sI (sI σ (20) (w7)) (13) (((mjT σ z x (n + 1)).2).2)) (0) 21 (nI (((mjT σ z x (n + 1)).2).1))) (by rw [hS]) ?_
          refine g_lv (lv9 := [(2, .int (nI ((mjT σ z x (n + 1)).1.length))), (0, .ref (w.1 (0))), (1, .int (x))]) (by rw [hS, List.length_append, List.length_reverse]) ?_
          exact ih0 (n + 1) w7 ⟨by omega, fun m9 h => by by_cases e : m9 = n; (rw [e]; exact hc); exact hnc m9 (by omega), by rw [hS]; exact hr7⟩ (by omega)
        · have hC9 : mjC σ z (mjT σ z x (n)) := ⟨hem, hb1, hin⟩
          refine g_iload_n (pc9 := 77) C rfl 0 dX11_joins_76 rfl rfl ?_
          exact g_ireturn C hr hlk dX11_joins_77 ⟨n, w8, maA (mjT σ z x (n)).2 (((mjT σ z x (n)).1).getLastD 0), hnc, rfl, Or.inr ⟨hC9, rfl⟩⟩
      · have hb1 : bC (((mjT σ z x (n)).1).getLastD 0) = nI 1 := Classical.not_not.mp (fun h => h c_5)
        have hS : mjT σ z x (n + 1) = (((mjT σ z x (n)).1).dropLast, maA (mjT σ z x (n)).2 (((mjT σ z x (n)).1).getLastD 0)) := by
          show mjS σ z (mjT σ z x (n)) = _
          unfold mjS
          rw [cI_f hem, cI_t hb1]
        have hc : ¬ mjC σ z (mjT σ z x (n)) := fun h => h.2.1 hb1
        refine g_goto C 17 dX11_joins_44 rfl ?_
        refine g_sub [1, 2, 3] [(2, .int (nI ((mjT σ z x (n)).1.length - 1))), (0, .ref (w.1 (0))), (1, .int (x))] rfl ?_
        refine g_st (σ9 := sN (sI (sI σ (20) (w9)) (13) (((mjT σ z x (n + 1)).2).2)) (0) 21 (nI (((mjT σ z x (n + 1)).2).1))) (by rw [hS]) ?_
        refine g_lv (lv9 := [(2, .int (nI ((mjT σ z x (n + 1)).1.length))), (0, .ref (w.1 (0))), (1, .int (x))]) (by rw [hS, ← hdl]) ?_
        exact ih0 (n + 1) w9 ⟨by omega, fun m9 h => by by_cases e : m9 = n; (rw [e]; exact hc); exact hnc m9 (by omega), by rw [hS]; exact hrd⟩ (by omega)
def mbuP (σ : St) (z : Nat) (x u : Int32) (r : Int32) (σ9 : St) : Prop := (¬ okI 8 u ∧ σ9 = mT σ 1) ∨ (okI 8 u ∧ ¬ okR 1 4095 x ∧ σ9 = mT σ 2) ∨ (∃ k, k < 8 ∧ u = nI k ∧ okR 1 4095 x ∧ ∃ n w9 F, (∀ m, m < n → ¬ mjC (mT σ 0) z (mjT (mT σ 0) z x m)) ∧ (((mjT (mT σ 0) z x n).1 = [] ∧ r = nI 0 ∧ σ9 = puS (sI (mT σ 0) 20 w9) (mjT (mT σ 0) z x n).2 k) ∨ (mjC (mT σ 0) z (mjT (mT σ 0) z x n) ∧ r = (mjT (mT σ 0) z x n).1.getLastD 0 ∧ ¬ r = nI 0 ∧ σ9 = msSt (sI (mT σ 0) 20 w9) F)))
set_option maxRecDepth 100000 in
set_option maxHeartbeats 4000000 in
theorem m_X11_build (l : Launch) (w : Wd) (σ : St) (z : Nat) (hz : nF σ 0 11 = nI z) (h80 : z ≤ 80) (x u : Int32) (hJ : okR 1 4095 x → ∃ N, mjK (mT σ 0) z x N) (hG : ∀ n, okR 1 4095 x → (∀ m, m < n → ¬ mjC (mT σ 0) z (mjT (mT σ 0) z x m)) → (mjT (mT σ 0) z x n).1 = [] → 0 < (mjT (mT σ 0) z x n).2.1 ∧ (mjT (mT σ 0) z x n).2.1 ≤ 47) (hnz : ∀ n, okR 1 4095 x → (∀ m, m < n → ¬ mjC (mT σ 0) z (mjT (mT σ 0) z x m)) → mjC (mT σ 0) z (mjT (mT σ 0) z x n) → ¬ (mjT (mT σ 0) z x n).1.getLastD 0 = nI 0) : MI l yX11_build wsX11_build (rmL 3) w [.ref (w.1 (0)), .int (x), .int (u)] (σ) (mbuP σ z x u) := by
  refine MI_of (cc := cX11_build) (maxL := 4) (ret := .int) (by decide) rfl (Nat.le_of_ble_eq_true rfl) ?_
  intro p e s m args below meth c A C hr hlk
  have C : Cx p s m args c w A cX11_build RX11 4 wsX11_build := C
  have hin_11 : ∀ u ∈ wsX110, u ∈ wsX11_build := by decide +kernel
  have hl_107 : Cond.fieldLink RX11 107 "LineageBenchModel" "thrown" "I" ∈ wsX11_build := by decide +kernel
  refine g_aload_n (pc9 := 1) C rfl 0 dX11_build_0 rfl rfl ?_
  refine g_iconst (pc9 := 2) C rfl (nI (0)) dX11_build_1 rfl ?_
  refine g_put (pc9 := 5) C rfl (0) 0 dX11_build_2 (by decide) (ce_0 w (σ)) (rfl) hin_11 hl_107 tyX11 tyX11_ok nmX11 rfl (by decide) rfl rfl rfl (Nat.le_of_ble_eq_true rfl) ?_
  refine g_aload_n (pc9 := 6) C rfl 0 dX11_build_5 rfl rfl ?_
  refine g_iload_n (pc9 := 7) C rfl 2 dX11_build_6 rfl rfl ?_
  refine g_callSi (nn := 1) (rest := [.ref (w.1 (0))]) (pc9 := 10) C rfl [.int (u)] rfl dX11_build_7 (m_X11_noShelf l w (sN σ (0) 0 (nI (0))) u) gX11_build_X11_noShelf rfl rfl rfl (by decide +kernel) ⟨by decide, by decide⟩ rfl (Nat.le_of_ble_eq_true rfl) ⟨by decide, by decide⟩ (fun r_1 σ_1 q_1 => ?_)
  obtain ⟨qs_1, qr_1⟩ := q_1
  rw [qs_1, qr_1]
  clear qs_1 qr_1
  refine g_iconst (pc9 := 11) C rfl (nI (1)) dX11_build_10 rfl ?_
  refine g_callVi (nn := 2) (rest := []) (pc9 := 14) C rfl (0) [.int (pI (¬ okI 8 u)), .int (nI (1))] rfl dX11_build_11 (m_throwsP l w (sN σ (0) 0 (nI (0))) (¬ okI 8 u) 1) gX11_build_X11_throwsIf (by decide) (ce_0 w (sN σ (0) 0 (nI (0)))) rfl rfl rfl rfl rfl (by decide +kernel) ⟨by decide, by decide⟩ rfl (Nat.le_of_ble_eq_true rfl) ⟨by decide, by decide⟩ (fun r_2 σ_2 q_2 => ?_)
  obtain ⟨qr_2, qt_2, qf_2⟩ := q_2
  rw [qr_2]
  refine g_if_ne (pc9 := 17) C rfl 42 dX11_build_14 rfl (fun c_3 => ?_) (fun c_3 => ?_)
  · have hns : ¬ okI 8 u := pI_ye c_3
    refine g_st (σ9 := sN σ (0) 0 (nI (1))) ((qt_2 hns).trans (by show sN (sN σ (0) 0 (nI (0))) (0) 0 (nI (1)) = sN σ (0) 0 (nI (1)); rw [sN_sN])) ?_
    refine g_iconst (pc9 := 43) C rfl (nI (0)) dX11_build_42 rfl ?_
    exact g_ireturn C hr hlk dX11_build_43 (by first | exact Or.inl ⟨hns, rfl⟩ | exact Or.inr (Or.inl ⟨⟨k, hb_k, rfl⟩, hset, rfl⟩))
  · have hns : ¬ (¬ okI 8 u) := pI_no c_3
    rw [qf_2 hns]
    obtain ⟨k, hb_k, hx_k⟩ := Classical.not_not.mp hns
    subst hx_k
    refine g_aload_n (pc9 := 18) C rfl 0 dX11_build_17 rfl rfl ?_
    refine g_iload_n (pc9 := 19) C rfl 1 dX11_build_18 rfl rfl ?_
    refine g_iconst (pc9 := 20) C rfl (nI (1)) dX11_build_19 rfl ?_
    refine g_icmp_lt (pc9 := 23) C rfl 30 dX11_build_20 rfl (fun c_4 => ?_) (fun c_4 => ?_)
    · have hset : ¬ okR 1 4095 x := fun h => h.1 c_4
      refine g_iconst (pc9 := 31) C rfl (nI (1)) dX11_build_30 rfl ?_
      refine g_goto C 35 dX11_build_31 rfl ?_
      refine g_iconst (pc9 := 36) C rfl (nI (2)) dX11_build_35 rfl ?_
      refine g_callVi (nn := 2) (rest := []) (pc9 := 39) C rfl (0) [.int (nI (1)), .int (nI (2))] rfl dX11_build_36 (m_throws1 l w (sN σ (0) 0 (nI (0))) 2) gX11_build_X11_throwsIf (by decide) (ce_0 w (sN σ (0) 0 (nI (0)))) rfl rfl rfl rfl rfl (by decide +kernel) ⟨by decide, by decide⟩ rfl (Nat.le_of_ble_eq_true rfl) ⟨by decide, by decide⟩ (fun r_5 σ_5 q_5 => ?_)
      obtain ⟨qs_5, qr_5⟩ := q_5
      rw [qr_5]
      refine g_st (σ9 := sN σ (0) 0 (nI (2))) (qs_5.trans (by show sN (sN σ (0) 0 (nI (0))) (0) 0 (nI (2)) = sN σ (0) 0 (nI (2)); rw [sN_sN])) ?_
      refine g_if_eq (pc9 := 42) C rfl 44 dX11_build_39 rfl (fun c_6 => ?_) (fun c_6 => ?_)
      · exact absurd c_6 (by decide)
      · refine g_iconst (pc9 := 43) C rfl (nI (0)) dX11_build_42 rfl ?_
        exact g_ireturn C hr hlk dX11_build_43 (by first | exact Or.inl ⟨hns, rfl⟩ | exact Or.inr (Or.inl ⟨⟨k, hb_k, rfl⟩, hset, rfl⟩))
    · have h0 : ¬ x < nI 1 := c_4
      refine g_iload_n (pc9 := 24) C rfl 1 dX11_build_23 rfl rfl ?_
      refine g_sipush (pc9 := 27) C rfl (nI (4095)) dX11_build_24 rfl ?_
      refine g_icmp_le (pc9 := 30) C rfl 34 dX11_build_27 rfl (fun c_7 => ?_) (fun c_7 => ?_)
      · have hset : okR 1 4095 x := ⟨h0, Int32.not_lt.mpr c_7⟩
        refine g_iconst (pc9 := 35) C rfl (nI (0)) dX11_build_34 rfl ?_
        refine g_iconst (pc9 := 36) C rfl (nI (2)) dX11_build_35 rfl ?_
        refine g_callVi (nn := 2) (rest := []) (pc9 := 39) C rfl (0) [.int (nI (0)), .int (nI (2))] rfl dX11_build_36 (m_throws0 l w (sN σ (0) 0 (nI (0))) 2) gX11_build_X11_throwsIf (by decide) (ce_0 w (sN σ (0) 0 (nI (0)))) rfl rfl rfl rfl rfl (by decide +kernel) ⟨by decide, by decide⟩ rfl (Nat.le_of_ble_eq_true rfl) ⟨by decide, by decide⟩ (fun r_8 σ_8 q_8 => ?_)
        obtain ⟨qs_8, qr_8⟩ := q_8
        rw [qs_8, qr_8]
        refine g_if_eq (pc9 := 42) C rfl 44 dX11_build_39 rfl (fun c_9 => ?_) (fun c_9 => ?_)
        · refine g_aload_n (pc9 := 45) C rfl 0 dX11_build_44 rfl rfl ?_
          refine g_iload_n (pc9 := 46) C rfl 1 dX11_build_45 rfl rfl ?_
          refine g_callVi (nn := 1) (rest := []) (pc9 := 49) C rfl (0) [.int (x)] rfl dX11_build_46 (m_X11_joins l w (mT σ 0) z hz h80 x (hJ hset)) gX11_build_X11_joins (by decide) (ce_0 w (sN σ (0) 0 (nI (0)))) rfl rfl rfl rfl rfl (by decide +kernel) ⟨by decide, by decide⟩ rfl (Nat.le_of_ble_eq_true rfl) ⟨by decide, by decide⟩ (fun r_10 σ_10 q_10 => ?_)
          obtain ⟨n9, w9, F9, hnc, hs9, hq⟩ := q_10
          replace hnc : ∀ m, m < n9 → ¬ mjC (mT σ 0) z (mjT (mT σ 0) z x m) := hnc
          rcases hq with ⟨hem, hr9, hF⟩ | ⟨hC9, hr9⟩
          · replace hem : (mjT (mT σ 0) z x n9).1 = [] := hem
            replace hF : F9 = (mjT (mT σ 0) z x n9).2 := hF
            rw [hr9, hs9, hF]
            refine g_istore_n (pc9 := 50) C rfl [(3, .int (nI (0))), (0, .ref (w.1 (0))), (1, .int (x)), (2, .int (nI (k)))] dX11_build_49 rfl (by decide) rfl ?_
            refine g_iload_n (pc9 := 51) C rfl 0 dX11_build_50 rfl rfl ?_
            refine g_if_ne (pc9 := 54) C rfl 59 dX11_build_51 rfl (fun c_11 => ?_) (fun c_11 => ?_)
            · exact absurd c_11 (by decide)
            · refine g_aload_n (pc9 := 55) C rfl 1 dX11_build_54 rfl rfl ?_
              refine g_iload_n (pc9 := 56) C rfl 3 dX11_build_55 rfl rfl ?_
              refine g_callVv (nn := 1) (rest := []) (pc9 := 59) C rfl (0) [.int (nI (k))] rfl dX11_build_56 (m_X11_puts l w (sI (mT σ 0) 20 w9) (mjT (mT σ 0) z x n9).2 (hG n9 hset hnc hem).1 (hG n9 hset hnc hem).2 k hb_k) gX11_build_X11_puts (by decide) (ce_0 w ((msSt (sI (mT σ 0) 20 w9) (mjT (mT σ 0) z x n9).2))) rfl rfl rfl rfl rfl (by decide +kernel) ⟨by decide, by decide⟩ rfl (Nat.le_of_ble_eq_true rfl) ⟨by decide, by decide⟩ (fun σ_12 q_12 => ?_)
              replace q_12 : σ_12 = (puS (sI (mT σ 0) 20 w9) (mjT (mT σ 0) z x n9).2 k) := q_12
              rw [q_12]
              clear q_12
              refine g_iload_n (pc9 := 60) C rfl 0 dX11_build_59 rfl rfl ?_
              exact g_ireturn C hr hlk dX11_build_60 (Or.inr (Or.inr ⟨k, hb_k, rfl, hset, n9, w9, F9, hnc, Or.inl ⟨hem, rfl, rfl⟩⟩))
          · replace hC9 : mjC (mT σ 0) z (mjT (mT σ 0) z x n9) := hC9
            replace hr9 : r_10 = (mjT (mT σ 0) z x n9).1.getLastD 0 := hr9
            rw [hr9, hs9]
            refine g_istore_n (pc9 := 50) C rfl [(3, .int ((mjT (mT σ 0) z x n9).1.getLastD 0)), (0, .ref (w.1 (0))), (1, .int (x)), (2, .int (nI (k)))] dX11_build_49 rfl (by decide) rfl ?_
            refine g_iload_n (pc9 := 51) C rfl 0 dX11_build_50 rfl rfl ?_
            refine g_if_ne (pc9 := 54) C rfl 59 dX11_build_51 rfl (fun c_13 => ?_) (fun c_13 => ?_)
            · have hz9 : ¬ (mjT (mT σ 0) z x n9).1.getLastD 0 = nI 0 := c_13
              refine g_iload_n (pc9 := 60) C rfl 0 dX11_build_59 rfl rfl ?_
              exact g_ireturn C hr hlk dX11_build_60 (Or.inr (Or.inr ⟨k, hb_k, rfl, hset, n9, w9, F9, hnc, Or.inr ⟨hC9, rfl, hz9, rfl⟩⟩))
            · exact absurd (Classical.not_not.mp (fun h => h c_13)) (hnz n9 hset hnc hC9)
        · exact absurd c_9 (by decide)
      · have hset : ¬ okR 1 4095 x := fun h => h.2 (Int32.not_le.mp c_7)
        refine g_iconst (pc9 := 31) C rfl (nI (1)) dX11_build_30 rfl ?_
        refine g_goto C 35 dX11_build_31 rfl ?_
        refine g_iconst (pc9 := 36) C rfl (nI (2)) dX11_build_35 rfl ?_
        refine g_callVi (nn := 2) (rest := []) (pc9 := 39) C rfl (0) [.int (nI (1)), .int (nI (2))] rfl dX11_build_36 (m_throws1 l w (sN σ (0) 0 (nI (0))) 2) gX11_build_X11_throwsIf (by decide) (ce_0 w (sN σ (0) 0 (nI (0)))) rfl rfl rfl rfl rfl (by decide +kernel) ⟨by decide, by decide⟩ rfl (Nat.le_of_ble_eq_true rfl) ⟨by decide, by decide⟩ (fun r_14 σ_14 q_14 => ?_)
        obtain ⟨qs_14, qr_14⟩ := q_14
        rw [qr_14]
        refine g_st (σ9 := sN σ (0) 0 (nI (2))) (qs_14.trans (by show sN (sN σ (0) 0 (nI (0))) (0) 0 (nI (2)) = sN σ (0) 0 (nI (2)); rw [sN_sN])) ?_
        refine g_if_eq (pc9 := 42) C rfl 44 dX11_build_39 rfl (fun c_15 => ?_) (fun c_15 => ?_)
        · exact absurd c_15 (by decide)
        · refine g_iconst (pc9 := 43) C rfl (nI (0)) dX11_build_42 rfl ?_
          exact g_ireturn C hr hlk dX11_build_43 (by first | exact Or.inl ⟨hns, rfl⟩ | exact Or.inr (Or.inl ⟨⟨k, hb_k, rfl⟩, hset, rfl⟩))

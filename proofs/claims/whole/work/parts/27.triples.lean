/-! Triples: pairs at 44, thirds at 45, how many at 43.2 -/
set_option maxRecDepth 100000 in
set_option maxHeartbeats 4000000 in
theorem m_X8_addTriple (l : Launch) (w : Wd) (σ : St) (z : Nat) (hz : nF σ 43 2 = nI z) (h : z < 80) (x y : Int32) : MV l yX8_addTriple wsX8_addTriple (rmL 1) w [.ref (w.1 (43)), .int (x), .int (y)] (σ) (fun σ9 => σ9 = sN (sI (sI σ 44 (upd (iA σ 44) z x)) 45 (upd (iA σ 45) z y)) 43 2 (nI (z + 1))) := by
  refine MV_of (cc := cX8_addTriple) (maxL := 3) (by decide) rfl (Nat.le_of_ble_eq_true rfl) ?_
  intro p e s m args below meth c A C hr hlk
  have C : Cx p s m args c w A cX8_addTriple RX8 3 wsX8_addTriple := C
  have hin_8 : ∀ u ∈ wsX80, u ∈ wsX8_addTriple := by decide +kernel
  have hl_9 : Cond.fieldLink RX8 9 "LineageBench$Triples" "pairs" "[I" ∈ wsX8_addTriple := by decide +kernel
  have hl_15 : Cond.fieldLink RX8 15 "LineageBench$Triples" "thirds" "[I" ∈ wsX8_addTriple := by decide +kernel
  have hl_18 : Cond.fieldLink RX8 18 "LineageBench$Triples" "size" "I" ∈ wsX8_addTriple := by decide +kernel
  refine g_aload_n (pc9 := 1) C rfl 0 dX8_addTriple_0 rfl rfl ?_
  refine g_get (v := .int (nI (z))) (pc9 := 4) C rfl (43) 2 dX8_addTriple_1 (by decide) (ce_43 w (σ)) hin_8 hl_18 rfl (by decide) rfl (congrArg (fun z => some (Value.int z)) hz) ?_
  refine g_bipush (pc9 := 6) C rfl (nI (80)) dX8_addTriple_4 rfl ?_
  refine g_icmp_ge (pc9 := 9) C rfl 39 dX8_addTriple_6 rfl (fun c_1 => ?_) (fun c_1 => ?_)
  · replace c_1 := (nI_leI (by omega) (by omega)).mp c_1
    exact absurd h (by omega)
  · replace c_1 := (not_congr (nI_leI (by omega) (by omega))).mp c_1
    refine g_aload_n (pc9 := 10) C rfl 0 dX8_addTriple_9 rfl rfl ?_
    refine g_get (v := .ref (w.1 (44))) (pc9 := 13) C rfl (43) 0 dX8_addTriple_10 (by decide) (ce_43 w (σ)) hin_8 hl_9 rfl (by decide) rfl rfl ?_
    refine g_aload_n (pc9 := 14) C rfl 0 dX8_addTriple_13 rfl rfl ?_
    refine g_get (v := .int (nI (z))) (pc9 := 17) C rfl (43) 2 dX8_addTriple_14 (by decide) (ce_43 w (σ)) hin_8 hl_18 rfl (by decide) rfl (congrArg (fun z => some (Value.int z)) hz) ?_
    refine g_iload_n (pc9 := 18) C rfl 1 dX8_addTriple_17 rfl rfl ?_
    refine g_iast (pc9 := 19) C rfl (44) (z) (iA σ (44)) dX8_addTriple_18 (by decide) (fun _ => rfl) (ce_44 w (σ)) rfl (by omega) (by decide) rfl ?_
    refine g_aload_n (pc9 := 20) C rfl 0 dX8_addTriple_19 rfl rfl ?_
    refine g_get (v := .ref (w.1 (45))) (pc9 := 23) C rfl (43) 1 dX8_addTriple_20 (by decide) (ce_43 w (sI σ (44) (upd (iA σ (44)) (z) (x)))) hin_8 hl_15 rfl (by decide) rfl rfl ?_
    refine g_aload_n (pc9 := 24) C rfl 0 dX8_addTriple_23 rfl rfl ?_
    refine g_get (v := .int (nI (z))) (pc9 := 27) C rfl (43) 2 dX8_addTriple_24 (by decide) (ce_43 w (sI σ (44) (upd (iA σ (44)) (z) (x)))) hin_8 hl_18 rfl (by decide) rfl (congrArg (fun z => some (Value.int z)) ((nF_I).trans hz)) ?_
    refine g_iload_n (pc9 := 28) C rfl 2 dX8_addTriple_27 rfl rfl ?_
    refine g_iast (pc9 := 29) C rfl (45) (z) (iA σ (45)) dX8_addTriple_28 (by decide) (fun _ => rfl) (ce_45 w (sI σ (44) (upd (iA σ (44)) (z) (x)))) rfl (by omega) (by decide) (iA_n (by decide)) ?_
    refine g_aload_n (pc9 := 30) C rfl 0 dX8_addTriple_29 rfl rfl ?_
    refine g_dup (pc9 := 31) C rfl dX8_addTriple_30 rfl ?_
    refine g_get (v := .int (nI (z))) (pc9 := 34) C rfl (43) 2 dX8_addTriple_31 (by decide) (ce_43 w (sI (sI σ (44) (upd (iA σ (44)) (z) (x))) (45) (upd (iA σ (45)) (z) (y)))) hin_8 hl_18 rfl (by decide) rfl (congrArg (fun z => some (Value.int z)) (((nF_I).trans (nF_I)).trans hz)) ?_
    refine g_iconst (pc9 := 35) C rfl (nI (1)) dX8_addTriple_34 rfl ?_
    refine g_iaddN (pc9 := 36) C rfl dX8_addTriple_35 ?_
    refine g_put (pc9 := 39) C rfl (43) 2 dX8_addTriple_36 (by decide) (ce_43 w (sI (sI σ (44) (upd (iA σ (44)) (z) (x))) (45) (upd (iA σ (45)) (z) (y)))) (rfl) hin_8 hl_18 tyX8 tyX8_ok nmX8 rfl (by decide) rfl rfl rfl (Nat.le_of_ble_eq_true rfl) ?_
    exact g_return C hr hlk dX8_addTriple_39 rfl
def wlS (x p t q : Int32) : Int32 := if (p ||| t) &&& x = p ||| t ∧ ¬ p &&& q = 0 then q ||| p else q
def wlU (f g : Nat → Int32) (x q : Int32) : Nat → Int32
  | 0 => q
  | t + 1 => wlS x (f t) (g t) (wlU f g x q t)
theorem wlU_y {f g : Nat → Int32} {x q : Int32} {t : Nat} (h1 : (f t ||| g t) &&& x = f t ||| g t) (h2 : ¬ f t &&& wlU f g x q t = 0) : wlU f g x q (t + 1) = wlU f g x q t ||| f t := if_pos ⟨h1, h2⟩
theorem wlU_a {f g : Nat → Int32} {x q : Int32} {t : Nat} (h1 : ¬ (f t ||| g t) &&& x = f t ||| g t) : wlU f g x q (t + 1) = wlU f g x q t := if_neg (fun h => h1 h.1)
theorem wlU_b {f g : Nat → Int32} {x q : Int32} {t : Nat} (h2 : f t &&& wlU f g x q t = 0) : wlU f g x q (t + 1) = wlU f g x q t := if_neg (fun h => h.2 h2)
set_option maxRecDepth 100000 in
set_option maxHeartbeats 4000000 in
theorem m_X8_withLinked (l : Launch) (w : Wd) (σ : St) (z : Nat) (hz : nF σ 43 2 = nI z) (h : z ≤ 80) (q x : Int32) : MI l yX8_withLinked wsX8_withLinked (rmL 1) w [.ref (w.1 (43)), .int (q), .int (x)] (σ) (fun r σ9 => σ9 = σ ∧ r = wlU (iA σ 44) (iA σ 45) x q z) := by
  refine MI_of (cc := cX8_withLinked) (maxL := 6) (ret := .int) (by decide) rfl (Nat.le_of_ble_eq_true rfl) ?_
  intro p e s m args below meth c A C hr hlk
  have C : Cx p s m args c w A cX8_withLinked RX8 6 wsX8_withLinked := C
  have hin_8 : ∀ u ∈ wsX80, u ∈ wsX8_withLinked := by decide +kernel
  have hl_9 : Cond.fieldLink RX8 9 "LineageBench$Triples" "pairs" "[I" ∈ wsX8_withLinked := by decide +kernel
  have hl_15 : Cond.fieldLink RX8 15 "LineageBench$Triples" "thirds" "[I" ∈ wsX8_withLinked := by decide +kernel
  have hl_18 : Cond.fieldLink RX8 18 "LineageBench$Triples" "size" "I" ∈ wsX8_withLinked := by decide +kernel
  refine g_iload_n (pc9 := 1) C rfl 1 dX8_withLinked_0 rfl rfl ?_
  refine g_istore_n (pc9 := 2) C rfl [(3, .int (q)), (0, .ref (w.1 (43))), (1, .int (q)), (2, .int (x))] dX8_withLinked_1 rfl (by decide) rfl ?_
  refine g_iconst (pc9 := 3) C rfl (nI (0)) dX8_withLinked_2 rfl ?_
  refine g_istore (pc9 := 5) C rfl [(4, .int (nI (0))), (3, .int (q)), (0, .ref (w.1 (43))), (1, .int (q)), (2, .int (x))] dX8_withLinked_3 (by decide) rfl ?_
  refine g_lp1 (α := Nat) (fun t => t ≤ z) (fun t => z - t) (fun t => G p l e _ s m args below meth c _ w A _ (σ) 0 0 5 [(4, .int (nI (t))), (3, .int (wlU (iA σ 44) (iA σ 45) x q t)), (0, .ref (w.1 (43))), (1, .int (q)), (2, .int (x))] []) (fun t hI ih => ?_) (0) (Nat.zero_le _)
  obtain ht := hI
  refine g_iload (pc9 := 7) C rfl 0 dX8_withLinked_5 rfl ?_
  refine g_aload_n (pc9 := 8) C rfl 2 dX8_withLinked_7 rfl rfl ?_
  refine g_get (v := .int (nI (z))) (pc9 := 11) C rfl (43) 2 dX8_withLinked_8 (by decide) (ce_43 w (σ)) hin_8 hl_18 rfl (by decide) rfl (congrArg (fun z => some (Value.int z)) hz) ?_
  refine g_icmp_ge (pc9 := 14) C rfl 68 dX8_withLinked_11 rfl (fun c_1 => ?_) (fun c_1 => ?_)
  · replace c_1 := (nI_leI (by omega) (by omega)).mp c_1
    refine g_iload_n (pc9 := 69) C rfl 1 dX8_withLinked_68 rfl rfl ?_
    exact g_ireturn C hr hlk dX8_withLinked_69 ⟨rfl, by rw [show t = z by omega]⟩
  · replace c_1 := (not_congr (nI_leI (by omega) (by omega))).mp c_1
    refine g_aload_n (pc9 := 15) C rfl 2 dX8_withLinked_14 rfl rfl ?_
    refine g_get (v := .ref (w.1 (44))) (pc9 := 18) C rfl (43) 0 dX8_withLinked_15 (by decide) (ce_43 w (σ)) hin_8 hl_9 rfl (by decide) rfl rfl ?_
    refine g_iload (pc9 := 20) C rfl 0 dX8_withLinked_18 rfl ?_
    refine g_iald (x := (iA σ (44)) (t)) (pc9 := 21) C rfl (44) (t) dX8_withLinked_20 (by decide) (ce_44 w (σ)) rfl (by omega) (by decide) rfl ?_
    refine g_aload_n (pc9 := 22) C rfl 2 dX8_withLinked_21 rfl rfl ?_
    refine g_get (v := .ref (w.1 (45))) (pc9 := 25) C rfl (43) 1 dX8_withLinked_22 (by decide) (ce_43 w (σ)) hin_8 hl_15 rfl (by decide) rfl rfl ?_
    refine g_iload (pc9 := 27) C rfl 0 dX8_withLinked_25 rfl ?_
    refine g_iald (x := (iA σ (45)) (t)) (pc9 := 28) C rfl (45) (t) dX8_withLinked_27 (by decide) (ce_45 w (σ)) rfl (by omega) (by decide) rfl ?_
    refine g_ior (pc9 := 29) C rfl dX8_withLinked_28 ?_
    refine g_istore (pc9 := 31) C rfl [(5, .int (((iA σ (44)) (t)) ||| ((iA σ (45)) (t)))), (4, .int (nI (t))), (3, .int (wlU (iA σ 44) (iA σ 45) x q t)), (0, .ref (w.1 (43))), (1, .int (q)), (2, .int (x))] dX8_withLinked_29 (by decide) rfl ?_
    refine g_iload (pc9 := 33) C rfl 0 dX8_withLinked_31 rfl ?_
    refine g_iload_n (pc9 := 34) C rfl 5 dX8_withLinked_33 rfl rfl ?_
    refine g_iand (pc9 := 35) C rfl dX8_withLinked_34 ?_
    refine g_iload (pc9 := 37) C rfl 0 dX8_withLinked_35 rfl ?_
    refine g_icmp_ne (pc9 := 40) C rfl 62 dX8_withLinked_37 rfl (fun c_2 => ?_) (fun c_2 => ?_)
    · have hst := wlU_a (q := q) c_2
      refine g_iinc (pc9 := 65) C rfl [(4, .int (nI (t + 1))), (5, .int (((iA σ (44)) (t)) ||| ((iA σ (45)) (t)))), (3, .int (wlU (iA σ 44) (iA σ 45) x q t)), (0, .ref (w.1 (43))), (1, .int (q)), (2, .int (x))] 1 (nI (t + 1)) dX8_withLinked_62 rfl (nI_1 (t)) (by decide) rfl ?_
      refine g_goto C 5 dX8_withLinked_65 rfl ?_
      refine g_sub [0, 2, 3, 4, 5] [(4, .int (nI (t + 1))), (3, .int (wlU (iA σ 44) (iA σ 45) x q t)), (0, .ref (w.1 (43))), (1, .int (q)), (2, .int (x))] rfl ?_
      rw [← hst]
      exact ih (t + 1) (by omega) (by omega)
    · refine g_aload_n (pc9 := 41) C rfl 3 dX8_withLinked_40 rfl rfl ?_
      refine g_get (v := .ref (w.1 (44))) (pc9 := 44) C rfl (43) 0 dX8_withLinked_41 (by decide) (ce_43 w (σ)) hin_8 hl_9 rfl (by decide) rfl rfl ?_
      refine g_iload (pc9 := 46) C rfl 1 dX8_withLinked_44 rfl ?_
      refine g_iald (x := (iA σ (44)) (t)) (pc9 := 47) C rfl (44) (t) dX8_withLinked_46 (by decide) (ce_44 w (σ)) rfl (by omega) (by decide) rfl ?_
      refine g_iload_n (pc9 := 48) C rfl 2 dX8_withLinked_47 rfl rfl ?_
      refine g_iand (pc9 := 49) C rfl dX8_withLinked_48 ?_
      refine g_if_eq (pc9 := 52) C rfl 62 dX8_withLinked_49 rfl (fun c_3 => ?_) (fun c_3 => ?_)
      · have hst := wlU_b (g := iA σ 45) (x := x) c_3
        refine g_iinc (pc9 := 65) C rfl [(4, .int (nI (t + 1))), (5, .int (((iA σ (44)) (t)) ||| ((iA σ (45)) (t)))), (3, .int (wlU (iA σ 44) (iA σ 45) x q t)), (0, .ref (w.1 (43))), (1, .int (q)), (2, .int (x))] 1 (nI (t + 1)) dX8_withLinked_62 rfl (nI_1 (t)) (by decide) rfl ?_
        refine g_goto C 5 dX8_withLinked_65 rfl ?_
        refine g_sub [0, 2, 3, 4, 5] [(4, .int (nI (t + 1))), (3, .int (wlU (iA σ 44) (iA σ 45) x q t)), (0, .ref (w.1 (43))), (1, .int (q)), (2, .int (x))] rfl ?_
        rw [← hst]
        exact ih (t + 1) (by omega) (by omega)
      · have hst := wlU_y (by assumption) c_3
        refine g_iload_n (pc9 := 53) C rfl 2 dX8_withLinked_52 rfl rfl ?_
        refine g_aload_n (pc9 := 54) C rfl 3 dX8_withLinked_53 rfl rfl ?_
        refine g_get (v := .ref (w.1 (44))) (pc9 := 57) C rfl (43) 0 dX8_withLinked_54 (by decide) (ce_43 w (σ)) hin_8 hl_9 rfl (by decide) rfl rfl ?_
        refine g_iload (pc9 := 59) C rfl 1 dX8_withLinked_57 rfl ?_
        refine g_iald (x := (iA σ (44)) (t)) (pc9 := 60) C rfl (44) (t) dX8_withLinked_59 (by decide) (ce_44 w (σ)) rfl (by omega) (by decide) rfl ?_
        refine g_ior (pc9 := 61) C rfl dX8_withLinked_60 ?_
        rw [← hst]
        refine g_istore_n (pc9 := 62) C rfl [(3, .int (wlU (iA σ 44) (iA σ 45) x q (t + 1))), (5, .int (((iA σ (44)) (t)) ||| ((iA σ (45)) (t)))), (4, .int (nI (t))), (0, .ref (w.1 (43))), (1, .int (q)), (2, .int (x))] dX8_withLinked_61 rfl (by decide) rfl ?_
        refine g_iinc (pc9 := 65) C rfl [(4, .int (nI (t + 1))), (3, .int (wlU (iA σ 44) (iA σ 45) x q (t + 1))), (5, .int (((iA σ (44)) (t)) ||| ((iA σ (45)) (t)))), (0, .ref (w.1 (43))), (1, .int (q)), (2, .int (x))] 2 (nI (t + 1)) dX8_withLinked_62 rfl (nI_1 (t)) (by decide) rfl ?_
        refine g_goto C 5 dX8_withLinked_65 rfl ?_
        refine g_sub [0, 1, 3, 4, 5] [(4, .int (nI (t + 1))), (3, .int (wlU (iA σ 44) (iA σ 45) x q (t + 1))), (0, .ref (w.1 (43))), (1, .int (q)), (2, .int (x))] rfl ?_
        exact ih (t + 1) (by omega) (by omega)
def pwF (u : Int32 → Int32) : Nat → Int32 → Int32
  | 0, q => q
  | k + 1, q => if u q = q then q else pwF u k (u q)
theorem pwF_y {u : Int32 → Int32} {v : Nat} {q : Int32} (h : v < 12) (h2 : u q = q) : pwF u (12 - v) q = q := by
  rw [show 12 - v = (12 - (v + 1)) + 1 by omega]
  exact if_pos h2
theorem pwF_n {u : Int32 → Int32} {v : Nat} {q : Int32} (h : v < 12) (h2 : ¬ u q = q) : pwF u (12 - v) q = pwF u (12 - (v + 1)) (u q) := by
  rw [show 12 - v = (12 - (v + 1)) + 1 by omega]
  exact if_neg h2
/-- the part of the least kind of 'left' in the set x -/
abbrev pwT (f g : Nat → Int32) (z : Nat) (y x : Int32) : Int32 := pwF (fun q => wlU f g x q z) 12 (y &&& -y)
set_option maxRecDepth 100000 in
set_option maxHeartbeats 4000000 in
theorem m_X8_partWithLeastKind (l : Launch) (w : Wd) (σ : St) (z : Nat) (hz : nF σ 43 2 = nI z) (h : z ≤ 80) (y x : Int32) : MI l yX8_partWithLeastKind wsX8_partWithLeastKind (rmL 2) w [.ref (w.1 (43)), .int (y), .int (x)] (σ) (fun r σ9 => σ9 = σ ∧ r = pwT (iA σ 44) (iA σ 45) z y x) := by
  refine MI_of (cc := cX8_partWithLeastKind) (maxL := 6) (ret := .int) (by decide) rfl (Nat.le_of_ble_eq_true rfl) ?_
  intro p e s m args below meth c A C hr hlk
  have C : Cx p s m args c w A cX8_partWithLeastKind RX8 6 wsX8_partWithLeastKind := C
  refine g_iload_n (pc9 := 1) C rfl 1 dX8_partWithLeastKind_0 rfl rfl ?_
  refine g_callSi (nn := 1) (rest := []) (pc9 := 4) C rfl [.int (y)] rfl dX8_partWithLeastKind_1 (m_lowestOneBit l w σ (y)) gX8_partWithLeastKind_J6_lowestOneBit_0f7a4 rfl rfl rfl (by decide +kernel) ⟨by decide, by decide⟩ rfl (Nat.le_of_ble_eq_true rfl) ⟨by decide, by decide⟩ (fun r_1 σ_1 q_1 => ?_)
  obtain ⟨qs_1, qr_1⟩ := q_1
  rw [qs_1, qr_1]
  clear qs_1 qr_1
  refine g_istore_n (pc9 := 5) C rfl [(3, .int (y &&& -y)), (0, .ref (w.1 (43))), (1, .int (y)), (2, .int (x))] dX8_partWithLeastKind_4 rfl (by decide) rfl ?_
  refine g_iconst (pc9 := 6) C rfl (nI (0)) dX8_partWithLeastKind_5 rfl ?_
  refine g_istore (pc9 := 8) C rfl [(4, .int (nI (0))), (3, .int (y &&& -y)), (0, .ref (w.1 (43))), (1, .int (y)), (2, .int (x))] dX8_partWithLeastKind_6 (by decide) rfl ?_
  refine g_sub [0, 1, 2, 3, 4] [(4, .int (nI (0))), (3, .int (y &&& -y)), (0, .ref (w.1 (43))), (1, .int (y)), (2, .int (x))] rfl ?_
  refine g_lp2 (α := Nat) (β := Int32) (fun v q => v ≤ 12 ∧ pwF (fun q => wlU (iA σ 44) (iA σ 45) x q z) (12 - v) q = pwT (iA σ 44) (iA σ 45) z y x) (fun v q => 12 - v) (fun v q => G p l e _ s m args below meth c _ w A _ (σ) 0 0 8 [(4, .int (nI (v))), (3, .int (q)), (0, .ref (w.1 (43))), (1, .int (y)), (2, .int (x))] []) (fun v q hI ih => ?_) (0) (y &&& -y) ⟨Nat.zero_le _, rfl⟩
  obtain ⟨hv, hq⟩ := hI
  refine g_iload (pc9 := 10) C rfl 0 dX8_partWithLeastKind_8 rfl ?_
  refine g_bipush (pc9 := 12) C rfl (nI (12)) dX8_partWithLeastKind_10 rfl ?_
  refine g_icmp_ge (pc9 := 15) C rfl 41 dX8_partWithLeastKind_12 rfl (fun c_2 => ?_) (fun c_2 => ?_)
  · replace c_2 := (nI_leI (by omega) (by omega)).mp c_2
    refine g_iload_n (pc9 := 42) C rfl 1 dX8_partWithLeastKind_41 rfl rfl ?_
    exact g_ireturn C hr hlk dX8_partWithLeastKind_42 ⟨rfl, by first | (rw [← hq, hst]) | (rw [← hq, show 12 - v = 0 by omega]; rfl)⟩
  · replace c_2 := (not_congr (nI_leI (by omega) (by omega))).mp c_2
    refine g_aload_n (pc9 := 16) C rfl 2 dX8_partWithLeastKind_15 rfl rfl ?_
    refine g_iload_n (pc9 := 17) C rfl 1 dX8_partWithLeastKind_16 rfl rfl ?_
    refine g_iload_n (pc9 := 18) C rfl 4 dX8_partWithLeastKind_17 rfl rfl ?_
    refine g_callVi (nn := 2) (rest := []) (pc9 := 21) C rfl (43) [.int (q), .int (x)] rfl dX8_partWithLeastKind_18 (m_X8_withLinked l w σ z hz h q x) gX8_partWithLeastKind_X8_withLinked (by decide) (ce_43 w (σ)) rfl rfl rfl rfl rfl (by decide +kernel) ⟨by decide, by decide⟩ rfl (Nat.le_of_ble_eq_true rfl) ⟨by decide, by decide⟩ (fun r_3 σ_3 q_3 => ?_)
    obtain ⟨qs_3, qr_3⟩ := q_3
    rw [qs_3, qr_3]
    clear qs_3 qr_3
    refine g_istore (pc9 := 23) C rfl [(5, .int (wlU (iA σ 44) (iA σ 45) x q z)), (4, .int (nI (v))), (3, .int (q)), (0, .ref (w.1 (43))), (1, .int (y)), (2, .int (x))] dX8_partWithLeastKind_21 (by decide) rfl ?_
    refine g_iload (pc9 := 25) C rfl 0 dX8_partWithLeastKind_23 rfl ?_
    refine g_iload_n (pc9 := 26) C rfl 2 dX8_partWithLeastKind_25 rfl rfl ?_
    refine g_icmp_ne (pc9 := 29) C rfl 32 dX8_partWithLeastKind_26 rfl (fun c_4 => ?_) (fun c_4 => ?_)
    · have hst := pwF_n (u := fun q => wlU (iA σ 44) (iA σ 45) x q z) (by omega : v < 12) c_4
      refine g_iload (pc9 := 34) C rfl 0 dX8_partWithLeastKind_32 rfl ?_
      refine g_istore_n (pc9 := 35) C rfl [(3, .int (wlU (iA σ 44) (iA σ 45) x q z)), (5, .int (wlU (iA σ 44) (iA σ 45) x q z)), (4, .int (nI (v))), (0, .ref (w.1 (43))), (1, .int (y)), (2, .int (x))] dX8_partWithLeastKind_34 rfl (by decide) rfl ?_
      refine g_iinc (pc9 := 38) C rfl [(4, .int (nI (v + 1))), (3, .int (wlU (iA σ 44) (iA σ 45) x q z)), (5, .int (wlU (iA σ 44) (iA σ 45) x q z)), (0, .ref (w.1 (43))), (1, .int (y)), (2, .int (x))] 2 (nI (v + 1)) dX8_partWithLeastKind_35 rfl (nI_1 (v)) (by decide) rfl ?_
      refine g_goto C 8 dX8_partWithLeastKind_38 rfl ?_
      refine g_sub [0, 1, 3, 4, 5] [(4, .int (nI (v + 1))), (3, .int (wlU (iA σ 44) (iA σ 45) x q z)), (0, .ref (w.1 (43))), (1, .int (y)), (2, .int (x))] rfl ?_
      exact ih (v + 1) _ ⟨by omega, by rw [← hq, hst]⟩ (by omega)
    · have hst := pwF_y (u := fun q => wlU (iA σ 44) (iA σ 45) x q z) (by omega : v < 12) c_4
      refine g_goto C 41 dX8_partWithLeastKind_29 rfl ?_
      refine g_iload_n (pc9 := 42) C rfl 2 dX8_partWithLeastKind_41 rfl rfl ?_
      exact g_ireturn C hr hlk dX8_partWithLeastKind_42 ⟨rfl, by first | (rw [← hq, hst]) | (rw [← hq, show 12 - v = 0 by omega]; rfl)⟩

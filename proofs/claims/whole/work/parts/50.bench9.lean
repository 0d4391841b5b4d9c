/-! LineageBench: look, nearer (NoSuchElementException) -/
section GXN
variable {p : Program} {l : Launch} {e : Env} {R : Room} {s : State} {m : MethodId} {args : Array Value} {below : List Frame} {meth : Method} {c : Code}
  {w : Wd} {sA : Nat → Nat} {A : Nat → Prop} {cc : ByteArray} {nL : Nat} {Ts : List Cond} {σ : St} {cells slots pc mc ms : Nat} {lv : List (Nat × Value)} {rest : List Value} {thr : String → St → Prop}
theorem g_throwN (X : CX p l s m args c w sA A cc RX10 nL Ts) (hlk : meth.locks = false) {text : String} {ik is : Nat} {Qc : Array Value → State → Outcome → State → Prop} (d0 : decode cc pc = .ok (.new ik, 3)) (d3 : decode cc (pc + 3) = .ok (.dup, 1)) (d4 : decode cc (pc + 4) = .ok (.ldc is, 2)) (d6 : decode cc (pc + 6) = .ok (.invokespecial 171, 3)) (d9 : decode cc (pc + 9) = .ok (.athrow, 1))
    (hstr : (is, text) ∈ strL) (hk : Cond.classLink RX10 ik nxE ∈ Ts) (hini : Cond.initialized nxE ∈ Ts) (hg1 : ∀ u ∈ nx_at.filter goodWord, u ∈ Ts) (hg2 : ∀ u ∈ nx_at.filter (fun u => !goodWord u), u ∈ XB)
    (hot : ∀ u ∈ Cond.classLink RX10 ik nxE :: Cond.initialized nxE :: nx_at, vx_ot u = true) (hRf : 5 < R.frames) (hRl : (rest.map fun v => v.category).sum + 82 ≤ R.locals) (hRc : cells + 1 ≤ R.cells) (hRs : slots + 6 ≤ R.slots) (hc : cells + 1 ≤ mc) (hs : slots + 6 ≤ ms) (ht : thr nxE σ) : G p l e R s m args below meth c (vx_MQ below Qc (XT w A thr) args s mc ms A) w A nL σ cells slots pc lv rest :=
  fun H locs ls hP hD hS hl => nx_throwS X.1.1 X.1.2.1 X.2.1 X.1.2.2.2.1 (X.1.2.2.2.2.1 _ hk) (X.1.2.2.2.2.1 _ hini) (X.2.2.1.2.2.1 _ hstr) (vx_hat (B := XB) (fun u hu => X.1.2.2.2.2.1 u (hg1 u hu)) hg2 (fun u hu => va_Nw.use (by revert u; decide +kernel) (X.2.2.1.2.2.2 u hu))) hot X.2.2.1.1 X.2.2.1.2.1 hS (by rw [hl.1, X.1.2.2.1]) d0 d3 d4 d6 d9 (fun x hx => absurd (X.2.2.2 x hx) (fun h => h)) (by show 2 + 3 < _; omega) (by show _ + (13 * (2 + 1) + 43) ≤ _; omega) hRc hRs hlk (fun t h1 h2 h3 => xt_of X.1 hP hD hS h1 h2 h3 ht) hS.2.2 hc hs
end GXN
noncomputable def lkR (σ : St) (j : Nat) (y : Int32) : Int32 := if y = nI 0 then tL σ j else if y = nI 1 then tN σ j else if y = nI 2 then aK σ j else if y = nI 3 then pI (plP σ j) else if y = nI 4 then pI (biP σ j) else nI (maxF (dep (pp σ j)) (nn σ j))
def lkX (σ : St) (x y : Int32) (E : String) : Prop := t1X σ x E ∨ (E = xNSE ∧ (∃ i, i < 8 ∧ x = nI i ∧ ¬ tN σ (tS σ i) = 0) ∧ ¬ okI 6 y)
set_option maxRecDepth 100000 in
set_option maxHeartbeats 4000000 in
theorem m_X10_look (l : Launch) (hst : l.stackTraces = false) (w : Wd) (sA : Nat → Nat) (σ : St) (hT : tOk σ) (x y : Int32) : MXI l yX10_look wsX10_look 8 3 w sA [.ref (w.1 (31)), .int (x), .int (y)] (σ) (fun r σ9 => ∃ i, i < 8 ∧ x = nI i ∧ ¬ tN σ (tS σ i) = 0 ∧ okI 6 y ∧ σ9 = σ ∧ r = lkR σ (tS σ i) y) (fun E σ9 => σ9 = σ ∧ lkX σ x y E) := by
  refine MXI_of hst (cc := cX10_look) (maxL := 4) (ret := .int) (by decide) rfl (Nat.le_of_ble_eq_true rfl) ?_
  intro p e s m args below meth c A X hr hlk
  have X : CX p l s m args c w sA A cX10_look RX10 4 wsX10_look := X
  have C := X.1
  have hin_7 : ∀ u ∈ wsX70, u ∈ wsX10_look := by decide +kernel
  have hl_123 : Cond.fieldLink RX10 123 "LineageBench$Tree" "leaves" "I" ∈ wsX10_look := by decide +kernel
  have hl_151 : Cond.fieldLink RX10 151 "LineageBench$Tree" "nodes" "I" ∈ wsX10_look := by decide +kernel
  refine g_iload_n (pc9 := 1) C rfl 1 dX10_look_0 rfl rfl ?_
  refine x_callSv (rest := []) X hlk (pc9 := 4) rfl [.int (x)] (nn := 1) rfl dX10_look_1 (m_X10_needShelf l hst w sA σ x) gX10_look_X10_needShelf rfl (by decide +kernel) ⟨by decide, by decide⟩ rfl (Nat.le_of_ble_eq_true rfl) ⟨by decide, by decide⟩ ⟨by decide, by decide⟩ (fun E σ9 h => ⟨h.1, Or.inl (Or.inl ⟨h.2.1, h.2.2⟩)⟩) (fun σ_1 q_1 => ?_)
  obtain ⟨qs_1, i, hb_i, hx_1⟩ := q_1
  rw [qs_1]
  clear qs_1
  subst hx_1
  refine g_aload_n (pc9 := 5) C rfl 0 dX10_look_4 rfl rfl ?_
  refine g_iload_n (pc9 := 6) C rfl 1 dX10_look_5 rfl rfl ?_
  refine x_callVr (rest := []) X hlk (pc9 := 9) rfl (31) [.int (nI (i))] (nn := 1) rfl dX10_look_6 (m_X10_treeOn l hst w sA σ i hb_i (hT.s hb_i)) gX10_look_X10_treeOn (by decide) (ce_31 w (σ)) rfl rfl rfl (by decide +kernel) ⟨by decide, by decide⟩ rfl (Nat.le_of_ble_eq_true rfl) ⟨by decide, by decide⟩ ⟨by decide, by decide⟩ (fun E σ9 h => ⟨h.1, Or.inl (Or.inr ⟨h.2.1, i, hb_i, rfl, h.2.2⟩)⟩) (fun r_2 σ_2 q_2 => ?_)
  obtain ⟨qs_2, qr_2, hnz_i⟩ := q_2
  replace qs_2 : σ_2 = σ := qs_2
  replace qr_2 : r_2 = 64 + 5 * tS σ i := qr_2
  rw [qs_2, qr_2]
  clear qs_2 qr_2
  have ht_i := hT.s hb_i
  refine g_astore_n (pc9 := 10) C rfl [(3, .ref (w.1 (64 + 5 * (tS σ i)))), (0, .ref (w.1 (31))), (1, .int (nI (i))), (2, .int (y))] dX10_look_9 rfl (by decide) rfl ?_
  refine g_iload_n (pc9 := 11) C rfl 3 dX10_look_10 rfl rfl ?_
  rcases sw_in (y) (n := 6) (by decide) with ⟨i_3, hi_3, hx_3⟩ | hx_3
  · rcases (show i_3 = 0 ∨ i_3 = 1 ∨ i_3 = 2 ∨ i_3 = 3 ∨ i_3 = 4 ∨ i_3 = 5 by omega) with h_3 | h_3 | h_3 | h_3 | h_3 | h_3
    · subst h_3
      subst hx_3
      refine g_tableIn C 48 (off := 37) dX10_look_11 (by decide) (by decide) (by decide) rfl ?_
      refine g_aload_n (pc9 := 49) C rfl 0 dX10_look_48 rfl rfl ?_
      refine g_get (v := .int (nF σ (64 + 5 * (tS σ i)) 5)) (pc9 := 52) C rfl (64 + 5 * (tS σ i)) 5 dX10_look_49 (by omega) (ce_tree w (σ) ((tS σ i))) hin_7 hl_123 rfl (by decide) rfl rfl ?_
      exact g_xi (by decide) (by decide) (g_ireturn C hr hlk dX10_look_52 ⟨i, hb_i, rfl, hnz_i, ⟨_, by decide, rfl⟩, rfl, rfl⟩)
    · subst h_3
      subst hx_3
      refine g_tableIn C 53 (off := 42) dX10_look_11 (by decide) (by decide) (by decide) rfl ?_
      refine g_aload_n (pc9 := 54) C rfl 0 dX10_look_53 rfl rfl ?_
      refine g_get (v := .int (nF σ (64 + 5 * (tS σ i)) 4)) (pc9 := 57) C rfl (64 + 5 * (tS σ i)) 4 dX10_look_54 (by omega) (ce_tree w (σ) ((tS σ i))) hin_7 hl_151 rfl (by decide) rfl rfl ?_
      exact g_xi (by decide) (by decide) (g_ireturn C hr hlk dX10_look_57 ⟨i, hb_i, rfl, hnz_i, ⟨_, by decide, rfl⟩, rfl, rfl⟩)
    · subst h_3
      subst hx_3
      refine g_tableIn C 58 (off := 47) dX10_look_11 (by decide) (by decide) (by decide) rfl ?_
      refine g_aload_n (pc9 := 59) C rfl 0 dX10_look_58 rfl rfl ?_
      refine g_callVi (nn := 0) (rest := []) (pc9 := 62) C rfl (64 + 5 * (tS σ i)) [] rfl dX10_look_59 (m_X7_allKinds l w σ (tS σ i) ht_i) gX10_look_X7_allKinds (by omega) (ce_tree w (σ) ((tS σ i))) rfl rfl rfl rfl rfl (by decide +kernel) ⟨by decide, by decide⟩ rfl (Nat.le_of_ble_eq_true rfl) ⟨by decide, by decide⟩ (fun r_4 σ_4 q_4 => ?_)
      obtain ⟨qs_4, qr_4⟩ := q_4
      rw [qs_4, qr_4]
      clear qs_4 qr_4
      exact g_xi (by decide) (by decide) (g_ireturn C hr hlk dX10_look_62 ⟨i, hb_i, rfl, hnz_i, ⟨_, by decide, rfl⟩, rfl, rfl⟩)
    · subst h_3
      subst hx_3
      refine g_tableIn C 63 (off := 52) dX10_look_11 (by decide) (by decide) (by decide) rfl ?_
      refine g_aload_n (pc9 := 64) C rfl 0 dX10_look_63 rfl rfl ?_
      refine g_callVi (nn := 0) (rest := []) (pc9 := 67) C rfl (64 + 5 * (tS σ i)) [] rfl dX10_look_64 (m_X7_isPlain l w σ (tS σ i) ht_i) gX10_look_X7_isPlain (by omega) (ce_tree w (σ) ((tS σ i))) rfl rfl rfl rfl rfl (by decide +kernel) ⟨by decide, by decide⟩ rfl (Nat.le_of_ble_eq_true rfl) ⟨by decide, by decide⟩ (fun r_5 σ_5 q_5 => ?_)
      obtain ⟨qs_5, qr_5⟩ := q_5
      rw [qs_5, qr_5]
      clear qs_5 qr_5
      refine g_if_eq (pc9 := 70) C rfl 74 dX10_look_67 rfl (fun c_6 => ?_) (fun c_6 => ?_)
      · have hpl := pI_no c_6
        refine g_iconst (pc9 := 75) C rfl (nI (0)) dX10_look_74 rfl ?_
        exact g_xi (by decide) (by decide) (g_ireturn C hr hlk dX10_look_75 ⟨i, hb_i, rfl, hnz_i, ⟨_, by decide, rfl⟩, rfl, (by first | exact (pI_t hpl).symm | exact (pI_f hpl).symm)⟩)
      · have hpl := pI_ye c_6
        refine g_iconst (pc9 := 71) C rfl (nI (1)) dX10_look_70 rfl ?_
        refine g_goto C 75 dX10_look_71 rfl ?_
        exact g_xi (by decide) (by decide) (g_ireturn C hr hlk dX10_look_75 ⟨i, hb_i, rfl, hnz_i, ⟨_, by decide, rfl⟩, rfl, (by first | exact (pI_t hpl).symm | exact (pI_f hpl).symm)⟩)
    · subst h_3
      subst hx_3
      refine g_tableIn C 76 (off := 65) dX10_look_11 (by decide) (by decide) (by decide) rfl ?_
      refine g_aload_n (pc9 := 77) C rfl 0 dX10_look_76 rfl rfl ?_
      refine g_callVi (nn := 0) (rest := []) (pc9 := 80) C rfl (64 + 5 * (tS σ i)) [] rfl dX10_look_77 (m_X7_isBinary l w σ (tS σ i) ht_i (nn σ (tS σ i)) (hT.2 (tS σ i) ht_i).1 (hT.2 (tS σ i) ht_i).2.1) gX10_look_X7_isBinary (by omega) (ce_tree w (σ) ((tS σ i))) rfl rfl rfl rfl rfl (by decide +kernel) ⟨by decide, by decide⟩ rfl (Nat.le_of_ble_eq_true rfl) ⟨by decide, by decide⟩ (fun r_7 σ_7 q_7 => ?_)
      obtain ⟨qs_7, qr_7⟩ := q_7
      rw [qs_7, qr_7]
      clear qs_7 qr_7
      refine g_if_eq (pc9 := 83) C rfl 87 dX10_look_80 rfl (fun c_8 => ?_) (fun c_8 => ?_)
      · have hpl := pI_no c_8
        refine g_iconst (pc9 := 88) C rfl (nI (0)) dX10_look_87 rfl ?_
        exact g_xi (by decide) (by decide) (g_ireturn C hr hlk dX10_look_88 ⟨i, hb_i, rfl, hnz_i, ⟨_, by decide, rfl⟩, rfl, (by first | exact (pI_t hpl).symm | exact (pI_f hpl).symm)⟩)
      · have hpl := pI_ye c_8
        refine g_iconst (pc9 := 84) C rfl (nI (1)) dX10_look_83 rfl ?_
        refine g_goto C 88 dX10_look_84 rfl ?_
        exact g_xi (by decide) (by decide) (g_ireturn C hr hlk dX10_look_88 ⟨i, hb_i, rfl, hnz_i, ⟨_, by decide, rfl⟩, rfl, (by first | exact (pI_t hpl).symm | exact (pI_f hpl).symm)⟩)
    · subst h_3
      subst hx_3
      refine g_tableIn C 89 (off := 78) dX10_look_11 (by decide) (by decide) (by decide) rfl ?_
      refine g_aload_n (pc9 := 90) C rfl 0 dX10_look_89 rfl rfl ?_
      refine g_callVi (nn := 0) (rest := []) (pc9 := 93) C rfl (64 + 5 * (tS σ i)) [] rfl dX10_look_90 (m_X7_height l w σ (tS σ i) ht_i (nn σ (tS σ i)) (hT.2 (tS σ i) ht_i).1 (hT.2 (tS σ i) ht_i).2.1 (pp σ (tS σ i)) (hT.2 (tS σ i) ht_i).2.2.1 (hT.2 (tS σ i) ht_i).2.2.2.1) gX10_look_X7_height (by omega) (ce_tree w (σ) ((tS σ i))) rfl rfl rfl rfl rfl (by decide +kernel) ⟨by decide, by decide⟩ rfl (Nat.le_of_ble_eq_true rfl) ⟨by decide, by decide⟩ (fun r_9 σ_9 q_9 => ?_)
      obtain ⟨qs_9, qr_9⟩ := q_9
      rw [qs_9, qr_9]
      clear qs_9 qr_9
      exact g_xi (by decide) (by decide) (g_ireturn C hr hlk dX10_look_93 ⟨i, hb_i, rfl, hnz_i, ⟨_, by decide, rfl⟩, rfl, rfl⟩)
  · refine g_tableOut C 94 dX10_look_11 hx_3 rfl ?_
    have ho : ∀ i, i < 6 → ¬ y = nI i := fun i hi => sw_no (n := 6) hx_3 hi (by decide)
    exact g_throwN X hlk (text := "nothing such to look at") dX10_look_94 dX10_look_97 dX10_look_98 dX10_look_100 dX10_look_103 (by decide) (by decide +kernel) (by decide +kernel) (by decide +kernel) (by decide +kernel) (by decide +kernel) (by decide) (Nat.le_of_ble_eq_true rfl) (by decide) (by decide) (by decide) (by decide) ⟨rfl, Or.inr ⟨rfl, ⟨i, hb_i, rfl, hnz_i⟩, fun ⟨k, hk, hy⟩ => ho k hk hy⟩⟩
def neX9 (σ : St) (x a b d : Int32) (E : String) : Prop := (E = xIOB ∧ ¬ (okI 8 x ∧ okI 12 a ∧ okI 12 b ∧ okI 12 d)) ∨ (E = xISE ∧ okI 12 a ∧ okI 12 b ∧ okI 12 d ∧ noP σ x) ∨ (E = xNSE ∧ ∃ i q u v, i < 8 ∧ q < 12 ∧ u < 12 ∧ v < 12 ∧ x = nI i ∧ a = nI q ∧ b = nI u ∧ d = nI v ∧ okP σ i ∧ (¬ bC (al3 q u v) = nI 3 ∨ ¬ aK σ (tS σ i) &&& al3 q u v = al3 q u v))
set_option maxRecDepth 100000 in
set_option maxHeartbeats 4000000 in
theorem m_X10_nearer (l : Launch) (hst : l.stackTraces = false) (w : Wd) (sA : Nat → Nat) (σ : St) (hT : tOk σ) (x a b d : Int32) : MXI l yX10_nearer wsX10_nearer 8 8 w sA [.ref (w.1 (31)), .int (x), .int (a), .int (b), .int (d)] (σ) (fun r σ9 => ∃ i q u v, i < 8 ∧ q < 12 ∧ u < 12 ∧ v < 12 ∧ x = nI i ∧ a = nI q ∧ b = nI u ∧ d = nI v ∧ okP σ i ∧ bC (al3 q u v) = nI 3 ∧ aK σ (tS σ i) &&& al3 q u v = al3 q u v ∧ σ9 = σ ∧ r = alW σ (tS σ i) q u v) (fun E σ9 => σ9 = σ ∧ neX9 σ x a b d E) := by
  refine MXI_of hst (cc := cX10_nearer) (maxL := 7) (ret := .int) (by decide) rfl (Nat.le_of_ble_eq_true rfl) ?_
  intro p e s m args below meth c A X hr hlk
  have X : CX p l s m args c w sA A cX10_nearer RX10 7 wsX10_nearer := X
  have C := X.1
  refine g_iload_n (pc9 := 1) C rfl 1 dX10_nearer_0 rfl rfl ?_
  refine x_callSv (rest := []) X hlk (pc9 := 4) rfl [.int (x)] (nn := 1) rfl dX10_nearer_1 (m_X10_needShelf l hst w sA σ x) gX10_nearer_X10_needShelf rfl (by decide +kernel) ⟨by decide, by decide⟩ rfl (Nat.le_of_ble_eq_true rfl) ⟨by decide, by decide⟩ ⟨by decide, by decide⟩ (fun E σ9 h => ⟨h.1, Or.inl ⟨h.2.1, fun q => h.2.2 q.1⟩⟩) (fun σ_1 q_1 => ?_)
  obtain ⟨qs_1, i, hb_i, hx_1⟩ := q_1
  rw [qs_1]
  clear qs_1
  subst hx_1
  refine g_iload_n (pc9 := 5) C rfl 2 dX10_nearer_4 rfl rfl ?_
  refine x_callSv (rest := []) X hlk (pc9 := 8) rfl [.int (a)] (nn := 1) rfl dX10_nearer_5 (m_X10_needKind l hst w sA σ a) gX10_nearer_X10_needKind rfl (by decide +kernel) ⟨by decide, by decide⟩ rfl (Nat.le_of_ble_eq_true rfl) ⟨by decide, by decide⟩ ⟨by decide, by decide⟩ (fun E σ9 h => ⟨h.1, Or.inl ⟨h.2.1, fun q => h.2.2 q.2.1⟩⟩) (fun σ_2 q_2 => ?_)
  obtain ⟨qs_2, q, hb_q, hx_2⟩ := q_2
  rw [qs_2]
  clear qs_2
  subst hx_2
  refine g_iload_n (pc9 := 9) C rfl 3 dX10_nearer_8 rfl rfl ?_
  refine x_callSv (rest := []) X hlk (pc9 := 12) rfl [.int (b)] (nn := 1) rfl dX10_nearer_9 (m_X10_needKind l hst w sA σ b) gX10_nearer_X10_needKind rfl (by decide +kernel) ⟨by decide, by decide⟩ rfl (Nat.le_of_ble_eq_true rfl) ⟨by decide, by decide⟩ ⟨by decide, by decide⟩ (fun E σ9 h => ⟨h.1, Or.inl ⟨h.2.1, fun q => h.2.2 q.2.2.1⟩⟩) (fun σ_3 q_3 => ?_)
  obtain ⟨qs_3, u, hb_u, hx_3⟩ := q_3
  rw [qs_3]
  clear qs_3
  subst hx_3
  refine g_iload (pc9 := 14) C rfl 4 dX10_nearer_12 rfl ?_
  refine x_callSv (rest := []) X hlk (pc9 := 17) rfl [.int (d)] (nn := 1) rfl dX10_nearer_14 (m_X10_needKind l hst w sA σ d) gX10_nearer_X10_needKind rfl (by decide +kernel) ⟨by decide, by decide⟩ rfl (Nat.le_of_ble_eq_true rfl) ⟨by decide, by decide⟩ ⟨by decide, by decide⟩ (fun E σ9 h => ⟨h.1, Or.inl ⟨h.2.1, fun q => h.2.2 q.2.2.2⟩⟩) (fun σ_4 q_4 => ?_)
  obtain ⟨qs_4, v, hb_v, hx_4⟩ := q_4
  rw [qs_4]
  clear qs_4
  subst hx_4
  refine g_aload_n (pc9 := 18) C rfl 0 dX10_nearer_17 rfl rfl ?_
  refine g_iload_n (pc9 := 19) C rfl 1 dX10_nearer_18 rfl rfl ?_
  refine x_callVr (rest := []) X hlk (pc9 := 22) rfl (31) [.int (nI (i))] (nn := 1) rfl dX10_nearer_19 (m_X10_plainTreeOn l hst w sA σ i hb_i (hT.s hb_i)) gX10_nearer_X10_plainTreeOn (by decide) (ce_31 w (σ)) rfl rfl rfl (by decide +kernel) ⟨by decide, by decide⟩ rfl (Nat.le_of_ble_eq_true rfl) ⟨by decide, by decide⟩ ⟨by decide, by decide⟩ (fun E σ9 h => ⟨h.1, Or.inr (Or.inl ⟨h.2.1, ⟨q, hb_q, rfl⟩, ⟨u, hb_u, rfl⟩, ⟨v, hb_v, rfl⟩, ⟨i, hb_i, rfl, h.2.2⟩⟩)⟩) (fun r_5 σ_5 q_5 => ?_)
  obtain ⟨qs_5, qr_5, hnz_i⟩ := q_5
  replace qs_5 : σ_5 = σ := qs_5
  replace qr_5 : r_5 = 64 + 5 * tS σ i := qr_5
  rw [qs_5, qr_5]
  clear qs_5 qr_5
  have ht_i := hT.s hb_i
  refine g_astore (pc9 := 24) C rfl [(5, .ref (w.1 (64 + 5 * (tS σ i)))), (0, .ref (w.1 (31))), (1, .int (nI (i))), (2, .int (nI (q))), (3, .int (nI (u))), (4, .int (nI (v)))] dX10_nearer_22 (by decide) rfl ?_
  refine g_iconst (pc9 := 25) C rfl (nI (1)) dX10_nearer_24 rfl ?_
  refine g_iload_n (pc9 := 26) C rfl 3 dX10_nearer_25 rfl rfl ?_
  refine g_ishl (pc9 := 27) C rfl dX10_nearer_26 ?_
  refine g_iconst (pc9 := 28) C rfl (nI (1)) dX10_nearer_27 rfl ?_
  refine g_iload_n (pc9 := 29) C rfl 4 dX10_nearer_28 rfl rfl ?_
  refine g_ishl (pc9 := 30) C rfl dX10_nearer_29 ?_
  refine g_ior (pc9 := 31) C rfl dX10_nearer_30 ?_
  refine g_iconst (pc9 := 32) C rfl (nI (1)) dX10_nearer_31 rfl ?_
  refine g_iload (pc9 := 34) C rfl 5 dX10_nearer_32 rfl ?_
  refine g_ishl (pc9 := 35) C rfl dX10_nearer_34 ?_
  refine g_ior (pc9 := 36) C rfl dX10_nearer_35 ?_
  refine g_istore (pc9 := 38) C rfl [(6, .int ((((nI (1)) <<< ((nI (q)) &&& 31)) ||| ((nI (1)) <<< ((nI (u)) &&& 31))) ||| ((nI (1)) <<< ((nI (v)) &&& 31)))), (5, .ref (w.1 (64 + 5 * (tS σ i)))), (0, .ref (w.1 (31))), (1, .int (nI (i))), (2, .int (nI (q))), (3, .int (nI (u))), (4, .int (nI (v)))] dX10_nearer_36 (by decide) rfl ?_
  refine g_iload (pc9 := 40) C rfl 0 dX10_nearer_38 rfl ?_
  refine g_callSi (nn := 1) (rest := []) (pc9 := 43) C rfl [.int ((((nI (1)) <<< ((nI (q)) &&& 31)) ||| ((nI (1)) <<< ((nI (u)) &&& 31))) ||| ((nI (1)) <<< ((nI (v)) &&& 31)))] rfl dX10_nearer_40 (m_bitCount l w σ (al3 q u v)) gX10_nearer_J6_bitCount_0f7a4 rfl rfl rfl (by decide +kernel) ⟨by decide, by decide⟩ rfl (Nat.le_of_ble_eq_true rfl) ⟨by decide, by decide⟩ (fun r_6 σ_6 q_6 => ?_)
  obtain ⟨qs_6, qr_6⟩ := q_6
  rw [qs_6, qr_6]
  clear qs_6 qr_6
  refine g_iconst (pc9 := 44) C rfl (nI (3)) dX10_nearer_43 rfl ?_
  refine g_icmp_eq (pc9 := 47) C rfl 57 dX10_nearer_44 rfl (fun c_7 => ?_) (fun c_7 => ?_)
  · have h3 := c_7
    refine g_aload (pc9 := 59) C rfl 1 dX10_nearer_57 rfl ?_
    refine g_callVi (nn := 0) (rest := []) (pc9 := 62) C rfl (64 + 5 * (tS σ i)) [] rfl dX10_nearer_59 (m_X7_allKinds l w σ (tS σ i) ht_i) gX10_nearer_X7_allKinds (by omega) (ce_tree w (σ) ((tS σ i))) rfl rfl rfl rfl rfl (by decide +kernel) ⟨by decide, by decide⟩ rfl (Nat.le_of_ble_eq_true rfl) ⟨by decide, by decide⟩ (fun r_8 σ_8 q_8 => ?_)
    obtain ⟨qs_8, qr_8⟩ := q_8
    rw [qs_8, qr_8]
    clear qs_8 qr_8
    refine g_iload (pc9 := 64) C rfl 0 dX10_nearer_62 rfl ?_
    refine g_iand (pc9 := 65) C rfl dX10_nearer_64 ?_
    refine g_iload (pc9 := 67) C rfl 0 dX10_nearer_65 rfl ?_
    refine g_icmp_eq (pc9 := 70) C rfl 80 dX10_nearer_67 rfl (fun c_9 => ?_) (fun c_9 => ?_)
    · have h4 := c_9
      refine g_aload (pc9 := 82) C rfl 1 dX10_nearer_80 rfl ?_
      refine g_iconst (pc9 := 83) C rfl (nI (1)) dX10_nearer_82 rfl ?_
      refine g_iload_n (pc9 := 84) C rfl 4 dX10_nearer_83 rfl rfl ?_
      refine g_ishl (pc9 := 85) C rfl dX10_nearer_84 ?_
      refine g_iconst (pc9 := 86) C rfl (nI (1)) dX10_nearer_85 rfl ?_
      refine g_iload_n (pc9 := 87) C rfl 5 dX10_nearer_86 rfl rfl ?_
      refine g_ishl (pc9 := 88) C rfl dX10_nearer_87 ?_
      refine g_iconst (pc9 := 89) C rfl (nI (1)) dX10_nearer_88 rfl ?_
      refine g_iload (pc9 := 91) C rfl 6 dX10_nearer_89 rfl ?_
      refine g_ishl (pc9 := 92) C rfl dX10_nearer_91 ?_
      refine g_callVi (nn := 3) (rest := []) (pc9 := 95) C rfl (64 + 5 * (tS σ i)) [.int ((nI (1)) <<< ((nI (q)) &&& 31)), .int ((nI (1)) <<< ((nI (u)) &&& 31)), .int ((nI (1)) <<< ((nI (v)) &&& 31))] rfl dX10_nearer_92 (m_X7_whoIsNearer l w σ (tS σ i) ht_i (nn σ (tS σ i)) (hT.2 (tS σ i) ht_i).1 (hT.2 (tS σ i) ht_i).2.1 ((nI (1)) <<< ((nI (q)) &&& 31)) ((nI (1)) <<< ((nI (u)) &&& 31)) ((nI (1)) <<< ((nI (v)) &&& 31))) gX10_nearer_X7_whoIsNearer (by omega) (ce_tree w (σ) ((tS σ i))) rfl rfl rfl rfl rfl (by decide +kernel) ⟨by decide, by decide⟩ rfl (Nat.le_of_ble_eq_true rfl) ⟨by decide, by decide⟩ (fun r_10 σ_10 q_10 => ?_)
      obtain ⟨qs_10, qr_10⟩ := q_10
      rw [qs_10, qr_10]
      clear qs_10 qr_10
      exact g_xi (by decide) (by decide) (g_ireturn C hr hlk dX10_nearer_95 ⟨i, q, u, v, hb_i, hb_q, hb_u, hb_v, rfl, rfl, rfl, rfl, hnz_i, h3, h4, rfl, rfl⟩)
    · have h4 := c_9
      exact g_throwN X hlk (text := "the tree has not all three") dX10_nearer_70 dX10_nearer_73 dX10_nearer_74 dX10_nearer_76 dX10_nearer_79 (by decide) (by decide +kernel) (by decide +kernel) (by decide +kernel) (by decide +kernel) (by decide +kernel) (by decide) (Nat.le_of_ble_eq_true rfl) (by decide) (by decide) (by decide) (by decide) ⟨rfl, Or.inr (Or.inr ⟨rfl, i, q, u, v, hb_i, hb_q, hb_u, hb_v, rfl, rfl, rfl, rfl, hnz_i, Or.inr h4⟩)⟩
  · have h3 := c_7
    exact g_throwN X hlk (text := "two kinds are one") dX10_nearer_47 dX10_nearer_50 dX10_nearer_51 dX10_nearer_53 dX10_nearer_56 (by decide) (by decide +kernel) (by decide +kernel) (by decide +kernel) (by decide +kernel) (by decide +kernel) (by decide) (Nat.le_of_ble_eq_true rfl) (by decide) (by decide) (by decide) (by decide) ⟨rfl, Or.inr (Or.inr ⟨rfl, i, q, u, v, hb_i, hb_q, hb_u, hb_v, rfl, rfl, rfl, rfl, hnz_i, Or.inl h3⟩)⟩

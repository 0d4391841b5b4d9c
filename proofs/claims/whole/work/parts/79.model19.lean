/-! The reference: textOf, write -/
/-- the children of v -/
noncomputable def kidsL (σ : St) (i v : Nat) : List Nat := ((List.range (mN σ i - (v + 1))).filter (fun u => decide (mP σ i (v + 1 + u) = nI v))).map (fun u => v + 1 + u)
theorem kids_m {σ : St} {i v x : Nat} : x ∈ kidsL σ i v ↔ v < x ∧ x < mN σ i ∧ mP σ i x = nI v := by
  unfold kidsL
  rw [List.mem_map]
  constructor
  · rintro ⟨u, hu, rfl⟩
    rw [List.mem_filter, List.mem_range] at hu
    have := of_decide_eq_true hu.2
    exact ⟨by omega, by omega, this⟩
  · rintro ⟨h1, h2, h3⟩
    refine ⟨x - (v + 1), ?_, by omega⟩
    rw [List.mem_filter, List.mem_range]
    refine ⟨by omega, decide_eq_true ?_⟩
    rw [show v + 1 + (x - (v + 1)) = x by omega]
    exact h3
theorem cntU_f {q : Nat → Prop} {p : Nat → Bool} (hp : ∀ u, p u = true ↔ q u) : ∀ n, cntU q n = ((List.range n).filter p).length
  | 0 => rfl
  | n + 1 => by
    rw [List.range_succ, List.filter_append, List.length_append, ← cntU_f hp n]
    by_cases h : q n
    · rw [cntU_y h]; simp [(hp n).mpr h]
    · rw [cntU_n h]; simp [show p n = false from Bool.eq_false_iff.mpr (fun z => h ((hp n).mp z))]
theorem kids_n {σ : St} {i v : Nat} : (kidsL σ i v).length = mCn σ i v := by
  unfold kidsL
  rw [List.length_map]
  exact (cntU_f (fun u => decide_eq_true_iff) _).symm
theorem kids_d {σ : St} {i v : Nat} : (kidsL σ i v).Nodup := by
  unfold kidsL
  refine List.pairwise_map.mpr ?_
  exact (List.Pairwise.filter _ List.nodup_range).imp (fun h e => h (by omega))
def preT (l : List (List Int32)) : List Int32 := l.foldl (fun a t => a ++ ((if a = [] then nI 40 else nI 44) :: t)) []
theorem preT_s (l : List (List Int32)) (t : List Int32) : preT (l ++ [t]) = preT l ++ ((if preT l = [] then nI 40 else nI 44) :: t) := by
  unfold preT
  rw [List.foldl_append]
  rfl
/-- the text of a node by those of its children -/
def txE (σ : St) (i : Nat) (T : Nat → List Int32) (v : Nat) (L : List Int32) : Prop := (¬ mK σ i v < 0 ∧ L = [nI 97 + mK σ i v]) ∨ (mK σ i v < 0 ∧ ∃ os : List Nat, os.Perm (kidsL σ i v) ∧ os.Pairwise (fun a b => ¬ ltL (T b) (T a)) ∧ L = preT (os.map T) ++ [nI 41])
theorem preT_n {l : List (List Int32)} (h : ¬ l = []) : ¬ preT l = [] := by
  rcases List.eq_nil_or_concat l with e | ⟨a, b, e⟩
  · exact absurd e h
  · rw [e, List.concat_eq_append, preT_s]
    intro q
    exact absurd (congrArg List.length q) (by simp)
theorem preT_l : ∀ (l : List (List Int32)), (preT l).length = (l.map (fun t => t.length + 1)).sum := by
  intro l
  have key : ∀ (l : List (List Int32)) (a : List Int32), (l.foldl (fun a t => a ++ ((if a = [] then nI 40 else nI 44) :: t)) a).length = a.length + (l.map (fun t => t.length + 1)).sum := by
    intro l
    induction l with
    | nil => intro a; simp
    | cons t l ih => intro a; rw [List.foldl_cons, ih]; simp; omega
  have := key l []
  simp at this
  simpa [preT] using this
set_option maxRecDepth 100000 in
set_option maxHeartbeats 4000000 in
theorem m19_told {p : Program} {l : Launch} {e : Env} {s : State} {m : MethodId} {args : Array Value} {below : List Frame} {meth : Method} {c : Code} {Q : State → Prop} {w : Wd} {A : Nat → Prop} (C : Cx p s m args c w A cX11_textOf RX11 7 wsX11_textOf) (σ : St) (hM : ∀ i, i < 8 → mtOk σ i) (i v : Nat) (hb_i : i < 8) (hv : v < mN σ i) (tx sz td0 : Nat → Int32) (kont : ∀ td : Nat → Int32, (∀ x, v < x → x < mN σ i → (td x = 0 ↔ mP σ i x = nI v)) → G p l e (rmL 2) s m args below meth c Q w A 7 (sI (sI (sI σ (16) (tx)) (17) (sz)) (18) (td)) 0 0 87 [(0, .ref (w.1 (0))), (1, .int (nI (i))), (2, .int (nI (v)))] []) : G p l e (rmL 2) s m args below meth c Q w A 7 (sI (sI (sI σ (16) (tx)) (17) (sz)) (18) (td0)) 0 0 45 [(3, .int (nI (v + 1))), (0, .ref (w.1 (0))), (1, .int (nI (i))), (2, .int (nI (v)))] [] := by
  have hin_11 : ∀ u ∈ wsX110, u ∈ wsX11_textOf := by decide +kernel
  have hl_17 : Cond.fieldLink RX11 17 "LineageBenchModel" "many" "[I" ∈ wsX11_textOf := by decide +kernel
  have hl_21 : Cond.fieldLink RX11 21 "LineageBenchModel" "parent" "[I" ∈ wsX11_textOf := by decide +kernel
  have hl_69 : Cond.fieldLink RX11 69 "LineageBenchModel" "told" "[Z" ∈ wsX11_textOf := by decide +kernel
  have h47 := (hM i hb_i).2.1
  refine g_lp2 (α := Nat) (β := Nat → Int32) (fun u td => u ≤ mN σ i - (v + 1) ∧ ∀ x, v < x → x < v + 1 + u → (td x = 0 ↔ mP σ i x = nI v)) (fun u td => mN σ i - u) (fun u td => G p l e _ s m args below meth c _ w A _ (sI (sI (sI σ (16) (tx)) (17) (sz)) (18) (td)) 0 0 45 [(3, .int (nI (v + 1 + u))), (0, .ref (w.1 (0))), (1, .int (nI (i))), (2, .int (nI (v)))] []) (fun u td hI ih0 => ?_) (0) (td0) ⟨Nat.zero_le _, fun x h1 h2 => absurd h2 (by omega)⟩
  obtain ⟨hu, hq⟩ := hI
  refine g_iload_n (pc9 := 46) C rfl 0 dX11_textOf_45 rfl rfl ?_
  refine g_aload_n (pc9 := 47) C rfl 1 dX11_textOf_46 rfl rfl ?_
  refine g_get (v := .ref (w.1 (2))) (pc9 := 50) C rfl (0) 5 dX11_textOf_47 (by decide) (ce_0 w (sI (sI (sI σ (16) (tx)) (17) (sz)) (18) (td))) hin_11 hl_17 rfl (by decide) rfl rfl ?_
  refine g_iload_n (pc9 := 51) C rfl 2 dX11_textOf_50 rfl rfl ?_
  refine g_iald (x := nI (mN σ (i))) (pc9 := 52) C rfl (2) (i) dX11_textOf_51 (by decide) (ce_2 w (sI (sI (sI σ (16) (tx)) (17) (sz)) (18) (td))) rfl (by omega) (by decide) ((congrFun (((iA_n (by decide)).trans (iA_n (by decide))).trans (iA_n (by decide))) _).trans (hM i hb_i).1) ?_
  refine g_icmp_ge (pc9 := 55) C rfl 87 dX11_textOf_52 rfl (fun c_1 => ?_) (fun c_1 => ?_)
  · replace c_1 := (nI_leI (by omega) (by omega)).mp c_1
    refine g_sub [1, 2, 3] [(0, .ref (w.1 (0))), (1, .int (nI (i))), (2, .int (nI (v)))] rfl ?_
    exact kont td (fun x h1 h2 => hq x h1 (by omega))
  · replace c_1 := (not_congr (nI_leI (by omega) (by omega))).mp c_1
    refine g_aload_n (pc9 := 56) C rfl 1 dX11_textOf_55 rfl rfl ?_
    refine g_get (v := .ref (w.1 (18))) (pc9 := 59) C rfl (0) 27 dX11_textOf_56 (by decide) (ce_0 w (sI (sI (sI σ (16) (tx)) (17) (sz)) (18) (td))) hin_11 hl_69 rfl (by decide) rfl rfl ?_
    refine g_iload_n (pc9 := 60) C rfl 0 dX11_textOf_59 rfl rfl ?_
    refine g_aload_n (pc9 := 61) C rfl 1 dX11_textOf_60 rfl rfl ?_
    refine g_get (v := .ref (w.1 (3))) (pc9 := 64) C rfl (0) 6 dX11_textOf_61 (by decide) (ce_0 w (sI (sI (sI σ (16) (tx)) (17) (sz)) (18) (td))) hin_11 hl_21 rfl (by decide) rfl rfl ?_
    refine g_bipush (pc9 := 66) C rfl (nI (47)) dX11_textOf_64 rfl ?_
    refine g_iload_n (pc9 := 67) C rfl 2 dX11_textOf_66 rfl rfl ?_
    refine g_imulN (pc9 := 68) C rfl dX11_textOf_67 ?_
    refine g_iload_n (pc9 := 69) C rfl 0 dX11_textOf_68 rfl rfl ?_
    refine g_iaddN (pc9 := 70) C rfl dX11_textOf_69 ?_
    refine g_iald (x := (iA σ (3)) ((47 * i) + (v + 1 + u))) (pc9 := 71) C rfl (3) ((47 * i) + (v + 1 + u)) dX11_textOf_70 (by decide) (ce_3 w (sI (sI (sI σ (16) (tx)) (17) (sz)) (18) (td))) rfl (by omega) (by decide) (congrFun (((iA_n (by decide)).trans (iA_n (by decide))).trans (iA_n (by decide))) _) ?_
    refine g_iload_n (pc9 := 72) C rfl 3 dX11_textOf_71 rfl rfl ?_
    refine g_icmp_eq (pc9 := 75) C rfl 79 dX11_textOf_72 rfl (fun c_2 => ?_) (fun c_2 => ?_)
    · have hc : mP σ i (v + 1 + u) = nI v := c_2
      refine g_iconst (pc9 := 80) C rfl (nI (0)) dX11_textOf_79 rfl ?_
      refine g_zast (pc9 := 81) C rfl (18) (v + 1 + u) (td) dX11_textOf_80 (by decide) (fun _ => rfl) (ce_18 w (sI (sI (sI σ (16) (tx)) (17) (sz)) (18) (td))) rfl (by omega) (by decide) (iA_s) ?_
      rw [sI_sI (a := 18)]
      refine g_iinc (pc9 := 84) C rfl [(3, .int (nI (v + 1 + u + 1))), (0, .ref (w.1 (0))), (1, .int (nI (i))), (2, .int (nI (v)))] 0 (nI (v + 1 + u + 1)) dX11_textOf_81 rfl (nI_1 (v + 1 + u)) (by decide) rfl ?_
      refine g_goto C 45 dX11_textOf_84 rfl ?_
      refine g_sub [0, 1, 2, 3] [(3, .int (nI (v + 1 + u + 1))), (0, .ref (w.1 (0))), (1, .int (nI (i))), (2, .int (nI (v)))] rfl ?_
      exact ih0 (u + 1) (upd (td) (v + 1 + u) (vp_nar .boolean (nI (0)))) ⟨by omega, fun x h1 h2 => by by_cases e : x = v + 1 + u; (rw [e, pk_us]; first | exact ⟨fun _ => hc, fun _ => by decide⟩ | exact ⟨fun q => absurd q (by decide), fun q => absurd q hc⟩); rw [pk_un e]; exact hq x h1 (by omega)⟩ (by omega)
    · have hc : ¬ mP σ i (v + 1 + u) = nI v := c_2
      refine g_iconst (pc9 := 76) C rfl (nI (1)) dX11_textOf_75 rfl ?_
      refine g_goto C 80 dX11_textOf_76 rfl ?_
      refine g_zast (pc9 := 81) C rfl (18) (v + 1 + u) (td) dX11_textOf_80 (by decide) (fun _ => rfl) (ce_18 w (sI (sI (sI σ (16) (tx)) (17) (sz)) (18) (td))) rfl (by omega) (by decide) (iA_s) ?_
      rw [sI_sI (a := 18)]
      refine g_iinc (pc9 := 84) C rfl [(3, .int (nI (v + 1 + u + 1))), (0, .ref (w.1 (0))), (1, .int (nI (i))), (2, .int (nI (v)))] 0 (nI (v + 1 + u + 1)) dX11_textOf_81 rfl (nI_1 (v + 1 + u)) (by decide) rfl ?_
      refine g_goto C 45 dX11_textOf_84 rfl ?_
      refine g_sub [0, 1, 2, 3] [(3, .int (nI (v + 1 + u + 1))), (0, .ref (w.1 (0))), (1, .int (nI (i))), (2, .int (nI (v)))] rfl ?_
      exact ih0 (u + 1) (upd (td) (v + 1 + u) (vp_nar .boolean (nI (1)))) ⟨by omega, fun x h1 h2 => by by_cases e : x = v + 1 + u; (rw [e, pk_us]; first | exact ⟨fun _ => hc, fun _ => by decide⟩ | exact ⟨fun q => absurd q (by decide), fun q => absurd q hc⟩); rw [pk_un e]; exact hq x h1 (by omega)⟩ (by omega)
theorem ltL_i : ∀ (a : List Int32), ¬ ltL a a
  | [] => id
  | x :: xs => fun h => h.elim (fun q => Int32.lt_irrefl q) (fun q => ltL_i xs q.2)
set_option maxRecDepth 100000 in
set_option maxHeartbeats 4000000 in
theorem m19_choose {p : Program} {l : Launch} {e : Env} {s : State} {m : MethodId} {args : Array Value} {below : List Frame} {meth : Method} {c : Code} {Q : State → Prop} {w : Wd} {A : Nat → Prop} (C : Cx p s m args c w A cX11_textOf RX11 7 wsX11_textOf) (σ : St) (hM : ∀ i, i < 8 → mtOk σ i) (i v : Nat) (hb_i : i < 8) (hv : v < mN σ i) (f9 : Int32) (l9 : Nat) (T : Nat → List Int32) (tx sz td : Nat → Int32) (hR : ∀ x, v < x → x < mN σ i → rp tx sz x (T x) ∧ (T x).length ≤ 98) (rs : List Nat) (htd : ∀ x, v < x → x < mN σ i → (td x = 0 ↔ x ∈ rs)) (hrs : ∀ x, x ∈ rs → v < x ∧ x < mN σ i) (hne : ¬ rs = []) (kont : ∀ b, b ∈ rs → (∀ y, y ∈ rs → ¬ ltL (T y) (T b)) → G p l e (rmL 2) s m args below meth c Q w A 7 (sI (sI (sI σ (16) (tx)) (17) (sz)) (18) (td)) 0 0 156 [(5, .int (nI (b))), (4, .int (f9)), (3, .int (nI (l9))), (0, .ref (w.1 (0))), (1, .int (nI (i))), (2, .int (nI (v)))] []) : G p l e (rmL 2) s m args below meth c Q w A 7 (sI (sI (sI σ (16) (tx)) (17) (sz)) (18) (td)) 0 0 109 [(6, .int (nI (v + 1))), (5, .int (-1)), (4, .int (f9)), (3, .int (nI (l9))), (0, .ref (w.1 (0))), (1, .int (nI (i))), (2, .int (nI (v)))] [] := by
  have hin_11 : ∀ u ∈ wsX110, u ∈ wsX11_textOf := by decide +kernel
  have hl_17 : Cond.fieldLink RX11 17 "LineageBenchModel" "many" "[I" ∈ wsX11_textOf := by decide +kernel
  have hl_69 : Cond.fieldLink RX11 69 "LineageBenchModel" "told" "[Z" ∈ wsX11_textOf := by decide +kernel
  have h47 := (hM i hb_i).2.1
  refine g_lp2 (α := Nat) (β := Int32) (fun u z => u ≤ mN σ i - (v + 1) ∧ ((z = -1 ∧ ∀ y, y ∈ rs → ¬ y < v + 1 + u) ∨ (∃ b, z = nI b ∧ b ∈ rs ∧ b < v + 1 + u ∧ ∀ y, y ∈ rs → y < v + 1 + u → ¬ ltL (T y) (T b)))) (fun u z => mN σ i - u) (fun u z => G p l e _ s m args below meth c _ w A _ (sI (sI (sI σ (16) (tx)) (17) (sz)) (18) (td)) 0 0 109 [(6, .int (nI (v + 1 + u))), (5, .int (z)), (4, .int (f9)), (3, .int (nI (l9))), (0, .ref (w.1 (0))), (1, .int (nI (i))), (2, .int (nI (v)))] []) (fun u z hI ih0 => ?_) (0) (-1) ⟨Nat.zero_le _, Or.inl ⟨rfl, fun y hy h => by have := (hrs y hy).1; omega⟩⟩
  obtain ⟨hu, hq⟩ := hI
  rcases hq with ⟨hz, hq⟩ | ⟨b, hz, hb1, hb2, hq⟩
  · subst hz
    refine g_iload (pc9 := 111) C rfl 0 dX11_textOf_109 rfl ?_
    refine g_aload_n (pc9 := 112) C rfl 4 dX11_textOf_111 rfl rfl ?_
    refine g_get (v := .ref (w.1 (2))) (pc9 := 115) C rfl (0) 5 dX11_textOf_112 (by decide) (ce_0 w (sI (sI (sI σ (16) (tx)) (17) (sz)) (18) (td))) hin_11 hl_17 rfl (by decide) rfl rfl ?_
    refine g_iload_n (pc9 := 116) C rfl 5 dX11_textOf_115 rfl rfl ?_
    refine g_iald (x := nI (mN σ (i))) (pc9 := 117) C rfl (2) (i) dX11_textOf_116 (by decide) (ce_2 w (sI (sI (sI σ (16) (tx)) (17) (sz)) (18) (td))) rfl (by omega) (by decide) ((congrFun (((iA_n (by decide)).trans (iA_n (by decide))).trans (iA_n (by decide))) _).trans (hM i hb_i).1) ?_
    refine g_icmp_ge (pc9 := 120) C rfl 156 dX11_textOf_117 rfl (fun c_1 => ?_) (fun c_1 => ?_)
    · replace c_1 := (nI_leI (by omega) (by omega)).mp c_1
      exact absurd (List.eq_nil_iff_forall_not_mem.mpr (fun y hy => hq y hy (by have := (hrs y hy).2; omega))) hne
    · replace c_1 := (not_congr (nI_leI (by omega) (by omega))).mp c_1
      refine g_aload_n (pc9 := 121) C rfl 4 dX11_textOf_120 rfl rfl ?_
      refine g_get (v := .ref (w.1 (18))) (pc9 := 124) C rfl (0) 27 dX11_textOf_121 (by decide) (ce_0 w (sI (sI (sI σ (16) (tx)) (17) (sz)) (18) (td))) hin_11 hl_69 rfl (by decide) rfl rfl ?_
      refine g_iload (pc9 := 126) C rfl 0 dX11_textOf_124 rfl ?_
      refine g_zald (x := td (v + 1 + u)) (pc9 := 127) C rfl (18) (v + 1 + u) dX11_textOf_126 (by decide) (ce_18 w (sI (sI (sI σ (16) (tx)) (17) (sz)) (18) (td))) rfl (by omega) (by decide) (congrFun (iA_s) _) ?_
      refine g_if_ne (pc9 := 130) C rfl 150 dX11_textOf_127 rfl (fun c_2 => ?_) (fun c_2 => ?_)
      · have hno : ¬ v + 1 + u ∈ rs := fun h => c_2 ((htd (v + 1 + u) (by omega) (by omega)).mpr h)
        refine g_iinc (pc9 := 153) C rfl [(6, .int (nI (v + 1 + u + 1))), (5, .int (-1)), (4, .int (f9)), (3, .int (nI (l9))), (0, .ref (w.1 (0))), (1, .int (nI (i))), (2, .int (nI (v)))] 0 (nI (v + 1 + u + 1)) dX11_textOf_150 rfl (nI_1 (v + 1 + u)) (by decide) rfl ?_
        refine g_goto C 109 dX11_textOf_153 rfl ?_
        refine g_sub [0, 1, 2, 3, 4, 5, 6] [(6, .int (nI (v + 1 + u + 1))), (5, .int (-1)), (4, .int (f9)), (3, .int (nI (l9))), (0, .ref (w.1 (0))), (1, .int (nI (i))), (2, .int (nI (v)))] rfl ?_
        exact ih0 (u + 1) (-1) ⟨by omega, Or.inl ⟨rfl, fun y hy h => by by_cases e : y = v + 1 + u; (rw [e] at hy; exact hno hy); exact hq y hy (by omega)⟩⟩ (by omega)
      · have hyes : v + 1 + u ∈ rs := (htd (v + 1 + u) (by omega) (by omega)).mp c_2
        refine g_iload (pc9 := 132) C rfl 1 dX11_textOf_130 rfl ?_
        refine g_if_lt (pc9 := 135) C rfl 146 dX11_textOf_132 rfl (fun c_3 => ?_) (fun c_3 => ?_)
        · refine g_iload (pc9 := 148) C rfl 0 dX11_textOf_146 rfl ?_
          refine g_istore (pc9 := 150) C rfl [(5, .int (nI (v + 1 + u))), (6, .int (nI (v + 1 + u))), (4, .int (f9)), (3, .int (nI (l9))), (0, .ref (w.1 (0))), (1, .int (nI (i))), (2, .int (nI (v)))] dX11_textOf_148 (by decide) rfl ?_
          refine g_iinc (pc9 := 153) C rfl [(6, .int (nI (v + 1 + u + 1))), (5, .int (nI (v + 1 + u))), (4, .int (f9)), (3, .int (nI (l9))), (0, .ref (w.1 (0))), (1, .int (nI (i))), (2, .int (nI (v)))] 1 (nI (v + 1 + u + 1)) dX11_textOf_150 rfl (nI_1 (v + 1 + u)) (by decide) rfl ?_
          refine g_goto C 109 dX11_textOf_153 rfl ?_
          refine g_sub [0, 1, 2, 3, 4, 5, 6] [(6, .int (nI (v + 1 + u + 1))), (5, .int (nI (v + 1 + u))), (4, .int (f9)), (3, .int (nI (l9))), (0, .ref (w.1 (0))), (1, .int (nI (i))), (2, .int (nI (v)))] rfl ?_
          exact ih0 (u + 1) (nI (v + 1 + u)) ⟨by omega, Or.inr ⟨v + 1 + u, rfl, hyes, by omega, fun y hy h => by by_cases e : y = v + 1 + u; (rw [e]; exact ltL_i _); exact absurd (by omega) (hq y hy)⟩⟩ (by omega)
        · exact absurd (by decide) c_3
  · subst hz
    have hbn := hrs b hb1
    refine g_iload (pc9 := 111) C rfl 0 dX11_textOf_109 rfl ?_
    refine g_aload_n (pc9 := 112) C rfl 4 dX11_textOf_111 rfl rfl ?_
    refine g_get (v := .ref (w.1 (2))) (pc9 := 115) C rfl (0) 5 dX11_textOf_112 (by decide) (ce_0 w (sI (sI (sI σ (16) (tx)) (17) (sz)) (18) (td))) hin_11 hl_17 rfl (by decide) rfl rfl ?_
    refine g_iload_n (pc9 := 116) C rfl 5 dX11_textOf_115 rfl rfl ?_
    refine g_iald (x := nI (mN σ (i))) (pc9 := 117) C rfl (2) (i) dX11_textOf_116 (by decide) (ce_2 w (sI (sI (sI σ (16) (tx)) (17) (sz)) (18) (td))) rfl (by omega) (by decide) ((congrFun (((iA_n (by decide)).trans (iA_n (by decide))).trans (iA_n (by decide))) _).trans (hM i hb_i).1) ?_
    refine g_icmp_ge (pc9 := 120) C rfl 156 dX11_textOf_117 rfl (fun c_4 => ?_) (fun c_4 => ?_)
    · replace c_4 := (nI_leI (by omega) (by omega)).mp c_4
      refine g_sub [1, 2, 3, 4, 5, 6] [(5, .int (nI (b))), (4, .int (f9)), (3, .int (nI (l9))), (0, .ref (w.1 (0))), (1, .int (nI (i))), (2, .int (nI (v)))] rfl ?_
      exact kont b hb1 (fun y hy => hq y hy (by have := (hrs y hy).2; omega))
    · replace c_4 := (not_congr (nI_leI (by omega) (by omega))).mp c_4
      refine g_aload_n (pc9 := 121) C rfl 4 dX11_textOf_120 rfl rfl ?_
      refine g_get (v := .ref (w.1 (18))) (pc9 := 124) C rfl (0) 27 dX11_textOf_121 (by decide) (ce_0 w (sI (sI (sI σ (16) (tx)) (17) (sz)) (18) (td))) hin_11 hl_69 rfl (by decide) rfl rfl ?_
      refine g_iload (pc9 := 126) C rfl 0 dX11_textOf_124 rfl ?_
      refine g_zald (x := td (v + 1 + u)) (pc9 := 127) C rfl (18) (v + 1 + u) dX11_textOf_126 (by decide) (ce_18 w (sI (sI (sI σ (16) (tx)) (17) (sz)) (18) (td))) rfl (by omega) (by decide) (congrFun (iA_s) _) ?_
      refine g_if_ne (pc9 := 130) C rfl 150 dX11_textOf_127 rfl (fun c_5 => ?_) (fun c_5 => ?_)
      · have hno : ¬ v + 1 + u ∈ rs := fun h => c_5 ((htd (v + 1 + u) (by omega) (by omega)).mpr h)
        refine g_iinc (pc9 := 153) C rfl [(6, .int (nI (v + 1 + u + 1))), (5, .int (nI (b))), (4, .int (f9)), (3, .int (nI (l9))), (0, .ref (w.1 (0))), (1, .int (nI (i))), (2, .int (nI (v)))] 0 (nI (v + 1 + u + 1)) dX11_textOf_150 rfl (nI_1 (v + 1 + u)) (by decide) rfl ?_
        refine g_goto C 109 dX11_textOf_153 rfl ?_
        refine g_sub [0, 1, 2, 3, 4, 5, 6] [(6, .int (nI (v + 1 + u + 1))), (5, .int (nI (b))), (4, .int (f9)), (3, .int (nI (l9))), (0, .ref (w.1 (0))), (1, .int (nI (i))), (2, .int (nI (v)))] rfl ?_
        exact ih0 (u + 1) (nI b) ⟨by omega, Or.inr ⟨b, rfl, hb1, by omega, fun y hy h => by by_cases e : y = v + 1 + u; (subst e; first | exact absurd hy hno | exact hl); exact hq y hy (by omega)⟩⟩ (by omega)
      · have hyes : v + 1 + u ∈ rs := (htd (v + 1 + u) (by omega) (by omega)).mp c_5
        refine g_iload (pc9 := 132) C rfl 1 dX11_textOf_130 rfl ?_
        refine g_if_lt (pc9 := 135) C rfl 146 dX11_textOf_132 rfl (fun c_6 => ?_) (fun c_6 => ?_)
        · replace c_6 := (z_lt (by omega)).mp c_6
          exact absurd c_6 (by simp)
        · replace c_6 := (not_congr (z_lt (by omega))).mp c_6
          refine g_aload_n (pc9 := 136) C rfl 4 dX11_textOf_135 rfl rfl ?_
          refine g_iload (pc9 := 138) C rfl 0 dX11_textOf_136 rfl ?_
          refine g_iload (pc9 := 140) C rfl 1 dX11_textOf_138 rfl ?_
          refine g_callVi (nn := 2) (rest := []) (pc9 := 143) C rfl (0) [.int (nI (v + 1 + u)), .int (nI (b))] rfl dX11_textOf_140 (m_X11_isLess l w (sI (sI (sI σ (16) (tx)) (17) (sz)) (18) (td)) (v + 1 + u) b (by omega) (by omega) (T (v + 1 + u)) (T b) (hR (v + 1 + u) (by omega) (by omega)).1 (hR b hbn.1 hbn.2).1 (by have := (hR (v + 1 + u) (by omega) (by omega)).2; omega) (by have := (hR b hbn.1 hbn.2).2; omega)) gX11_textOf_X11_isLess (by decide) (ce_0 w (sI (sI (sI σ (16) (tx)) (17) (sz)) (18) (td))) rfl rfl rfl rfl rfl (by decide +kernel) ⟨by decide, by decide⟩ rfl (Nat.le_of_ble_eq_true rfl) ⟨by decide, by decide⟩ (fun r_7 σ_7 q_7 => ?_)
          obtain ⟨qs_7, qr_7⟩ := q_7
          replace qr_7 : r_7 = pI (ltL (T (v + 1 + u)) (T b)) := qr_7
          rw [qs_7, qr_7]
          clear qs_7 qr_7
          refine g_if_eq (pc9 := 146) C rfl 150 dX11_textOf_143 rfl (fun c_8 => ?_) (fun c_8 => ?_)
          · have hl : ¬ ltL (T (v + 1 + u)) (T b) := pI_no c_8
            refine g_iinc (pc9 := 153) C rfl [(6, .int (nI (v + 1 + u + 1))), (5, .int (nI (b))), (4, .int (f9)), (3, .int (nI (l9))), (0, .ref (w.1 (0))), (1, .int (nI (i))), (2, .int (nI (v)))] 0 (nI (v + 1 + u + 1)) dX11_textOf_150 rfl (nI_1 (v + 1 + u)) (by decide) rfl ?_
            refine g_goto C 109 dX11_textOf_153 rfl ?_
            refine g_sub [0, 1, 2, 3, 4, 5, 6] [(6, .int (nI (v + 1 + u + 1))), (5, .int (nI (b))), (4, .int (f9)), (3, .int (nI (l9))), (0, .ref (w.1 (0))), (1, .int (nI (i))), (2, .int (nI (v)))] rfl ?_
            exact ih0 (u + 1) (nI b) ⟨by omega, Or.inr ⟨b, rfl, hb1, by omega, fun y hy h => by by_cases e : y = v + 1 + u; (subst e; first | exact absurd hy hno | exact hl); exact hq y hy (by omega)⟩⟩ (by omega)
          · have hl : ltL (T (v + 1 + u)) (T b) := pI_ye c_8
            refine g_iload (pc9 := 148) C rfl 0 dX11_textOf_146 rfl ?_
            refine g_istore (pc9 := 150) C rfl [(5, .int (nI (v + 1 + u))), (6, .int (nI (v + 1 + u))), (4, .int (f9)), (3, .int (nI (l9))), (0, .ref (w.1 (0))), (1, .int (nI (i))), (2, .int (nI (v)))] dX11_textOf_148 (by decide) rfl ?_
            refine g_iinc (pc9 := 153) C rfl [(6, .int (nI (v + 1 + u + 1))), (5, .int (nI (v + 1 + u))), (4, .int (f9)), (3, .int (nI (l9))), (0, .ref (w.1 (0))), (1, .int (nI (i))), (2, .int (nI (v)))] 1 (nI (v + 1 + u + 1)) dX11_textOf_150 rfl (nI_1 (v + 1 + u)) (by decide) rfl ?_
            refine g_goto C 109 dX11_textOf_153 rfl ?_
            refine g_sub [0, 1, 2, 3, 4, 5, 6] [(6, .int (nI (v + 1 + u + 1))), (5, .int (nI (v + 1 + u))), (4, .int (f9)), (3, .int (nI (l9))), (0, .ref (w.1 (0))), (1, .int (nI (i))), (2, .int (nI (v)))] rfl ?_
            exact ih0 (u + 1) (nI (v + 1 + u)) ⟨by omega, Or.inr ⟨v + 1 + u, rfl, hyes, by omega, fun y hy h => by by_cases e : y = v + 1 + u; (rw [e]; exact ltL_i _); exact fun q => hq y hy (by omega) (ltL_t _ _ _ q hl)⟩⟩ (by omega)
theorem gd_m {L : List Int32} {k : Nat} (h : k < L.length) : L.getD k 0 ∈ L := by
  rw [List.getD_eq_getElem?_getD, List.getElem?_eq_getElem h]
  exact List.getElem_mem h
theorem tk_s {L : List Int32} {k : Nat} (h : k < L.length) : L.take (k + 1) = L.take k ++ [L.getD k 0] := by
  rw [List.getD_eq_getElem?_getD, List.getElem?_eq_getElem h, List.take_succ, List.getElem?_eq_getElem h]
  rfl
set_option maxRecDepth 100000 in
set_option maxHeartbeats 4000000 in
theorem m19_copy {p : Program} {l : Launch} {e : Env} {s : State} {m : MethodId} {args : Array Value} {below : List Frame} {meth : Method} {c : Code} {Q : State → Prop} {w : Wd} {A : Nat → Prop} (C : Cx p s m args c w A cX11_textOf RX11 7 wsX11_textOf) (σ : St) (hM : ∀ i, i < 8 → mtOk σ i) (i v : Nat) (hb_i : i < 8) (hv : v < mN σ i) (l9 b : Nat) (hb : v < b) (hbn : b < mN σ i) (T : Nat → List Int32) (tx sz td : Nat → Int32) (hrb0 : rp tx sz b (T b)) (hbk : ∀ x, x ∈ T b → bok x) (L0 : List Int32) (hr0 : rp tx sz v L0) (hln : L0.length + (T b).length ≤ 98) (kont : ∀ tx9 sz9 : Nat → Int32, rp tx9 sz9 v (L0 ++ T b) → smT tx sz tx9 sz9 v → G p l e (rmL 2) s m args below meth c Q w A 7 (sI (sI (sI σ (16) (tx9)) (17) (sz9)) (18) (td)) 0 0 223 [(3, .int (nI (l9))), (4, .int (nI (0))), (0, .ref (w.1 (0))), (1, .int (nI (i))), (2, .int (nI (v)))] []) : G p l e (rmL 2) s m args below meth c Q w A 7 (sI (sI (sI σ (16) (tx)) (17) (sz)) (18) (td)) 0 0 187 [(6, .int (nI (0))), (5, .int (nI (b))), (4, .int (nI (0))), (3, .int (nI (l9))), (0, .ref (w.1 (0))), (1, .int (nI (i))), (2, .int (nI (v)))] [] := by
  have hin_11 : ∀ u ∈ wsX110, u ∈ wsX11_textOf := by decide +kernel
  have hl_63 : Cond.fieldLink RX11 63 "LineageBenchModel" "texts" "[B" ∈ wsX11_textOf := by decide +kernel
  have hl_66 : Cond.fieldLink RX11 66 "LineageBenchModel" "textSize" "[I" ∈ wsX11_textOf := by decide +kernel
  have h47 := (hM i hb_i).2.1
  refine g_lp3 (α := Nat) (β := Nat → Int32) (γ := Nat → Int32) (fun j tx9 sz9 => j ≤ (T b).length ∧ rp tx9 sz9 v (L0 ++ (T b).take j) ∧ smT tx sz tx9 sz9 v) (fun j tx9 sz9 => (T b).length - j) (fun j tx9 sz9 => G p l e _ s m args below meth c _ w A _ (sI (sI (sI σ (16) (tx9)) (17) (sz9)) (18) (td)) 0 0 187 [(6, .int (nI (j))), (5, .int (nI (b))), (4, .int (nI (0))), (3, .int (nI (l9))), (0, .ref (w.1 (0))), (1, .int (nI (i))), (2, .int (nI (v)))] []) (fun j tx9 sz9 hI ih0 => ?_) (0) (tx) (sz) ⟨Nat.zero_le _, by rw [List.take_zero, List.append_nil]; exact hr0, smT_r⟩
  obtain ⟨hj, hr1, hsm⟩ := hI
  have hrb := rp_sm hsm (by omega) (by omega) (by omega) hrb0
  refine g_iload (pc9 := 189) C rfl 0 dX11_textOf_187 rfl ?_
  refine g_aload_n (pc9 := 190) C rfl 4 dX11_textOf_189 rfl rfl ?_
  refine g_get (v := .ref (w.1 (17))) (pc9 := 193) C rfl (0) 26 dX11_textOf_190 (by decide) (ce_0 w (sI (sI (sI σ (16) (tx9)) (17) (sz9)) (18) (td))) hin_11 hl_66 rfl (by decide) rfl rfl ?_
  refine g_iload (pc9 := 195) C rfl 1 dX11_textOf_193 rfl ?_
  refine g_iald (x := nI ((T b).length)) (pc9 := 196) C rfl (17) (b) dX11_textOf_195 (by decide) (ce_17 w (sI (sI (sI σ (16) (tx9)) (17) (sz9)) (18) (td))) rfl (by omega) (by decide) ((congrFun ((iA_n (by decide)).trans (iA_s)) _).trans hrb.1) ?_
  refine g_icmp_ge (pc9 := 199) C rfl 223 dX11_textOf_196 rfl (fun c_1 => ?_) (fun c_1 => ?_)
  · replace c_1 := (nI_leI (by omega) (by omega)).mp c_1
    refine g_sub [3, 2, 4, 5, 6] [(3, .int (nI (l9))), (4, .int (nI (0))), (0, .ref (w.1 (0))), (1, .int (nI (i))), (2, .int (nI (v)))] rfl ?_
    exact kont tx9 sz9 (by rw [show j = (T b).length by omega, List.take_length] at hr1; exact hr1) hsm
  · replace c_1 := (not_congr (nI_leI (by omega) (by omega))).mp c_1
    refine g_aload_n (pc9 := 200) C rfl 4 dX11_textOf_199 rfl rfl ?_
    refine g_iload_n (pc9 := 201) C rfl 6 dX11_textOf_200 rfl rfl ?_
    refine g_aload_n (pc9 := 202) C rfl 4 dX11_textOf_201 rfl rfl ?_
    refine g_get (v := .ref (w.1 (16))) (pc9 := 205) C rfl (0) 25 dX11_textOf_202 (by decide) (ce_0 w (sI (sI (sI σ (16) (tx9)) (17) (sz9)) (18) (td))) hin_11 hl_63 rfl (by decide) rfl rfl ?_
    refine g_bipush (pc9 := 207) C rfl (nI (100)) dX11_textOf_205 rfl ?_
    refine g_iload (pc9 := 209) C rfl 1 dX11_textOf_207 rfl ?_
    refine g_imulN (pc9 := 210) C rfl dX11_textOf_209 ?_
    refine g_iload (pc9 := 212) C rfl 0 dX11_textOf_210 rfl ?_
    refine g_iaddN (pc9 := 213) C rfl dX11_textOf_212 ?_
    refine g_bald (x := (T b).getD j 0) (pc9 := 214) C rfl (16) ((100 * b) + j) dX11_textOf_213 (by decide) (ce_16 w (sI (sI (sI σ (16) (tx9)) (17) (sz9)) (18) (td))) rfl (by omega) (by decide) ((congrFun (((iA_n (by decide)).trans (iA_n (by decide))).trans (iA_s)) _).trans (rp_g hrb (by omega))) ?_
    refine g_callVv (nn := 2) (rest := []) (pc9 := 217) C rfl (0) [.int (nI (v)), .int ((T b).getD j 0)] rfl dX11_textOf_214 (m_X11_puts_ l w (sI (sI (sI σ (16) (tx9)) (17) (sz9)) (18) (td)) v (by omega) (L0 ++ (T b).take j) hr1 (by rw [List.length_append, List.length_take]; omega) ((T b).getD j 0) (hbk _ (gd_m (by omega))).1) gX11_textOf_X11_puts_ (by decide) (ce_0 w (sI (sI (sI σ (16) (tx9)) (17) (sz9)) (18) (td))) rfl rfl rfl rfl rfl (by decide +kernel) ⟨by decide, by decide⟩ rfl (Nat.le_of_ble_eq_true rfl) ⟨by decide, by decide⟩ (fun σ_2 q_2 => ?_)
    obtain ⟨tx8, sz8, qs_2, hr2, hs2⟩ := q_2
    refine g_st (σ9 := sI (sI (sI σ (16) (tx8)) (17) (sz8)) (18) (td)) (qs_2.trans pu_st) ?_
    refine g_iinc (pc9 := 220) C rfl [(6, .int (nI (j + 1))), (5, .int (nI (b))), (4, .int (nI (0))), (3, .int (nI (l9))), (0, .ref (w.1 (0))), (1, .int (nI (i))), (2, .int (nI (v)))] 0 (nI (j + 1)) dX11_textOf_217 rfl (nI_1 (j)) (by decide) rfl ?_
    refine g_goto C 187 dX11_textOf_220 rfl ?_
    refine g_sub [0, 1, 2, 3, 4, 5, 6] [(6, .int (nI (j + 1))), (5, .int (nI (b))), (4, .int (nI (0))), (3, .int (nI (l9))), (0, .ref (w.1 (0))), (1, .int (nI (i))), (2, .int (nI (v)))] rfl ?_
    exact ih0 (j + 1) tx8 sz8 ⟨by omega, by rw [tk_s (by omega), ← List.append_assoc]; exact hr2, smT_t hsm hs2⟩ (by omega)
def fst9 (os : List Nat) : Int32 := if os = [] then nI 1 else nI 0
theorem fst9_n {os : List Nat} {b : Nat} : fst9 (os ++ [b]) = nI 0 := if_neg (fun h => absurd (congrArg List.length h) (by simp))
theorem bok_k {q : Nat} (h : q < 12) : bok (nI 97 + nI q) := by
  have : ∀ q : Fin 12, bok (nI 97 + nI q.val) := by decide +kernel
  exact this ⟨q, h⟩
theorem txP {os rs : List Nat} {b : Nat} (h : b ∈ rs) : ((os ++ [b]) ++ rs.erase b).Perm (os ++ rs) := by
  rw [List.append_assoc]
  exact List.Perm.append_left os (List.perm_cons_erase h).symm
theorem txN {σ : St} {i v : Nat} {os rs : List Nat} (h : (os ++ rs).Perm (kidsL σ i v)) : rs.Nodup := (List.nodup_append.mp (h.nodup_iff.mpr kids_d)).2.1
theorem txW {T : Nat → List Int32} {os : List Nat} {b : Nat} (h : os.Pairwise (fun a b => ¬ ltL (T b) (T a))) (h2 : ∀ a, a ∈ os → ¬ ltL (T b) (T a)) : (os ++ [b]).Pairwise (fun a b => ¬ ltL (T b) (T a)) := by
  rw [List.pairwise_append]
  refine ⟨h, List.pairwise_singleton _ _, fun a ha y hy => ?_⟩
  rw [List.mem_singleton] at hy
  rw [hy]
  exact h2 a ha
theorem txM {T : Nat → List Int32} {os rs : List Nat} {b : Nat} (h : ∀ a, a ∈ os → ∀ y, y ∈ rs → ¬ ltL (T y) (T a)) (h2 : ∀ y, y ∈ rs → ¬ ltL (T y) (T b)) : ∀ a, a ∈ os ++ [b] → ∀ y, y ∈ rs.erase b → ¬ ltL (T y) (T a) := by
  intro a ha y hy
  have hy2 := List.mem_of_mem_erase hy
  rw [List.mem_append, List.mem_singleton] at ha
  rcases ha with ha | ha
  · exact h a ha y hy2
  · rw [ha]; exact h2 y hy2
theorem txD {σ : St} {i v : Nat} {td : Nat → Int32} {rs : List Nat} {b : Nat} {x9 : Int32} (h : ∀ x, v < x → x < mN σ i → (td x = 0 ↔ x ∈ rs)) (hn : rs.Nodup) (hx : ¬ x9 = 0) : ∀ x, v < x → x < mN σ i → (upd td b x9 x = 0 ↔ x ∈ rs.erase b) := by
  intro x h1 h2
  rw [hn.mem_erase_iff]
  by_cases e : x = b
  · rw [e, pk_us]
    exact ⟨fun q => absurd q hx, fun q => absurd rfl q.1⟩
  · rw [pk_un e, h x h1 h2]
    exact ⟨fun q => ⟨e, q⟩, fun q => q.2⟩
theorem txS {σ : St} {i v M : Nat} {T : Nat → List Int32} {os rs : List Nat} (h : (os ++ rs).Perm (kidsL σ i v)) (hl : ((kidsL σ i v).map (fun u => (T u).length + 1)).sum + 1 ≤ M) : (preT (os.map T)).length + 1 ≤ M := by
  rw [preT_l, List.map_map]
  have h1 := (h.map (fun u => (T u).length + 1)).sum_nat
  rw [List.map_append, List.sum_append_nat] at h1
  have : (os.map ((fun t => t.length + 1) ∘ T)).sum = (os.map (fun u => (T u).length + 1)).sum := rfl
  omega
theorem txB {σ : St} {i v M b : Nat} {T : Nat → List Int32} {os rs : List Nat} (h : (os ++ rs).Perm (kidsL σ i v)) (hl : ((kidsL σ i v).map (fun u => (T u).length + 1)).sum + 1 ≤ M) (hb : b ∈ rs) : (preT (os.map T)).length + (T b).length + 1 + 1 ≤ M := by
  have h2 := txS (T := T) (M := M) ((txP hb).trans h) hl
  rw [List.map_append, List.map_cons, List.map_nil, preT_s] at h2
  simp at h2
  omega
set_option maxRecDepth 100000 in
set_option maxHeartbeats 4000000 in
theorem m_X11_textOf (l : Launch) (w : Wd) (σ : St) (hM : ∀ i, i < 8 → mtOk σ i) (i v : Nat) (hb_i : i < 8) (hv : v < mN σ i) (T : Nat → List Int32) (hR : ∀ x, v < x → x < mN σ i → rp (iA σ 16) (iA σ 17) x (T x) ∧ (T x).length ≤ 98) (hbk : ∀ x, v < x → x < mN σ i → ∀ y, y ∈ T x → bok y) (hlen0 : mK σ i v < 0 → ((kidsL σ i v).map (fun u => (T u).length + 1)).sum + 1 ≤ 98) : MV l yX11_textOf wsX11_textOf (rmL 2) w [.ref (w.1 (0)), .int (nI (i)), .int (nI (v))] (σ) (fun σ9 => ∃ (L : List Int32) (tx sz td : Nat → Int32), σ9 = sI (sI (sI σ 16 tx) 17 sz) 18 td ∧ rp tx sz v L ∧ smT (iA σ 16) (iA σ 17) tx sz v ∧ L.length ≤ 98 ∧ txE σ i T v L) := by
  refine MV_of (cc := cX11_textOf) (maxL := 7) (by decide) rfl (Nat.le_of_ble_eq_true rfl) ?_
  intro p e s m args below meth c A C hr hlk
  have C : Cx p s m args c w A cX11_textOf RX11 7 wsX11_textOf := C
  have hin_11 : ∀ u ∈ wsX110, u ∈ wsX11_textOf := by decide +kernel
  have hl_24 : Cond.fieldLink RX11 24 "LineageBenchModel" "kind" "[I" ∈ wsX11_textOf := by decide +kernel
  have hl_66 : Cond.fieldLink RX11 66 "LineageBenchModel" "textSize" "[I" ∈ wsX11_textOf := by decide +kernel
  have hl_69 : Cond.fieldLink RX11 69 "LineageBenchModel" "told" "[Z" ∈ wsX11_textOf := by decide +kernel
  have h47 := (hM i hb_i).2.1
  have hKi := (hM i hb_i).2.2.2.2 v hv
  refine g_st (σ9 := sI (sI (sI σ (16) (iA σ 16)) (17) (iA σ 17)) (18) (iA σ 18)) (by rw [show sI σ 16 (iA σ 16) = σ from sI_self, show sI σ 17 (iA σ 17) = σ from sI_self]; exact (show sI σ 18 (iA σ 18) = σ from sI_self).symm) ?_
  have hr00 : rp (iA σ 16) (upd (iA σ 17) v (nI 0)) v [] := ⟨pk_us, fun k hk => absurd hk (by simp)⟩
  have hs00 : smT (iA σ 16) (iA σ 17) (iA σ 16) (upd (iA σ 17) v (nI 0)) v := fun u _ h => ⟨pk_un h, fun _ _ => rfl⟩
  refine g_aload_n (pc9 := 1) C rfl 0 dX11_textOf_0 rfl rfl ?_
  refine g_get (v := .ref (w.1 (17))) (pc9 := 4) C rfl (0) 26 dX11_textOf_1 (by decide) (ce_0 w (sI (sI (sI σ (16) (iA σ 16)) (17) (iA σ 17)) (18) (iA σ 18))) hin_11 hl_66 rfl (by decide) rfl rfl ?_
  refine g_iload_n (pc9 := 5) C rfl 2 dX11_textOf_4 rfl rfl ?_
  refine g_iconst (pc9 := 6) C rfl (nI (0)) dX11_textOf_5 rfl ?_
  refine g_iast (pc9 := 7) C rfl (17) (v) (iA σ 17) dX11_textOf_6 (by decide) (fun _ => rfl) (ce_17 w (sI (sI (sI σ (16) (iA σ 16)) (17) (iA σ 17)) (18) (iA σ 18))) rfl (by omega) (by decide) ((iA_n (by decide)).trans (iA_s)) ?_
  rw [sI_cm (a := 18) (b := 17) (by decide), sI_sI (a := 17)]
  refine g_aload_n (pc9 := 8) C rfl 0 dX11_textOf_7 rfl rfl ?_
  refine g_get (v := .ref (w.1 (4))) (pc9 := 11) C rfl (0) 7 dX11_textOf_8 (by decide) (ce_0 w (sI (sI (sI σ (16) (iA σ 16)) (17) (upd (iA σ 17) (v) (nI (0)))) (18) (iA σ 18))) hin_11 hl_24 rfl (by decide) rfl rfl ?_
  refine g_bipush (pc9 := 13) C rfl (nI (47)) dX11_textOf_11 rfl ?_
  refine g_iload_n (pc9 := 14) C rfl 1 dX11_textOf_13 rfl rfl ?_
  refine g_imulN (pc9 := 15) C rfl dX11_textOf_14 ?_
  refine g_iload_n (pc9 := 16) C rfl 2 dX11_textOf_15 rfl rfl ?_
  refine g_iaddN (pc9 := 17) C rfl dX11_textOf_16 ?_
  refine g_iald (x := (iA σ (4)) ((47 * i) + v)) (pc9 := 18) C rfl (4) ((47 * i) + v) dX11_textOf_17 (by decide) (ce_4 w (sI (sI (sI σ (16) (iA σ 16)) (17) (upd (iA σ 17) (v) (nI (0)))) (18) (iA σ 18))) rfl (by omega) (by decide) (congrFun (((iA_n (by decide)).trans (iA_n (by decide))).trans (iA_n (by decide))) _) ?_
  refine g_if_lt (pc9 := 21) C rfl 41 dX11_textOf_18 rfl (fun c_1 => ?_) (fun c_1 => ?_)
  · have hneg : mK σ i v < 0 := c_1
    refine g_iload_n (pc9 := 42) C rfl 2 dX11_textOf_41 rfl rfl ?_
    refine g_iconst (pc9 := 43) C rfl (nI (1)) dX11_textOf_42 rfl ?_
    refine g_iaddN (pc9 := 44) C rfl dX11_textOf_43 ?_
    refine g_istore_n (pc9 := 45) C rfl [(3, .int (nI (v + 1))), (0, .ref (w.1 (0))), (1, .int (nI (i))), (2, .int (nI (v)))] dX11_textOf_44 rfl (by decide) rfl ?_
    refine g_sub [0, 1, 2, 3] [(3, .int (nI (v + 1))), (0, .ref (w.1 (0))), (1, .int (nI (i))), (2, .int (nI (v)))] rfl ?_
    refine m19_told C σ hM i v hb_i hv (iA σ 16) (upd (iA σ 17) v (nI 0)) (iA σ 18) (fun td htd => ?_)
    refine g_aload_n (pc9 := 88) C rfl 0 dX11_textOf_87 rfl rfl ?_
    refine g_iload_n (pc9 := 89) C rfl 1 dX11_textOf_88 rfl rfl ?_
    refine g_iload_n (pc9 := 90) C rfl 2 dX11_textOf_89 rfl rfl ?_
    refine g_callVi (nn := 2) (rest := []) (pc9 := 93) C rfl (0) [.int (nI (i)), .int (nI (v))] rfl dX11_textOf_90 (m_X11_children l w (sI (sI (sI σ (16) (iA σ 16)) (17) (upd (iA σ 17) v (nI 0))) (18) (td)) i hb_i (hM i hb_i) v (show v < mN σ i from hv)) gX11_textOf_X11_children (by decide) (ce_0 w (sI (sI (sI σ (16) (iA σ 16)) (17) (upd (iA σ 17) v (nI 0))) (18) (td))) rfl rfl rfl rfl rfl (by decide +kernel) ⟨by decide, by decide⟩ rfl (Nat.le_of_ble_eq_true rfl) ⟨by decide, by decide⟩ (fun r_2 σ_2 q_2 => ?_)
    obtain ⟨qs_2, qr_2⟩ := q_2
    replace qr_2 : r_2 = nI (mCn σ i v) := qr_2
    rw [qs_2, qr_2]
    clear qs_2 qr_2
    refine g_istore_n (pc9 := 94) C rfl [(3, .int (nI (mCn σ i v))), (0, .ref (w.1 (0))), (1, .int (nI (i))), (2, .int (nI (v)))] dX11_textOf_93 rfl (by decide) rfl ?_
    refine g_iconst (pc9 := 95) C rfl (nI (1)) dX11_textOf_94 rfl ?_
    refine g_istore (pc9 := 97) C rfl [(4, .int (nI (1))), (3, .int (nI (mCn σ i v))), (0, .ref (w.1 (0))), (1, .int (nI (i))), (2, .int (nI (v)))] dX11_textOf_95 (by decide) rfl ?_
    refine g_sub [1, 0, 2, 3, 4] [(3, .int (nI (mCn σ i v))), (4, .int (nI (1))), (0, .ref (w.1 (0))), (1, .int (nI (i))), (2, .int (nI (v)))] rfl ?_
    have hcn : mCn σ i v ≤ _ := cntU_le (q := mCh σ i v) (mN σ i - (v + 1))
    have hlen := hlen0 hneg
    refine g_lv (lv9 := [(3, .int (nI ((kidsL σ i v).length))), (4, .int (fst9 [])), (0, .ref (w.1 (0))), (1, .int (nI (i))), (2, .int (nI (v)))]) (by rw [← kids_n]; rfl) ?_
    refine g_lp4 (α := List Nat × List Nat) (β := Nat → Int32) (γ := Nat → Int32) (δ := Nat → Int32) (fun zz tx9 sz9 td9 => (zz.1 ++ zz.2).Perm (kidsL σ i v) ∧ zz.1.Pairwise (fun a b => ¬ ltL (T b) (T a)) ∧ (∀ a, a ∈ zz.1 → ∀ y, y ∈ zz.2 → ¬ ltL (T y) (T a)) ∧ (∀ x, v < x → x < mN σ i → (td9 x = 0 ↔ x ∈ zz.2)) ∧ rp tx9 sz9 v (preT (zz.1.map T)) ∧ smT (iA σ 16) (iA σ 17) tx9 sz9 v) (fun zz tx9 sz9 td9 => zz.2.length) (fun zz tx9 sz9 td9 => G p l e _ s m args below meth c _ w A _ (sI (sI (sI σ (16) (tx9)) (17) (sz9)) (18) (td9)) 0 0 97 [(3, .int (nI (zz.2.length))), (4, .int (fst9 zz.1)), (0, .ref (w.1 (0))), (1, .int (nI (i))), (2, .int (nI (v)))] []) (fun zz tx9 sz9 td9 hI ih0 => ?_) (([], kidsL σ i v)) (iA σ 16) (upd (iA σ 17) v (nI 0)) (td) ⟨List.Perm.refl _, List.Pairwise.nil, fun a h => absurd h (by simp), fun x h1 h2 => (htd x h1 h2).trans ⟨fun h => kids_m.mpr ⟨h1, h2, h⟩, fun h => (kids_m.mp h).2.2⟩, hr00, hs00⟩
    obtain ⟨hpm, hpw, hms, htd9, hr9, hs9⟩ := hI
    obtain ⟨os, rs⟩ := zz
    replace hpm : (os ++ rs).Perm (kidsL σ i v) := hpm
    replace hpw : os.Pairwise (fun a b => ¬ ltL (T b) (T a)) := hpw
    replace hms : ∀ a, a ∈ os → ∀ y, y ∈ rs → ¬ ltL (T y) (T a) := hms
    replace htd9 : ∀ x, v < x → x < mN σ i → (td9 x = 0 ↔ x ∈ rs) := htd9
    replace hr9 : rp tx9 sz9 v (preT (os.map T)) := hr9
    have hln : rs.length ≤ 47 := by have h1 := hpm.length_eq; rw [List.length_append, kids_n] at h1; omega
    have hrs : ∀ x, x ∈ rs → v < x ∧ x < mN σ i := fun x hx => by have := kids_m.mp (hpm.mem_iff.mp (List.mem_append_right os hx)); exact ⟨this.1, this.2.1⟩
    have hRR : ∀ x, v < x → x < mN σ i → rp tx9 sz9 x (T x) ∧ (T x).length ≤ 98 := fun x h1 h2 => ⟨rp_sm hs9 (by omega) (by omega) (by have := (hR x h1 h2).2; omega) (hR x h1 h2).1, (hR x h1 h2).2⟩
    have hsum := txS hpm hlen
    rcases List.eq_nil_or_concat rs with hrn | hrn
    · subst hrn
      refine g_lv (lv9 := [(3, .int (nI (0))), (4, .int (fst9 os)), (0, .ref (w.1 (0))), (1, .int (nI (i))), (2, .int (nI (v)))]) rfl ?_
      refine g_iload_n (pc9 := 98) C rfl 0 dX11_textOf_97 rfl rfl ?_
      refine g_if_le (pc9 := 101) C rfl 229 dX11_textOf_98 rfl (fun c_3 => ?_) (fun c_3 => ?_)
      · refine g_aload_n (pc9 := 230) C rfl 2 dX11_textOf_229 rfl rfl ?_
        refine g_iload_n (pc9 := 231) C rfl 4 dX11_textOf_230 rfl rfl ?_
        refine g_bipush (pc9 := 233) C rfl (nI (41)) dX11_textOf_231 rfl ?_
        refine g_callVv (nn := 2) (rest := []) (pc9 := 236) C rfl (0) [.int (nI (v)), .int (nI (41))] rfl dX11_textOf_233 (m_X11_puts_ l w (sI (sI (sI σ (16) (tx9)) (17) (sz9)) (18) (td9)) v (by omega) (preT (os.map T)) hr9 (by omega) (nI 41) (by decide)) gX11_textOf_X11_puts_ (by decide) (ce_0 w (sI (sI (sI σ (16) (tx9)) (17) (sz9)) (18) (td9))) rfl rfl rfl rfl rfl (by decide +kernel) ⟨by decide, by decide⟩ rfl (Nat.le_of_ble_eq_true rfl) ⟨by decide, by decide⟩ (fun σ_4 q_4 => ?_)
        obtain ⟨tx8, sz8, qs_4, hr2, hs2⟩ := q_4
        refine g_st (σ9 := sI (sI (sI σ (16) (tx8)) (17) (sz8)) (18) (td9)) (qs_4.trans pu_st) ?_
        exact g_return C hr hlk dX11_textOf_236 ⟨preT (os.map T) ++ [nI 41], tx8, sz8, td9, rfl, hr2, smT_t hs9 hs2, by rw [List.length_append]; exact hsum, Or.inr ⟨hneg, os, by rw [List.append_nil] at hpm; exact hpm, hpw, rfl⟩⟩
      · exact absurd c_3 (by decide)
    · have hpos : 0 < rs.length := by obtain ⟨a, b, e⟩ := hrn; rw [e]; simp
      refine g_lv (lv9 := [(3, .int (nI (rs.length))), (4, .int (fst9 os)), (0, .ref (w.1 (0))), (1, .int (nI (i))), (2, .int (nI (v)))]) rfl ?_
      refine g_iload_n (pc9 := 98) C rfl 0 dX11_textOf_97 rfl rfl ?_
      refine g_if_le (pc9 := 101) C rfl 229 dX11_textOf_98 rfl (fun c_5 => ?_) (fun c_5 => ?_)
      · replace c_5 := (z_le (by omega)).mp c_5
        exact absurd hpos (by omega)
      · replace c_5 := (not_congr (z_le (by omega))).mp c_5
        refine g_iconst (pc9 := 102) C rfl ((-1)) dX11_textOf_101 rfl ?_
        refine g_istore (pc9 := 104) C rfl [(5, .int ((-1))), (3, .int (nI (rs.length))), (4, .int (fst9 os)), (0, .ref (w.1 (0))), (1, .int (nI (i))), (2, .int (nI (v)))] dX11_textOf_102 (by decide) rfl ?_
        refine g_iload_n (pc9 := 105) C rfl 5 dX11_textOf_104 rfl rfl ?_
        refine g_iconst (pc9 := 106) C rfl (nI (1)) dX11_textOf_105 rfl ?_
        refine g_iaddN (pc9 := 107) C rfl dX11_textOf_106 ?_
        refine g_istore (pc9 := 109) C rfl [(6, .int (nI (v + 1))), (5, .int ((-1))), (3, .int (nI (rs.length))), (4, .int (fst9 os)), (0, .ref (w.1 (0))), (1, .int (nI (i))), (2, .int (nI (v)))] dX11_textOf_107 (by decide) rfl ?_
        refine g_sub [0, 1, 3, 2, 4, 5, 6] [(6, .int (nI (v + 1))), (5, .int ((-1))), (4, .int (fst9 os)), (3, .int (nI (rs.length))), (0, .ref (w.1 (0))), (1, .int (nI (i))), (2, .int (nI (v)))] rfl ?_
        refine m19_choose C σ hM i v hb_i hv (fst9 os) rs.length T tx9 sz9 td9 hRR rs htd9 hrs (fun h => by rw [h] at hpos; exact absurd hpos (by simp)) (fun b hb1 hb2 => ?_)
        have hbn := hrs b hb1
        have hTb := hRR b hbn.1 hbn.2
        have hsb := txB hpm hlen hb1
        refine g_aload_n (pc9 := 157) C rfl 3 dX11_textOf_156 rfl rfl ?_
        refine g_get (v := .ref (w.1 (18))) (pc9 := 160) C rfl (0) 27 dX11_textOf_157 (by decide) (ce_0 w (sI (sI (sI σ (16) (tx9)) (17) (sz9)) (18) (td9))) hin_11 hl_69 rfl (by decide) rfl rfl ?_
        refine g_iload (pc9 := 162) C rfl 0 dX11_textOf_160 rfl ?_
        refine g_iconst (pc9 := 163) C rfl (nI (1)) dX11_textOf_162 rfl ?_
        refine g_zast (pc9 := 164) C rfl (18) (b) (td9) dX11_textOf_163 (by decide) (fun _ => rfl) (ce_18 w (sI (sI (sI σ (16) (tx9)) (17) (sz9)) (18) (td9))) rfl (by omega) (by decide) (iA_s) ?_
        rw [sI_sI (a := 18)]
        refine g_aload_n (pc9 := 165) C rfl 3 dX11_textOf_164 rfl rfl ?_
        refine g_iload_n (pc9 := 166) C rfl 5 dX11_textOf_165 rfl rfl ?_
        refine g_iload (pc9 := 168) C rfl 1 dX11_textOf_166 rfl ?_
        refine g_if_eq (pc9 := 171) C rfl 176 dX11_textOf_168 rfl (fun c_6 => ?_) (fun c_6 => ?_)
        · have hos : ¬ os = [] := fun h => absurd c_6 (by unfold fst9; rw [if_pos h]; decide)
          have hsp : (if preT (os.map T) = [] then nI 40 else nI 44) = nI 44 := if_neg (preT_n (fun h => hos (List.map_eq_nil_iff.mp h)))
          refine g_bipush (pc9 := 178) C rfl (nI (44)) dX11_textOf_176 rfl ?_
          refine g_callVv (nn := 2) (rest := []) (pc9 := 181) C rfl (0) [.int (nI (v)), .int (nI (44))] rfl dX11_textOf_178 (m_X11_puts_ l w (sI (sI (sI σ (16) (tx9)) (17) (sz9)) (18) (upd (td9) (b) (vp_nar .boolean (nI (1))))) v (by omega) (preT (os.map T)) hr9 (by omega) (nI (44)) (by decide)) gX11_textOf_X11_puts_ (by decide) (ce_0 w (sI (sI (sI σ (16) (tx9)) (17) (sz9)) (18) (upd (td9) (b) (vp_nar .boolean (nI (1)))))) rfl rfl rfl rfl rfl (by decide +kernel) ⟨by decide, by decide⟩ rfl (Nat.le_of_ble_eq_true rfl) ⟨by decide, by decide⟩ (fun σ_7 q_7 => ?_)
          obtain ⟨tx7, sz7, qs_7, hr3, hs3⟩ := q_7
          refine g_st (σ9 := sI (sI (sI σ (16) (tx7)) (17) (sz7)) (18) (upd (td9) (b) (vp_nar .boolean (nI (1))))) (qs_7.trans pu_st) ?_
          refine g_iconst (pc9 := 182) C rfl (nI (0)) dX11_textOf_181 rfl ?_
          refine g_istore (pc9 := 184) C rfl [(4, .int (nI (0))), (5, .int (nI (b))), (3, .int (nI (rs.length))), (0, .ref (w.1 (0))), (1, .int (nI (i))), (2, .int (nI (v)))] dX11_textOf_182 (by decide) rfl ?_
          refine g_iconst (pc9 := 185) C rfl (nI (0)) dX11_textOf_184 rfl ?_
          refine g_istore (pc9 := 187) C rfl [(6, .int (nI (0))), (4, .int (nI (0))), (5, .int (nI (b))), (3, .int (nI (rs.length))), (0, .ref (w.1 (0))), (1, .int (nI (i))), (2, .int (nI (v)))] dX11_textOf_185 (by decide) rfl ?_
          refine g_sub [0, 2, 1, 3, 4, 5, 6] [(6, .int (nI (0))), (5, .int (nI (b))), (4, .int (nI (0))), (3, .int (nI (rs.length))), (0, .ref (w.1 (0))), (1, .int (nI (i))), (2, .int (nI (v)))] rfl ?_
          refine m19_copy C σ hM i v hb_i hv rs.length b hbn.1 hbn.2 T tx7 sz7 (upd (td9) (b) (vp_nar .boolean (nI (1)))) (rp_sm hs3 (by omega) (by omega) (by omega) hTb.1) (hbk b hbn.1 hbn.2) _ hr3 (by rw [List.length_append]; exact (show (preT (os.map T)).length + 1 + (T b).length ≤ 98 by omega)) (fun tx6 sz6 hr4 hs4 => ?_)
          refine g_iinc (pc9 := 226) C rfl [(3, .int (nI (rs.length - 1))), (4, .int (nI (0))), (0, .ref (w.1 (0))), (1, .int (nI (i))), (2, .int (nI (v)))] 0 (nI (rs.length - 1)) dX11_textOf_223 rfl (sb_m1 (by omega)) (by decide) rfl ?_
          refine g_goto C 97 dX11_textOf_226 rfl ?_
          refine g_sub [0, 1, 2, 3, 4] [(3, .int (nI (rs.length - 1))), (4, .int (nI (0))), (0, .ref (w.1 (0))), (1, .int (nI (i))), (2, .int (nI (v)))] rfl ?_
          have hpm2 : ((os ++ [b]) ++ rs.erase b).Perm (kidsL σ i v) := (txP hb1).trans hpm
          have hnd := txN hpm
          refine g_lv (lv9 := [(3, .int (nI ((rs.erase b).length))), (4, .int (fst9 (os ++ [b]))), (0, .ref (w.1 (0))), (1, .int (nI (i))), (2, .int (nI (v)))]) (by rw [List.length_erase_of_mem hb1, fst9_n]) ?_
          exact ih0 (os ++ [b], rs.erase b) tx6 sz6 (upd (td9) (b) (vp_nar .boolean (nI (1)))) ⟨hpm2, txW hpw (fun a ha => hms a ha b hb1), txM hms hb2, txD htd9 hnd (by decide), by rw [List.map_append, List.map_cons, List.map_nil, preT_s, hsp]; rw [List.append_assoc] at hr4; exact hr4, smT_t hs9 (smT_t hs3 hs4)⟩ (by show (rs.erase b).length < rs.length; rw [List.length_erase_of_mem hb1]; omega)
        · have hos : os = [] := Classical.byContradiction (fun h => c_6 (if_neg h))
          have hsp : (if preT (os.map T) = [] then nI 40 else nI 44) = nI 40 := if_pos (by rw [hos]; rfl)
          refine g_bipush (pc9 := 173) C rfl (nI (40)) dX11_textOf_171 rfl ?_
          refine g_goto C 178 dX11_textOf_173 rfl ?_
          refine g_callVv (nn := 2) (rest := []) (pc9 := 181) C rfl (0) [.int (nI (v)), .int (nI (40))] rfl dX11_textOf_178 (m_X11_puts_ l w (sI (sI (sI σ (16) (tx9)) (17) (sz9)) (18) (upd (td9) (b) (vp_nar .boolean (nI (1))))) v (by omega) (preT (os.map T)) hr9 (by omega) (nI (40)) (by decide)) gX11_textOf_X11_puts_ (by decide) (ce_0 w (sI (sI (sI σ (16) (tx9)) (17) (sz9)) (18) (upd (td9) (b) (vp_nar .boolean (nI (1)))))) rfl rfl rfl rfl rfl (by decide +kernel) ⟨by decide, by decide⟩ rfl (Nat.le_of_ble_eq_true rfl) ⟨by decide, by decide⟩ (fun σ_8 q_8 => ?_)
          obtain ⟨tx7, sz7, qs_8, hr3, hs3⟩ := q_8
          refine g_st (σ9 := sI (sI (sI σ (16) (tx7)) (17) (sz7)) (18) (upd (td9) (b) (vp_nar .boolean (nI (1))))) (qs_8.trans pu_st) ?_
          refine g_iconst (pc9 := 182) C rfl (nI (0)) dX11_textOf_181 rfl ?_
          refine g_istore (pc9 := 184) C rfl [(4, .int (nI (0))), (5, .int (nI (b))), (3, .int (nI (rs.length))), (0, .ref (w.1 (0))), (1, .int (nI (i))), (2, .int (nI (v)))] dX11_textOf_182 (by decide) rfl ?_
          refine g_iconst (pc9 := 185) C rfl (nI (0)) dX11_textOf_184 rfl ?_
          refine g_istore (pc9 := 187) C rfl [(6, .int (nI (0))), (4, .int (nI (0))), (5, .int (nI (b))), (3, .int (nI (rs.length))), (0, .ref (w.1 (0))), (1, .int (nI (i))), (2, .int (nI (v)))] dX11_textOf_185 (by decide) rfl ?_
          refine g_sub [0, 2, 1, 3, 4, 5, 6] [(6, .int (nI (0))), (5, .int (nI (b))), (4, .int (nI (0))), (3, .int (nI (rs.length))), (0, .ref (w.1 (0))), (1, .int (nI (i))), (2, .int (nI (v)))] rfl ?_
          refine m19_copy C σ hM i v hb_i hv rs.length b hbn.1 hbn.2 T tx7 sz7 (upd (td9) (b) (vp_nar .boolean (nI (1)))) (rp_sm hs3 (by omega) (by omega) (by omega) hTb.1) (hbk b hbn.1 hbn.2) _ hr3 (by rw [List.length_append]; exact (show (preT (os.map T)).length + 1 + (T b).length ≤ 98 by omega)) (fun tx6 sz6 hr4 hs4 => ?_)
          refine g_iinc (pc9 := 226) C rfl [(3, .int (nI (rs.length - 1))), (4, .int (nI (0))), (0, .ref (w.1 (0))), (1, .int (nI (i))), (2, .int (nI (v)))] 0 (nI (rs.length - 1)) dX11_textOf_223 rfl (sb_m1 (by omega)) (by decide) rfl ?_
          refine g_goto C 97 dX11_textOf_226 rfl ?_
          refine g_sub [0, 1, 2, 3, 4] [(3, .int (nI (rs.length - 1))), (4, .int (nI (0))), (0, .ref (w.1 (0))), (1, .int (nI (i))), (2, .int (nI (v)))] rfl ?_
          have hpm2 : ((os ++ [b]) ++ rs.erase b).Perm (kidsL σ i v) := (txP hb1).trans hpm
          have hnd := txN hpm
          refine g_lv (lv9 := [(3, .int (nI ((rs.erase b).length))), (4, .int (fst9 (os ++ [b]))), (0, .ref (w.1 (0))), (1, .int (nI (i))), (2, .int (nI (v)))]) (by rw [List.length_erase_of_mem hb1, fst9_n]) ?_
          exact ih0 (os ++ [b], rs.erase b) tx6 sz6 (upd (td9) (b) (vp_nar .boolean (nI (1)))) ⟨hpm2, txW hpw (fun a ha => hms a ha b hb1), txM hms hb2, txD htd9 hnd (by decide), by rw [List.map_append, List.map_cons, List.map_nil, preT_s, hsp]; rw [List.append_assoc] at hr4; exact hr4, smT_t hs9 (smT_t hs3 hs4)⟩ (by show (rs.erase b).length < rs.length; rw [List.length_erase_of_mem hb1]; omega)
  · have hneg : ¬ mK σ i v < 0 := c_1
    refine g_aload_n (pc9 := 22) C rfl 0 dX11_textOf_21 rfl rfl ?_
    refine g_iload_n (pc9 := 23) C rfl 2 dX11_textOf_22 rfl rfl ?_
    refine g_bipush (pc9 := 25) C rfl (nI (97)) dX11_textOf_23 rfl ?_
    refine g_aload_n (pc9 := 26) C rfl 0 dX11_textOf_25 rfl rfl ?_
    refine g_get (v := .ref (w.1 (4))) (pc9 := 29) C rfl (0) 7 dX11_textOf_26 (by decide) (ce_0 w (sI (sI (sI σ (16) (iA σ 16)) (17) (upd (iA σ 17) (v) (nI (0)))) (18) (iA σ 18))) hin_11 hl_24 rfl (by decide) rfl rfl ?_
    refine g_bipush (pc9 := 31) C rfl (nI (47)) dX11_textOf_29 rfl ?_
    refine g_iload_n (pc9 := 32) C rfl 1 dX11_textOf_31 rfl rfl ?_
    refine g_imulN (pc9 := 33) C rfl dX11_textOf_32 ?_
    refine g_iload_n (pc9 := 34) C rfl 2 dX11_textOf_33 rfl rfl ?_
    refine g_iaddN (pc9 := 35) C rfl dX11_textOf_34 ?_
    refine g_iald (x := (iA σ (4)) ((47 * i) + v)) (pc9 := 36) C rfl (4) ((47 * i) + v) dX11_textOf_35 (by decide) (ce_4 w (sI (sI (sI σ (16) (iA σ 16)) (17) (upd (iA σ 17) (v) (nI (0)))) (18) (iA σ 18))) rfl (by omega) (by decide) (congrFun (((iA_n (by decide)).trans (iA_n (by decide))).trans (iA_n (by decide))) _) ?_
    refine g_iadd (pc9 := 37) C rfl dX11_textOf_36 ?_
    refine g_callVv (nn := 2) (rest := []) (pc9 := 40) C rfl (0) [.int (nI (v)), .int ((nI (97)) + ((iA σ (4)) ((47 * i) + v)))] rfl dX11_textOf_37 (m_X11_puts_ l w (sI (sI (sI σ (16) (iA σ 16)) (17) (upd (iA σ 17) (v) (nI (0)))) (18) (iA σ 18)) v (by omega) ([]) hr00 (by simp) (nI 97 + mK σ i v) (by rcases hKi with h | ⟨q, hq, h⟩; (exact absurd (by rw [h]; decide) hneg); (rw [h]; exact (bok_k hq).1))) gX11_textOf_X11_puts_ (by decide) (ce_0 w (sI (sI (sI σ (16) (iA σ 16)) (17) (upd (iA σ 17) (v) (nI (0)))) (18) (iA σ 18))) rfl rfl rfl rfl rfl (by decide +kernel) ⟨by decide, by decide⟩ rfl (Nat.le_of_ble_eq_true rfl) ⟨by decide, by decide⟩ (fun σ_9 q_9 => ?_)
    obtain ⟨tx1, sz1, qs_9, hr1, hs1⟩ := q_9
    refine g_st (σ9 := sI (sI (sI σ (16) (tx1)) (17) (sz1)) (18) ((iA σ 18))) (qs_9.trans pu_st) ?_
    exact g_return C hr hlk dX11_textOf_40 ⟨[nI 97 + mK σ i v], tx1, sz1, iA σ 18, rfl, hr1, smT_t hs00 hs1, by rw [List.length_singleton]; omega, Or.inl ⟨hneg, rfl⟩⟩

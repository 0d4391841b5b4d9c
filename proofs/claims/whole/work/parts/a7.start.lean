/-! The law from its entry to its loop -/
abbrev x11W (w0 : Wd) (q1 : Nat) (v : Nat → Nat) : va_W := [(q1, .inr (11, [.int 0, .ref (v 1), .int 0, .int 0, .int (-1), .ref (v 2), .ref (v 3), .ref (v 4), .ref (v 5), .ref (v 6), .ref (v 7), .int 0, .ref (v 8), .int 0, .ref (v 9), .ref (v 10), .int 12, .ref (v 11), .int 0, .ref (v 12), .ref (v 13), .int 0, .int 0, .ref (v 14), .ref (v 15), .ref (v 16), .ref (v 17), .ref (v 18), .ref (v 19), .ref (v 20), .ref (v 21), .ref (v 22), .ref (v 23), .ref (v 24), .ref (v 25), .ref (v 26), .ref (v 27), .ref (v 28), .ref (v 29)])), (v 1, .inl (w0.2.2.1, 400, .inl (fun _ => 0))), (v 2, .inl (w0.2.2.2.1, 9, .inl (fun _ => 0))), (v 3, .inl (w0.2.2.2.1, 456, .inl (fun _ => 0))), (v 4, .inl (w0.2.2.2.1, 456, .inl (fun _ => 0))), (v 5, .inl (w0.2.2.2.1, 80, .inl (fun _ => 0))), (v 6, .inl (w0.2.2.2.1, 80, .inl (fun _ => 0))), (v 7, .inl (w0.2.2.2.1, 80, .inl (fun _ => 0))), (v 8, .inl (w0.2.2.2.1, 16, .inl (fun _ => 0))), (v 9, .inl (w0.2.2.2.1, 96, .inl (fun _ => 0))), (v 10, .inl (w0.2.2.2.1, 144, .inl (fun _ => 0))), (v 11, .inl (w0.2.2.1, 100, .inl (fun _ => 0))), (v 12, .inl (w0.2.2.2.1, 47, .inl (fun _ => 0))), (v 13, .inl (w0.2.2.2.1, 400, .inl (fun _ => 0))), (v 14, .inl (w0.2.2.2.1, 24, .inl (fun _ => 0))), (v 15, .inl (w0.2.2.2.1, 24, .inl (fun _ => 0))), (v 16, .inl (w0.2.2.1, 4700, .inl (fun _ => 0))), (v 17, .inl (w0.2.2.2.1, 47, .inl (fun _ => 0))), (v 18, .inl (w0.2.2.2.2.2.1, 47, .inl (fun _ => 0))), (v 19, .inl (w0.2.2.2.1, 5, .inl (fun _ => 0))), (v 20, .inl (w0.2.2.2.1, 36, .inl (fun _ => 0))), (v 21, .inl (w0.2.2.2.1, 188, .inl (fun _ => 0))), (v 22, .inl (w0.2.2.2.1, 24, .inl (fun _ => 0))), (v 23, .inl (w0.2.2.2.2.2.1, 24, .inl (fun _ => 0))), (v 24, .inl (w0.2.2.2.2.1, 576, .inr (.inl (fun _ => 0)))), (v 25, .inl (w0.2.2.2.1, 2209, .inl (fun _ => 0))), (v 26, .inl (w0.2.2.2.1, 2209, .inl (fun _ => 0))), (v 27, .inl (w0.2.2.2.2.1, 47, .inr (.inl (fun _ => 0)))), (v 28, .inl (w0.2.2.2.1, 47, .inl (fun _ => 0))), (v 29, .inl (w0.2.2.2.2.1, 900, .inr (.inl (fun _ => 0))))]
abbrev lwA (q0 q1 q2 : Nat) (u v : Nat → Nat) : Nat → Nat := (fun i => if i = 0 then q1 else if i < 30 then v i else if i = 30 then q2 else if i = 31 then q0 else u i)
theorem shelf_fn (q0 q1 q2 : Nat) (u v : Nat → Nat) : va_up (va_up (va_up (va_up (va_up (va_up (va_up (va_up (fun _ => none) 0 (some (u 64))) 1 (some (u 69))) 2 (some (u 74))) 3 (some (u 79))) 4 (some (u 84))) 5 (some (u 89))) 6 (some (u 94))) 7 (some (u 99)) = (fun k => if k < 8 then some (lwA q0 q1 q2 u v (64 + 5 * k)) else none : Nat → Option Nat) := by
  funext k
  by_cases h : k < 8
  · rw [if_pos h]
    have e : k = 0 ∨ k = 1 ∨ k = 2 ∨ k = 3 ∨ k = 4 ∨ k = 5 ∨ k = 6 ∨ k = 7 := by omega
    rcases e with rfl | rfl | rfl | rfl | rfl | rfl | rfl | rfl <;> rfl
  · rw [if_neg h]
    simp only [va_up]
    rw [if_neg (by omega), if_neg (by omega), if_neg (by omega), if_neg (by omega), if_neg (by omega), if_neg (by omega), if_neg (by omega), if_neg (by omega)]
abbrev lwL (w0 : Wd) (q0 q1 q2 : Nat) (u v : Nat → Nat) : va_W := (b10W w0 q0 u ++ x11W w0 q1 v) ++ [(q2, .inl (w0.2.2.2.2.1, 1, .inr (.inl (fun _ => 0))))]
set_option maxRecDepth 100000 in
set_option maxHeartbeats 4000000 in
theorem lw_list (w0 : Wd) (q0 q1 q2 : Nat) (u v : Nat → Nat) : [78, 79, 80, 81, 82, 83, 84, 85, 86, 87, 88, 89, 90, 91, 92, 93, 94, 95, 96, 97, 98, 99, 100, 101, 102, 103, 104, 105, 106, 107, 108, 0, 1, 2, 3, 4, 5, 6, 7, 8, 9, 10, 11, 12, 13, 14, 15, 16, 17, 18, 19, 20, 21, 22, 23, 24, 25, 26, 27, 28, 29, 30, 31, 32, 38, 39, 40, 41, 42, 43, 44, 45, 46, 47, 48, 49, 50, 51, 52, 53, 54, 55, 56, 57, 58, 59, 60, 61, 62, 63, 64, 65, 66, 67, 68, 69, 70, 71, 72, 73, 74, 75, 76, 77, 33, 34, 35, 36, 37].map (fun i => (lwL w0 q0 q1 q2 u v)[i]?) = (wd (lwA q0 q1 q2 u v, w0.2) σ0).map some := by
  unfold lwL b10W
  rw [shelf_fn q0 q1 q2 u v]
  rfl
theorem fm_of {α β : Type} {f : α → Option β} : ∀ {l : List α} {k : List β}, l.map f = k.map some → l.filterMap f = k
  | [], [], _ => rfl
  | [], _ :: _, h => by simp at h
  | _ :: _, [], h => by simp at h
  | a :: l, b :: k, h => by
    simp only [List.map_cons, List.cons.injEq] at h
    rw [List.filterMap_cons, h.1, fm_of h.2]
set_option maxRecDepth 100000 in
set_option maxHeartbeats 4000000 in
/-- from the entry, for every script, the law comes to its end with true -/
theorem whole_start {p : Program} {e : Env} {s : State} {m : MethodId} {below : List Frame} {meth : Method} {c : Code} (l : Launch) (hst : l.stackTraces = false) {b L : Nat} {xs : Nat → Int32} (hL : L ≤ 3072) (C0 : lw_At p s m meth c b L xs) : W p l e room_1 s m #[Value.ref b] below meth c s.heap [] 0 0 (lw_Z below #[Value.ref b] s) (entryFrame m ([Value.ref b] : List Value).toArray 8) := by
  obtain ⟨hx, hb, hr, hml, hown, hts0, hX, hbl, hlocks, hgv⟩ := id C0
  have hts : ∀ u ∈ wsL_law, u.before #[Value.ref b] s = true := fun u h => hts0 u (wsL_law_in u h)
  have hA : ∀ q : Nat, s.heap.size ≤ q → (fun q : Nat => s.heap.size ≤ q) q := fun _ h => h
  have hbA : ¬ (fun q : Nat => s.heap.size ≤ q) b := Nat.not_le.mpr hbl
  obtain ⟨D, cs, hK⟩ := lw_K hts0
  obtain ⟨w0, hw0⟩ : ∃ w0 : Wd, w0 = ((fun _ => 0, D, cs) : Wd) := ⟨_, rfl⟩
  have hK : va_K w0.2.1 vwCl (wTys w0) s := by rw [hw0]; exact hK
  have hNs := lw_b10 hts0
  have hS : va_S (fun q : Nat => s.heap.size ≤ q) s.heap s.heap [] := va_S.rf
  have hP : va_P w0.2.1 vwCl [] s.heap := fun k q h => by simp at h
  have hD : va_D (fun q : Nat => s.heap.size ≤ q) [] := ⟨fun i j p q h => by simp at h, fun k q h => by simp at h⟩
  have hl := lv_entry ([.ref b]) (n := 8) (Nat.le_of_ble_eq_true rfl)
  rw [lg_entry_eq]
  generalize (lg_sl ([.ref b]) ++ List.replicate (8 - (lg_sl ([.ref b])).length) Slot.unset).toArray = ls at hl ⊢
  have hl : lv_has ls 8 [(0, .ref b)] := hl
  refine va_new (ci := 10) (fs := [.null, .null, .null, .null, .null, .null, .null, .null, .null, .null, .null, .null]) (C := RX10) (T := TX10) (N := 12) hx hb hts inlX10 tyX10 tyX10_ok hown (hts (.classLink RL 8 RX10) (by decide +kernel)) (hts (.instantiable RX10 12) (by decide +kernel)) (hts (.initialized RX10) (by decide +kernel)) hK hP hD hS hA rfl (fun j hj => by rcases (show j = 0 ∨ j = 1 ∨ j = 2 ∨ j = 3 ∨ j = 4 ∨ j = 5 ∨ j = 6 ∨ j = 7 ∨ j = 8 ∨ j = 9 ∨ j = 10 ∨ j = 11 by omega) with rfl | rfl | rfl | rfl | rfl | rfl | rfl | rfl | rfl | rfl | rfl | rfl <;> rfl) (Nat.le_of_ble_eq_true rfl) (Nat.le_of_ble_eq_true rfl) dL_law_0 (fun q0 H hP hD hS => ?_)
  have hP : va_P w0.2.1 vwCl [(q0, .inr (10, [.null, .null, .null, .null, .null, .null, .null, .null, .null, .null, .null, .null]))] H := hP
  have hD : va_D (fun q : Nat => s.heap.size ≤ q) [(q0, .inr (10, [.null, .null, .null, .null, .null, .null, .null, .null, .null, .null, .null, .null]))] := hD
  refine W.widen (k := 1) (n := 12) (by omega) (by omega) ?_
  refine lv_dup hx hb dL_law_3 rfl ?_
  have hFc := va_free (wc := [(q0, .inr (10, [.null, .null, .null, .null, .null, .null, .null, .null, .null, .null, .null, .null]))]) hD hS hA [0] rfl
  refine va_callv (va_runI (As := []) (rest := [.ref q0]) ⟨hx, hb, hml, hown, hts⟩ (c_X10 l w0 q0 H.size) (cwI 0 hts gL_law_X10_init rfl rfl rfl (hts (.initialized RX10) (by decide +kernel)) (hts (.methodLink RL 106 yX10_init) (by decide +kernel)) (hts (.instanceMethod yX10_init) (by decide +kernel)) rfl (by decide +kernel) ⟨Nat.le_of_ble_eq_true rfl, Nat.le_of_ble_eq_true rfl⟩) ⟨fun a U g mk q => by obtain ⟨q0, q1, qP, qK, qD, qN⟩ := q; exact ⟨q0, q1, qP, va_K.moved (u := U) (U := U.calling g mk a) (Vm.Alike.refl U.vm) qK, qD, b10N_c qN⟩, fun U hU hW => ⟨rfl, by rw [hU], by rw [hU]; exact hP, va_K.moved hW.alike hK, hD.weaken (fun _ _ _ _ => trivial), b10N_w hW hNs⟩⟩ rfl rfl hl.1 rfl (lv_room (Nat.le_of_ble_eq_true rfl)) dL_law_4 ⟨Nat.le_of_ble_eq_true rfl, Nat.le_of_ble_eq_true rfl⟩) hS (fun q _ h => hFc q h) hFc (fun u t H1 locs ht hvm hw hB hz1 hk1 hS => ?_)
  obtain ⟨hP1, _, hD1⟩ := hB
  rw [ht] at hP1
  obtain ⟨hP, hD⟩ := va_join (wr := []) (w1 := b10W w0 q0 u) hP hD [0] [] rfl rfl (by decide) (by decide) hk1 hFc hP1 hD1
  clear hP1 hD1 hFc hk1 hz1
  generalize H1 = H at hP hS ⊢
  have hP : va_P w0.2.1 vwCl (b10W w0 q0 u) H := hP
  have hD : va_D (fun q : Nat => s.heap.size ≤ q) (b10W w0 q0 u) := hD
  refine W.widen (k := 78) (n := 4593) (by omega) (by omega) ?_
  refine lv_astore_n (lv' := [(1, .ref q0), (0, .ref b)]) hx hb dL_law_7 rfl hl (by decide) rfl (fun ls hl => ?_)
  refine va_new (ci := 11) (fs := [.int 0, .null, .int 0, .int 0, .int 0, .null, .null, .null, .null, .null, .null, .int 0, .null, .int 0, .null, .null, .int 0, .null, .int 0, .null, .null, .int 0, .int 0, .null, .null, .null, .null, .null, .null, .null, .null, .null, .null, .null, .null, .null, .null, .null, .null]) (C := RX11) (T := TX11) (N := 39) hx hb hts inlX11 tyX11 tyX11_ok hown (hts (.classLink RL 107 RX11) (by decide +kernel)) (hts (.instantiable RX11 39) (by decide +kernel)) (hts (.initialized RX11) (by decide +kernel)) hK hP hD hS hA rfl (fun j hj => by rcases (show j = 0 ∨ j = 1 ∨ j = 2 ∨ j = 3 ∨ j = 4 ∨ j = 5 ∨ j = 6 ∨ j = 7 ∨ j = 8 ∨ j = 9 ∨ j = 10 ∨ j = 11 ∨ j = 12 ∨ j = 13 ∨ j = 14 ∨ j = 15 ∨ j = 16 ∨ j = 17 ∨ j = 18 ∨ j = 19 ∨ j = 20 ∨ j = 21 ∨ j = 22 ∨ j = 23 ∨ j = 24 ∨ j = 25 ∨ j = 26 ∨ j = 27 ∨ j = 28 ∨ j = 29 ∨ j = 30 ∨ j = 31 ∨ j = 32 ∨ j = 33 ∨ j = 34 ∨ j = 35 ∨ j = 36 ∨ j = 37 ∨ j = 38 by omega) with rfl | rfl | rfl | rfl | rfl | rfl | rfl | rfl | rfl | rfl | rfl | rfl | rfl | rfl | rfl | rfl | rfl | rfl | rfl | rfl | rfl | rfl | rfl | rfl | rfl | rfl | rfl | rfl | rfl | rfl | rfl | rfl | rfl | rfl | rfl | rfl | rfl | rfl | rfl <;> rfl) (Nat.le_of_ble_eq_true rfl) (Nat.le_of_ble_eq_true rfl) dL_law_8 (fun q1 H hP hD hS => ?_)
  have hP : va_P w0.2.1 vwCl (b10W w0 q0 u ++ [(q1, .inr (11, [.int 0, .null, .int 0, .int 0, .int 0, .null, .null, .null, .null, .null, .null, .int 0, .null, .int 0, .null, .null, .int 0, .null, .int 0, .null, .null, .int 0, .int 0, .null, .null, .null, .null, .null, .null, .null, .null, .null, .null, .null, .null, .null, .null, .null, .null]))]) H := hP
  have hD : va_D (fun q : Nat => s.heap.size ≤ q) (b10W w0 q0 u ++ [(q1, .inr (11, [.int 0, .null, .int 0, .int 0, .int 0, .null, .null, .null, .null, .null, .null, .int 0, .null, .int 0, .null, .null, .int 0, .null, .int 0, .null, .null, .int 0, .int 0, .null, .null, .null, .null, .null, .null, .null, .null, .null, .null, .null, .null, .null, .null, .null, .null]))]) := hD
  refine W.widen (k := 79) (n := 4632) (by omega) (by omega) ?_
  refine lv_dup hx hb dL_law_11 rfl ?_
  have hPc := hP.sub (ws' := [(q1, .inr (11, [.int 0, .null, .int 0, .int 0, .int 0, .null, .null, .null, .null, .null, .null, .int 0, .null, .int 0, .null, .null, .int 0, .null, .int 0, .null, .null, .int 0, .int 0, .null, .null, .null, .null, .null, .null, .null, .null, .null, .null, .null, .null, .null, .null, .null, .null]))]) [78] rfl
  have hDc := hD.sub (ws' := [(q1, .inr (11, [.int 0, .null, .int 0, .int 0, .int 0, .null, .null, .null, .null, .null, .null, .int 0, .null, .int 0, .null, .null, .int 0, .null, .int 0, .null, .null, .int 0, .int 0, .null, .null, .null, .null, .null, .null, .null, .null, .null, .null, .null, .null, .null, .null, .null, .null]))]) [78] (by decide) rfl
  have hFc := va_free (wc := [(q1, .inr (11, [.int 0, .null, .int 0, .int 0, .int 0, .null, .null, .null, .null, .null, .null, .int 0, .null, .int 0, .null, .null, .int 0, .null, .int 0, .null, .null, .int 0, .int 0, .null, .null, .null, .null, .null, .null, .null, .null, .null, .null, .null, .null, .null, .null, .null, .null]))]) hD hS hA [78] rfl
  refine va_callv (va_runI (As := []) (rest := [.ref q1]) ⟨hx, hb, hml, hown, hts⟩ (c_X11 l w0 q1 H.size) (cwI 0 hts gL_law_X11_init rfl rfl rfl (hts (.initialized RX11) (by decide +kernel)) (hts (.methodLink RL 109 yX11_init) (by decide +kernel)) (hts (.instanceMethod yX11_init) (by decide +kernel)) rfl (by decide +kernel) ⟨Nat.le_of_ble_eq_true rfl, Nat.le_of_ble_eq_true rfl⟩) ⟨fun a U g mk q => by obtain ⟨q0, q1, qP, qK, qD⟩ := q; exact ⟨q0, q1, qP, va_K.moved (u := U) (U := U.calling g mk a) (Vm.Alike.refl U.vm) qK, qD⟩, fun U hU hW => ⟨rfl, by rw [hU], by rw [hU]; exact hPc, va_K.moved hW.alike hK, hDc.weaken (fun _ _ _ _ => trivial)⟩⟩ rfl rfl hl.1 rfl (lv_room (Nat.le_of_ble_eq_true rfl)) dL_law_12 ⟨Nat.le_of_ble_eq_true rfl, Nat.le_of_ble_eq_true rfl⟩) hS (fun q _ h => hFc q h) hFc (fun v t H1 locs ht hvm hw hB hz1 hk1 hS => ?_)
  obtain ⟨hP1, _, hD1⟩ := hB
  rw [ht] at hP1
  obtain ⟨hP, hD⟩ := va_join (wr := b10W w0 q0 u) (w1 := x11W w0 q1 v) hP hD [78] [0, 1, 2, 3, 4, 5, 6, 7, 8, 9, 10, 11, 12, 13, 14, 15, 16, 17, 18, 19, 20, 21, 22, 23, 24, 25, 26, 27, 28, 29, 30, 31, 32, 33, 34, 35, 36, 37, 38, 39, 40, 41, 42, 43, 44, 45, 46, 47, 48, 49, 50, 51, 52, 53, 54, 55, 56, 57, 58, 59, 60, 61, 62, 63, 64, 65, 66, 67, 68, 69, 70, 71, 72, 73, 74, 75, 76, 77] rfl rfl (by decide) (by decide) hk1 hFc hP1 hD1
  clear hP1 hD1 hFc hk1 hz1 hPc hDc
  generalize H1 = H at hP hS ⊢
  refine W.widen (k := 108) (n := 18103) (by omega) (by omega) ?_
  refine lv_astore_n (lv' := [(2, .ref q1), (1, .ref q0), (0, .ref b)]) hx hb dL_law_15 rfl hl (by decide) rfl (fun ls hl => ?_)
  refine lv_iconst (v := 1) hx hb dL_law_16 (by decide) ?_
  refine va_newa (atype := .long) hx hb (hts (.arrayClass .long) (by decide +kernel)) (ty := .long) rfl hK hP hD hS hA (a0 := (1, .inr (.inl (fun _ => 0)))) (fun cA => arr0_J 1 cA) (by decide) (N' := 1) rfl (Nat.le_of_ble_eq_true rfl) (Nat.le_of_ble_eq_true rfl) (Nat.le_of_ble_eq_true rfl) dL_law_17 (fun q2 cA H hK9 hP hD hS => ?_)
  have e9 := arr_u hK9 2
  subst e9
  refine W.widen (k := 109) (n := 18104) (by omega) (by omega) ?_
  refine lv_astore_n (lv' := [(3, .ref q2), (2, .ref q1), (1, .ref q0), (0, .ref b)]) hx hb dL_law_19 rfl hl (by decide) rfl (fun ls hl => ?_)
  refine lv_iconst (v := 0) hx hb dL_law_20 (by decide) ?_
  refine lv_istore (lv' := [(4, .int (nI 0)), (3, .ref q2), (2, .ref q1), (1, .ref q0), (0, .ref b)]) hx hb dL_law_21 hl (by decide) rfl (fun ls hl => ?_)
  have hP9 : va_P w0.2.1 vwCl (wd (lwA q0 q1 q2 u v, w0.2) σ0) H := va_P.sub hP [78, 79, 80, 81, 82, 83, 84, 85, 86, 87, 88, 89, 90, 91, 92, 93, 94, 95, 96, 97, 98, 99, 100, 101, 102, 103, 104, 105, 106, 107, 108, 0, 1, 2, 3, 4, 5, 6, 7, 8, 9, 10, 11, 12, 13, 14, 15, 16, 17, 18, 19, 20, 21, 22, 23, 24, 25, 26, 27, 28, 29, 30, 31, 32, 38, 39, 40, 41, 42, 43, 44, 45, 46, 47, 48, 49, 50, 51, 52, 53, 54, 55, 56, 57, 58, 59, 60, 61, 62, 63, 64, 65, 66, 67, 68, 69, 70, 71, 72, 73, 74, 75, 76, 77, 33, 34, 35, 36, 37] (fm_of (lw_list w0 q0 q1 q2 u v))
  have hD9 : va_D (fun q : Nat => s.heap.size ≤ q) (wd (lwA q0 q1 q2 u v, w0.2) σ0) := va_D.sub hD [78, 79, 80, 81, 82, 83, 84, 85, 86, 87, 88, 89, 90, 91, 92, 93, 94, 95, 96, 97, 98, 99, 100, 101, 102, 103, 104, 105, 106, 107, 108, 0, 1, 2, 3, 4, 5, 6, 7, 8, 9, 10, 11, 12, 13, 14, 15, 16, 17, 18, 19, 20, 21, 22, 23, 24, 25, 26, 27, 28, 29, 30, 31, 32, 38, 39, 40, 41, 42, 43, 44, 45, 46, 47, 48, 49, 50, 51, 52, 53, 54, 55, 56, 57, 58, 59, 60, 61, 62, 63, 64, 65, 66, 67, 68, 69, 70, 71, 72, 73, 74, 75, 76, 77, 33, 34, 35, 36, 37] (by decide) (lw_list w0 q0 q1 q2 u v)
  obtain ⟨sA, hXF⟩ := lw_XF (A := fun q : Nat => s.heap.size ≤ q) hts0 hgv (fun a h1 h2 => by omega)
  have X : LC p s m meth c (lwA q0 q1 q2 u v, w0.2) sA b L xs (fun q : Nat => s.heap.size ≤ q) := ⟨⟨hx, hb, hml, hown, hts, hK, fun q h => h⟩, hXF, lw_NC hgv, hX, hbl, hbA, fun q h => h, hr, hlocks, hL⟩
  exact law_loop hst X 512 0 σ0 109 18104 RX_0 (by omega) (by omega) (by omega) (by omega) H _ ls hP9 hD9 hS hl

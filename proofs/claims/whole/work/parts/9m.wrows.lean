/-! Methods with handlers that catch all: contracts; calls within a try; calls of such methods -/
abbrev xAll : List String := [xIOB, xISE, xIAE, xUOE, xNSE]
def NCs (U : State) : Prop := ∀ a ∈ xAll, ∀ b ∈ xAll, ¬ a = b → va_Nc a b U
theorem NCs.moved {u U : State} (hvm : u.vm.Alike U.vm) (h : NCs u) : NCs U := fun a ha b hb e => (h a ha b hb e).moved hvm
theorem cast_of {sA : Nat → Nat} {A : Nat → Prop} {s : State} {args : Array Value} (h : XF sA A s s.heap) : ∀ E ∈ xAll, (Cond.castable E E).before args s = true := by
  intro E hE
  simp only [xAll, List.mem_cons, List.not_mem_nil, or_false] at hE
  rcases hE with rfl | rfl | rfl | rfl | rfl
  · exact va_Nw.use rfl (h.2.2.2 _ (by simp [XB]))
  · exact va_Nw.use rfl (h.2.2.2 _ (by simp [XB]))
  · exact va_Nw.use rfl (h.2.2.2 _ (by simp [XB]))
  · exact va_Nw.use rfl (h.2.2.2 _ (by simp [XB]))
  · exact va_Nw.use rfl (h.2.2.2 _ (by simp [XB]))
def PreW (w : Wd) (sA : Nat → Nat) (σ : St) (sz : Nat) (av : List Value) : Array Value → State → Prop := va_Pc av (fun U => U.heap.size = sz ∧ va_P w.2.1 vwCl (wd w σ) U.heap ∧ va_K w.2.1 vwCl (wTys w) U ∧ va_D (fun _ => True) (wd w σ) ∧ XF sA (aA w sz) U U.heap ∧ NCs U)
theorem PreW_blind {w : Wd} {sA : Nat → Nat} {σ : St} {sz : Nat} {av : List Value} : FrameBlind (PreW w sA σ sz av) := fun a U g mk q => by
  obtain ⟨q0, q1, qP, qK, qD, ⟨h1, h2, h3, h4⟩, h5⟩ := q
  exact ⟨q0, q1, qP, va_K.moved (u := U) (U := U.calling g mk a) (Vm.Alike.refl U.vm) qK, qD, ⟨h1.moved (U := U.calling g mk a) (Vm.Alike.refl U.vm), h2.moved (U := U.calling g mk a) (Vm.Alike.refl U.vm), fun q hq => (h3 q hq).same (u := U) (U := U.calling g mk a) rfl, fun u hu => va_Nw.same (u := U) (U := U.calling g mk a) (by revert u; decide +kernel) rfl (h4 u hu)⟩, NCs.moved (u := U) (U := U.calling g mk a) (Vm.Alike.refl U.vm) h5⟩
def MWI (l : Launch) (y : MethodName) (ws : List Cond) (n k : Nat) (w : Wd) (sA : Nat → Nat) (av : List Value) (σ : St) (post : Int32 → St → Prop) : Prop := ∀ sz, vx_Met l y ws (rmX n k) (PreW w sA σ sz av) (va_Qi post (Wl w (aA w sz)) (aA w sz)) (XT w (aA w sz) (fun _ _ => False)) k (6 * k) (aA w sz)
def CW (p : Program) (s : State) (m : MethodId) (args : Array Value) (c : Code) (w : Wd) (sA : Nat → Nat) (A : Nat → Prop) (cc : ByteArray) (own : String) (nL : Nat) (Ts : List Cond) (hh : List (Nat × Nat × Nat × Nat)) : Prop := Cx p s m args c w A cc own nL Ts ∧ XF sA A s s.heap ∧ NCs s ∧ c.exceptionTable.toList = tableOf hh
theorem MWI_of {l : Launch} {y : MethodName} {cc : ByteArray} {maxL : Nat} {ret : FieldType} {ws ws9 : List Cond} {hh : List (Nat × Nat × Nat × Nat)} {n k : Nat} {w : Wd} {sA : Nat → Nat} {av : List Value} {σ : St} {post : Int32 → St → Prop} (hy : plainName y.cls = true) (hw : ws = Cond.codeWith y cc maxL (some ret) hh :: ws9) (hav : (lg_sl av).length ≤ maxL)
    (body : ∀ (p : Program) (e : Env) (s : State) (m : MethodId) (args : Array Value) (below : List Frame) (meth : Method) (c : Code) (A : Nat → Prop), CW p s m args c w sA A cc y.cls maxL ws hh → meth.sig.returnType = (some ret) → meth.locks = false → G p l e (rmX n k) s m args below meth c (vx_MQ below (va_Qi post (Wl w A) A) (XT w A (fun _ _ => False)) args s k (6 * k) A) w A maxL σ 0 0 0 (lv_args 0 av) []) : MWI l y ws n k w sA av σ post := by
  intro sz
  refine vx_ofWH (cc := cc) (maxL := maxL) (ret := (some ret)) (hh := hh) hy hw ?_
  intro p e s m args below meth c s₁ B hml hv
  obtain ⟨rfl, hsz, hP, hK, hD0, hX, hN⟩ := hv
  subst hsz
  have hl := lv_entry av (n := maxL) hav
  have ht : c.exceptionTable.toList = tableOf hh := vx_table (x := y) B (bytes := cc) (maxL' := maxL) (ret' := some ret) (hh := hh) (atoms_spec (ws := ws) B.pre _ (by rw [hw]; exact List.mem_cons_self))
  rw [lg_entry_eq]
  exact body p e s m _ below meth c (aA w s.heap.size) ⟨⟨B.exec, B.bytes, hml, findClass_of_methodNamed B.named, atoms_spec (ws := ws) B.pre, hK, fun q h => Or.inr h⟩, hX, hN, ht⟩ B.returns B.notSynchronized s.heap [] _ hP (wd_self hD0) va_S.rf hl
abbrev etE (q : Nat × Nat × Nat × Nat) : ExceptionTableEntry := ⟨q.1, q.2.1, q.2.2.1, q.2.2.2⟩
section GWW
variable {p : Program} {l : Launch} {e : Env} {R : Room} {s : State} {m : MethodId} {args : Array Value} {below : List Frame} {meth : Method} {c : Code} {Q : State → Prop}
  {w : Wd} {sA : Nat → Nat} {A : Nat → Prop} {cc : ByteArray} {own : String} {nL : Nat} {Ts : List Cond} {σ : St} {cells slots pc : Nat} {lv : List (Nat × Value)} {rest : List Value} {hh : List (Nat × Nat × Nat × Nat)}
/-- the handler that takes it -/
theorem w_catch {H : Heap} {locs : List Loc} {ls : Array Slot} {E : String} {ce : Cell} {q9 : Addr} {kc ks : Nat} (X : CW p s m args c w sA A cc own nL Ts hh) (tb : List ((Nat × Nat × Nat × Nat) × String)) (htb : hh = tb.map Prod.fst) (hcov : ∀ z ∈ tb, covers (etE z.1) pc = true ∧ z.1.2.2.2 ≠ 0 ∧ Cond.classLink own z.1.2.2.2 z.2 ∈ Ts ∧ z.2 ∈ xAll) (hnd : tb.Pairwise (fun v z => ¬ z.2 = v.2)) (hE : ∃ z ∈ tb, z.2 = E) (h6 : H[q9]? = some ce) (h7 : ce.vm = .none) (h8 : s.vm.findClass E = some ce.cls)
    (kk : ∀ z ∈ tb, z.2 = E → W p l e R s m args below meth c H locs kc ks Q (F0 m z.1.2.2.1 ls [.ref q9])) : vx_W p l e R s m args below meth c H locs kc ks Q (F0 m pc ls rest) q9 := by
  obtain ⟨z, hz, rfl⟩ := hE
  have C := X.1
  obtain ⟨pre, suf, e9⟩ := List.append_of_mem hz
  have hpw : ∀ v ∈ pre, ¬ z.2 = v.2 := fun v hv => by
    rw [e9] at hnd
    exact (List.pairwise_append.mp hnd).2.2 v hv z List.mem_cons_self
  refine vx_catch (own := own) (name := z.2) (E := z.2) C.2.2.2.1 (pre.map (fun v => etE v.1)) (etE z.1) (suf.map (fun v => etE v.1)) ?_ ?_ (hcov z hz).1 (hcov z hz).2.1 (C.2.2.2.2.1 _ (hcov z hz).2.2.1) (cast_of X.2.1 z.2 (hcov z hz).2.2.2) h6 h7 h8 (kk z hz rfl)
  · rw [X.2.2.2, htb, e9]
    simp [tableOf]
    rfl
  · intro y hy
    obtain ⟨v, hv, rfl⟩ := List.mem_map.mp hy
    have hv9 : v ∈ tb := by rw [e9]; exact List.mem_append_left _ hv
    exact Or.inr ⟨(hcov v hv9).2.1, v.2, C.2.2.2.2.1 _ (hcov v hv9).2.2.1, X.2.2.1 z.2 (hcov z hz).2.2.2 v.2 (hcov v hv9).2.2.2 (hpw v hv)⟩
theorem c_callVi (X : CW p s m args c w sA A cc own nL Ts hh) {pc9 : Nat} (hpc : pc + 3 = pc9) (b : Nat) {ci : Nat} {fs : List Value} {q : vw_C} (As : List Value) {nn : Nat} (hnn : As.length = nn) {st : List Value} {index : Nat} {y : MethodName} {bytes : ByteArray} {maxL n k : Nat} {ret : Option FieldType} {ws ws9 : List Cond} {post : Int32 → St → Prop} {thr9 : String → St → Prop} (hdg : decode cc pc = .ok (.invokevirtual index, 3)) (hM : MXI l y ws n k w sA (.ref (w.1 b) :: As) σ post thr9) (hg : GoodIn Ts (wsV own index y.cls y ws)) (hb : b < 109) (hc : cel w σ b = .inr (ci, fs)) (hq : vwCl[ci]? = some q) (hq9 : q.1 = y.cls) (hw : ws = Cond.code y bytes maxL ret :: ws9) (hd : y.cls ≠ "java/lang/invoke/MethodHandle" ∧ y.cls ≠ "java/lang/invoke/VarHandle" ∧ (parseMethodDescriptor y.desc).map (fun d => d.parameters.length) = some nn) (hR : (rmX n k).frames + 1 ≤ R.frames ∧ 8 + (maxL + 11) + (rmX n k).locals ≤ R.locals) (hst : st = (As.reverse ++ .ref (w.1 b) :: rest)) (hcat : (rest.map fun v => v.category).sum ≤ 8) (hcr : cells + k ≤ R.cells ∧ slots + 6 * k ≤ R.slots)
    (tb : List ((Nat × Nat × Nat × Nat) × String)) (htb : hh = tb.map Prod.fst) (hcov : ∀ z ∈ tb, covers (etE z.1) pc = true ∧ z.1.2.2.2 ≠ 0 ∧ Cond.classLink own z.1.2.2.2 z.2 ∈ Ts ∧ z.2 ∈ xAll) (hnd : tb.Pairwise (fun v z => ¬ z.2 = v.2)) (hE : ∀ E σ9, thr9 E σ9 → ∃ z ∈ tb, z.2 = E) (kx : ∀ z ∈ tb, ∀ (σ9 : St) (q9 : Nat), thr9 z.2 σ9 → G p l e R s m args below meth c Q w A nL σ9 (cells + k) (slots + 6 * k) z.1.2.2.1 lv [.ref q9]) (k9 : ∀ (r : Int32) (σ9 : St), post r σ9 → G p l e R s m args below meth c Q w A nL σ9 (cells + k) (slots + 6 * k) pc9 lv (.int r :: rest)) : G p l e R s m args below meth c Q w A nL σ cells slots pc lv st :=
  fun H locs ls hP hD hS hl => by
    subst hpc
    have C := X.1
    have hF := aA_in hD hS C.2.2.2.2.2.2
    refine vx_calli (vx_runV (C := y.cls) (As := As) (rest := rest) ⟨C.1, C.2.1, C.2.2.1, C.2.2.2.1, C.2.2.2.2.1⟩ (hM H.size) (cwV nn C.2.2.2.2.1 hg hw rfl rfl ⟨rfl, hd⟩ hR) ⟨PreX_blind, hq9 ▸ va_recv C.2.2.2.2.2.1 hP hq (by rw [wd_get hb, hc]), fun U hU hW => ⟨rfl, by rw [hU], by rw [hU]; exact hP, va_K.moved hW.alike C.2.2.2.2.2.1, hD.weaken (fun _ _ _ _ => trivial), X.2.1.next hW hU hS hF⟩⟩ rfl hnn hl.1 hst (lv_room hcat) hdg ⟨hcr.1, hcr.2⟩) hS (fun q _ h => hF q h) hF (fun q _ h => hF q h) (fun E ce q9 u t H1 locs1 ht hvm _ hB hz1 hk1 hS1 h6 h7 h8 => ?_) (fun r σ9 t H1 locs1 ht hvm hw9 hB hz1 hk1 hS1 => ?_)
    · obtain ⟨hth, hP1, hK1, hD1⟩ := hB
      rw [ht] at hP1
      exact w_catch X tb htb hcov hnd (hE E u hth) h6 h7 h8 (fun z hz ez => kx z hz u q9 (by rw [ez]; exact hth) H1 locs1 ls hP1 (wd_DA hD) hS1 hl)
    · obtain ⟨hP1, hK1, hD1⟩ := hB
      rw [ht] at hP1
      exact k9 r σ9 hw9 H1 locs1 ls hP1 (wd_DA hD) hS1 hl
theorem c_callVl (X : CW p s m args c w sA A cc own nL Ts hh) {pc9 : Nat} (hpc : pc + 3 = pc9) (b : Nat) {ci : Nat} {fs : List Value} {q : vw_C} (As : List Value) {nn : Nat} (hnn : As.length = nn) {st : List Value} {index : Nat} {y : MethodName} {bytes : ByteArray} {maxL n k : Nat} {ret : Option FieldType} {ws ws9 : List Cond} {post : Int64 → St → Prop} {thr9 : String → St → Prop} (hdg : decode cc pc = .ok (.invokevirtual index, 3)) (hM : MXL l y ws n k w sA (.ref (w.1 b) :: As) σ post thr9) (hg : GoodIn Ts (wsV own index y.cls y ws)) (hb : b < 109) (hc : cel w σ b = .inr (ci, fs)) (hq : vwCl[ci]? = some q) (hq9 : q.1 = y.cls) (hw : ws = Cond.code y bytes maxL ret :: ws9) (hd : y.cls ≠ "java/lang/invoke/MethodHandle" ∧ y.cls ≠ "java/lang/invoke/VarHandle" ∧ (parseMethodDescriptor y.desc).map (fun d => d.parameters.length) = some nn) (hR : (rmX n k).frames + 1 ≤ R.frames ∧ 8 + (maxL + 11) + (rmX n k).locals ≤ R.locals) (hst : st = (As.reverse ++ .ref (w.1 b) :: rest)) (hcat : (rest.map fun v => v.category).sum ≤ 8) (hcr : cells + k ≤ R.cells ∧ slots + 6 * k ≤ R.slots)
    (tb : List ((Nat × Nat × Nat × Nat) × String)) (htb : hh = tb.map Prod.fst) (hcov : ∀ z ∈ tb, covers (etE z.1) pc = true ∧ z.1.2.2.2 ≠ 0 ∧ Cond.classLink own z.1.2.2.2 z.2 ∈ Ts ∧ z.2 ∈ xAll) (hnd : tb.Pairwise (fun v z => ¬ z.2 = v.2)) (hE : ∀ E σ9, thr9 E σ9 → ∃ z ∈ tb, z.2 = E) (kx : ∀ z ∈ tb, ∀ (σ9 : St) (q9 : Nat), thr9 z.2 σ9 → G p l e R s m args below meth c Q w A nL σ9 (cells + k) (slots + 6 * k) z.1.2.2.1 lv [.ref q9]) (k9 : ∀ (r : Int64) (σ9 : St), post r σ9 → G p l e R s m args below meth c Q w A nL σ9 (cells + k) (slots + 6 * k) pc9 lv (.long r :: rest)) : G p l e R s m args below meth c Q w A nL σ cells slots pc lv st :=
  fun H locs ls hP hD hS hl => by
    subst hpc
    have C := X.1
    have hF := aA_in hD hS C.2.2.2.2.2.2
    refine vx_calll (vx_runV (C := y.cls) (As := As) (rest := rest) ⟨C.1, C.2.1, C.2.2.1, C.2.2.2.1, C.2.2.2.2.1⟩ (hM H.size) (cwV nn C.2.2.2.2.1 hg hw rfl rfl ⟨rfl, hd⟩ hR) ⟨PreX_blind, hq9 ▸ va_recv C.2.2.2.2.2.1 hP hq (by rw [wd_get hb, hc]), fun U hU hW => ⟨rfl, by rw [hU], by rw [hU]; exact hP, va_K.moved hW.alike C.2.2.2.2.2.1, hD.weaken (fun _ _ _ _ => trivial), X.2.1.next hW hU hS hF⟩⟩ rfl hnn hl.1 hst (lv_room hcat) hdg ⟨hcr.1, hcr.2⟩) hS (fun q _ h => hF q h) hF (fun q _ h => hF q h) (fun E ce q9 u t H1 locs1 ht hvm _ hB hz1 hk1 hS1 h6 h7 h8 => ?_) (fun r σ9 t H1 locs1 ht hvm hw9 hB hz1 hk1 hS1 => ?_)
    · obtain ⟨hth, hP1, hK1, hD1⟩ := hB
      rw [ht] at hP1
      exact w_catch X tb htb hcov hnd (hE E u hth) h6 h7 h8 (fun z hz ez => kx z hz u q9 (by rw [ez]; exact hth) H1 locs1 ls hP1 (wd_DA hD) hS1 hl)
    · obtain ⟨hP1, hK1, hD1⟩ := hB
      rw [ht] at hP1
      exact k9 r σ9 hw9 H1 locs1 ls hP1 (wd_DA hD) hS1 hl
theorem c_callVv (X : CW p s m args c w sA A cc own nL Ts hh) {pc9 : Nat} (hpc : pc + 3 = pc9) (b : Nat) {ci : Nat} {fs : List Value} {q : vw_C} (As : List Value) {nn : Nat} (hnn : As.length = nn) {st : List Value} {index : Nat} {y : MethodName} {bytes : ByteArray} {maxL n k : Nat} {ret : Option FieldType} {ws ws9 : List Cond} {post : St → Prop} {thr9 : String → St → Prop} (hdg : decode cc pc = .ok (.invokevirtual index, 3)) (hM : MXV l y ws n k w sA (.ref (w.1 b) :: As) σ post thr9) (hg : GoodIn Ts (wsV own index y.cls y ws)) (hb : b < 109) (hc : cel w σ b = .inr (ci, fs)) (hq : vwCl[ci]? = some q) (hq9 : q.1 = y.cls) (hw : ws = Cond.code y bytes maxL ret :: ws9) (hd : y.cls ≠ "java/lang/invoke/MethodHandle" ∧ y.cls ≠ "java/lang/invoke/VarHandle" ∧ (parseMethodDescriptor y.desc).map (fun d => d.parameters.length) = some nn) (hR : (rmX n k).frames + 1 ≤ R.frames ∧ 8 + (maxL + 11) + (rmX n k).locals ≤ R.locals) (hst : st = (As.reverse ++ .ref (w.1 b) :: rest)) (hcat : (rest.map fun v => v.category).sum ≤ 8) (hcr : cells + k ≤ R.cells ∧ slots + 6 * k ≤ R.slots)
    (tb : List ((Nat × Nat × Nat × Nat) × String)) (htb : hh = tb.map Prod.fst) (hcov : ∀ z ∈ tb, covers (etE z.1) pc = true ∧ z.1.2.2.2 ≠ 0 ∧ Cond.classLink own z.1.2.2.2 z.2 ∈ Ts ∧ z.2 ∈ xAll) (hnd : tb.Pairwise (fun v z => ¬ z.2 = v.2)) (hE : ∀ E σ9, thr9 E σ9 → ∃ z ∈ tb, z.2 = E) (kx : ∀ z ∈ tb, ∀ (σ9 : St) (q9 : Nat), thr9 z.2 σ9 → G p l e R s m args below meth c Q w A nL σ9 (cells + k) (slots + 6 * k) z.1.2.2.1 lv [.ref q9]) (k9 : ∀ (σ9 : St), post σ9 → G p l e R s m args below meth c Q w A nL σ9 (cells + k) (slots + 6 * k) pc9 lv (rest)) : G p l e R s m args below meth c Q w A nL σ cells slots pc lv st :=
  fun H locs ls hP hD hS hl => by
    subst hpc
    have C := X.1
    have hF := aA_in hD hS C.2.2.2.2.2.2
    refine vx_callv (vx_runV (C := y.cls) (As := As) (rest := rest) ⟨C.1, C.2.1, C.2.2.1, C.2.2.2.1, C.2.2.2.2.1⟩ (hM H.size) (cwV nn C.2.2.2.2.1 hg hw rfl rfl ⟨rfl, hd⟩ hR) ⟨PreX_blind, hq9 ▸ va_recv C.2.2.2.2.2.1 hP hq (by rw [wd_get hb, hc]), fun U hU hW => ⟨rfl, by rw [hU], by rw [hU]; exact hP, va_K.moved hW.alike C.2.2.2.2.2.1, hD.weaken (fun _ _ _ _ => trivial), X.2.1.next hW hU hS hF⟩⟩ rfl hnn hl.1 hst (lv_room hcat) hdg ⟨hcr.1, hcr.2⟩) hS (fun q _ h => hF q h) hF (fun q _ h => hF q h) (fun E ce q9 u t H1 locs1 ht hvm _ hB hz1 hk1 hS1 h6 h7 h8 => ?_) (fun σ9 t H1 locs1 ht hvm hw9 hB hz1 hk1 hS1 => ?_)
    · obtain ⟨hth, hP1, hK1, hD1⟩ := hB
      rw [ht] at hP1
      exact w_catch X tb htb hcov hnd (hE E u hth) h6 h7 h8 (fun z hz ez => kx z hz u q9 (by rw [ez]; exact hth) H1 locs1 ls hP1 (wd_DA hD) hS1 hl)
    · obtain ⟨hP1, hK1, hD1⟩ := hB
      rw [ht] at hP1
      exact k9 σ9 hw9 H1 locs1 ls hP1 (wd_DA hD) hS1 hl
/-- a call of a method that catches all -/
theorem w_callSi (C : Cx p s m args c w A cc own nL Ts) (hX : XF sA A s s.heap) (hN : NCs s) {pc9 : Nat} (hpc : pc + 3 = pc9) (As : List Value) {nn : Nat} (hnn : As.length = nn) {st : List Value} {index : Nat} {y : MethodName} {bytes : ByteArray} {maxL n k : Nat} {ret : Option FieldType} {hh : List (Nat × Nat × Nat × Nat)} {ws ws9 : List Cond} {post : Int32 → St → Prop} (hdg : decode cc pc = .ok (.invokestatic index, 3)) (hM : MWI l y ws n k w sA As σ post) (hg : GoodIn Ts (va_wsS own index y ws)) (hw : ws = Cond.codeWith y bytes maxL ret hh :: ws9) (hd : y.cls ≠ "java/lang/invoke/MethodHandle" ∧ y.cls ≠ "java/lang/invoke/VarHandle" ∧ (parseMethodDescriptor y.desc).map (fun d => d.parameters.length) = some nn) (hR : (rmX n k).frames + 1 ≤ R.frames ∧ 8 + (maxL + 11) + (rmX n k).locals ≤ R.locals) (hst : st = (As.reverse ++ rest)) (hcat : (rest.map fun v => v.category).sum ≤ 8) (hcr : cells + k ≤ R.cells ∧ slots + 6 * k ≤ R.slots) (k9 : ∀ (r : Int32) (σ9 : St), post r σ9 → G p l e R s m args below meth c Q w A nL σ9 (cells + k) (slots + 6 * k) pc9 lv (.int r :: rest)) : G p l e R s m args below meth c Q w A nL σ cells slots pc lv st :=
  fun H locs ls hP hD hS hl => by
    subst hpc
    have hF := aA_in hD hS C.2.2.2.2.2.2
    refine vx_calli (vx_runSX (hh := hh) (As := As) (rest := rest) ⟨C.1, C.2.1, C.2.2.1, C.2.2.2.1, C.2.2.2.2.1⟩ (hM H.size) (vx_cwSW nn C.2.2.2.2.1 hg hw rfl rfl hd hR) ⟨PreW_blind, fun U hU hW => ⟨rfl, by rw [hU], by rw [hU]; exact hP, va_K.moved hW.alike C.2.2.2.2.2.1, hD.weaken (fun _ _ _ _ => trivial), hX.next hW hU hS hF, hN.moved hW.alike⟩⟩ rfl hnn hl.1 hst (lv_room hcat) hdg ⟨hcr.1, hcr.2⟩) hS (fun q _ h => hF q h) hF (fun q _ h => hF q h) (fun E ce q9 u t H1 locs1 ht hvm _ hB hz1 hk1 hS1 h6 h7 h8 => ?_) (fun r σ9 t H1 locs1 ht hvm hw9 hB hz1 hk1 hS1 => ?_)
    · exact hB.1.elim
    · obtain ⟨hP1, hK1, hD1⟩ := hB
      rw [ht] at hP1
      exact k9 r σ9 hw9 H1 locs1 ls hP1 (wd_DA hD) hS1 hl
end GWW
/-! what a wrapper owes: the answer in the law's array, or the exception's number -/
def WPi (ex : List (String × Nat)) (post : Int32 → St → Prop) (thr : String → St → Prop) : Int32 → St → Prop := fun r σ9 => (∃ v σ8, post v σ8 ∧ r = nI 0 ∧ σ9 = sJ σ8 30 (vp_updL (jA σ8 30) 0 v.toInt64)) ∨ ∃ E n, (E, n) ∈ ex ∧ thr E σ9 ∧ r = nI n
def WPz (ex : List (String × Nat)) (post : Int32 → St → Prop) (thr : String → St → Prop) : Int32 → St → Prop := fun r σ9 => (∃ v σ8, post v σ8 ∧ r = nI 0 ∧ σ9 = sJ σ8 30 (vp_updL (jA σ8 30) 0 (if v = 0 then 0 else 1))) ∨ ∃ E n, (E, n) ∈ ex ∧ thr E σ9 ∧ r = nI n
def WPl (ex : List (String × Nat)) (post : Int64 → St → Prop) (thr : String → St → Prop) : Int32 → St → Prop := fun r σ9 => (∃ v σ8, post v σ8 ∧ r = nI 0 ∧ σ9 = sJ σ8 30 (vp_updL (jA σ8 30) 0 v)) ∨ ∃ E n, (E, n) ∈ ex ∧ thr E σ9 ∧ r = nI n
def WPv (ex : List (String × Nat)) (post : St → Prop) (thr : String → St → Prop) : Int32 → St → Prop := fun r σ9 => (post σ9 ∧ r = nI 0) ∨ ∃ E n, (E, n) ∈ ex ∧ thr E σ9 ∧ r = nI n

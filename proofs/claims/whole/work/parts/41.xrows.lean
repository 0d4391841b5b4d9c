abbrev xIOB : String := "java/lang/IndexOutOfBoundsException"
abbrev xISE : String := "java/lang/IllegalStateException"
abbrev xIAE : String := "java/lang/IllegalArgumentException"
abbrev xUOE : String := "java/lang/UnsupportedOperationException"
abbrev xNSE : String := "java/util/NoSuchElementException"
abbrev strL : List (Nat × String) := [(111, "the tape has a fault"), (169, "nothing such to look at"), (190, "two kinds are one"), (192, "the tree has not all three"), (202, "the tree has none of these kinds"), (231, "no more triples"), (248, "no set of kinds"), (251, "no more signs"), (269, "no such state"), (275, "not so many kinds can count"), (280, "the kinds are one"), (283, "no such distance"), (315, "no such shelf"), (318, "no such kind"), (320, "no such row"), (322, "no set of kinds, or an empty one"), (324, "no shelf, or one that there is not"), (328, "the kinds are not the same"), (331, "the shelf has no tree"), (333, "the tree is not plain"), (340, "a tree is not binary"), (342, "a kind of the genes is missing")]
abbrev XB : List Cond := [.declares (Bundle.initS "java/lang/RuntimeException"), .declares (Bundle.initS "java/lang/Exception"), .declares (Bundle.initS Bundle.tN), .castable xIOB xIOB, .castable xISE xISE, .castable xIAE xIAE, .castable xUOE xUOE, .castable xNSE xNSE]
/-- what a throw needs of a state: Throwable's two statics, the texts, some words -/
def XF (sA : Nat → Nat) (A : Nat → Prop) (U : State) (H : Heap) : Prop := vx_Zq Bundle.tN "UNASSIGNED_STACK" Bundle.steD A U H ∧ vx_Zq Bundle.tN "SUPPRESSED_SENTINEL" Bundle.listD A U H ∧ (∀ q ∈ strL, vk_R RX10 q.1 q.2 (sA q.1) U) ∧ ∀ u ∈ XB, va_Nw u U
theorem XB_warm {s U : State} (hW : s.WarmedH U.vm) {u : Cond} (hu : u ∈ XB) (h : va_Nw u s) : va_Nw u U := by
  simp only [XB, List.mem_cons, List.not_mem_nil, or_false] at hu
  rcases hu with rfl | rfl | rfl | rfl | rfl | rfl | rfl | rfl
  · exact va_Nw.warmD hW h
  · exact va_Nw.warmD hW h
  · exact va_Nw.warmD hW h
  · exact va_Nw.warmC hW h
  · exact va_Nw.warmC hW h
  · exact va_Nw.warmC hW h
  · exact va_Nw.warmC hW h
  · exact va_Nw.warmC hW h
theorem XF.next {sA : Nat → Nat} {A B : Nat → Prop} {s U : State} {H : Heap} {locs : List Loc} (h : XF sA A s s.heap) (hW : s.WarmedH U.vm) (hU : U.heap = H) (hS : va_S A s.heap H locs) (hB : ∀ q, B q → A q) : XF sA B U U.heap := by
  rw [hU]
  exact ⟨((h.1.kept (fun a h1 h2 => hS.2.1 a h1 h2)).moved hW.alike).narrow hB, ((h.2.1.kept (fun a h1 h2 => hS.2.1 a h1 h2)).moved hW.alike).narrow hB, fun q hq => (h.2.2.1 q hq).warm hW, fun u hu => XB_warm hW hu (h.2.2.2 u hu)⟩
abbrev rmX (n k : Nat) : Room := { frames := n, cells := k, slots := 6 * k, locals := 40 * n }
def PreX (w : Wd) (sA : Nat → Nat) (σ : St) (sz : Nat) (av : List Value) : Array Value → State → Prop := va_Pc av (fun U => U.heap.size = sz ∧ va_P w.2.1 vwCl (wd w σ) U.heap ∧ va_K w.2.1 vwCl (wTys w) U ∧ va_D (fun _ => True) (wd w σ) ∧ XF sA (aA w sz) U U.heap)
theorem PreX_blind {w : Wd} {sA : Nat → Nat} {σ : St} {sz : Nat} {av : List Value} : FrameBlind (PreX w sA σ sz av) := fun a U g mk q => by
  obtain ⟨q0, q1, qP, qK, qD, h1, h2, h3, h4⟩ := q
  exact ⟨q0, q1, qP, va_K.moved (u := U) (U := U.calling g mk a) (Vm.Alike.refl U.vm) qK, qD, h1.moved (U := U.calling g mk a) (Vm.Alike.refl U.vm), h2.moved (U := U.calling g mk a) (Vm.Alike.refl U.vm), fun q hq => (h3 q hq).same (u := U) (U := U.calling g mk a) rfl, fun u hu => va_Nw.same (u := U) (U := U.calling g mk a) (by revert u; decide +kernel) rfl (h4 u hu)⟩
abbrev XT (w : Wd) (A : Nat → Prop) (thr : String → St → Prop) : String → State → State → Prop := vx_X (S := St) (fun _ => True) (fun E σ t => thr E σ ∧ Wl w A σ t) A
def CX (p : Program) (l : Launch) (s : State) (m : MethodId) (args : Array Value) (c : Code) (w : Wd) (sA : Nat → Nat) (A : Nat → Prop) (cc : ByteArray) (own : String) (nL : Nat) (Ts : List Cond) : Prop := Cx p s m args c w A cc own nL Ts ∧ l.stackTraces = false ∧ XF sA A s s.heap ∧ ∀ x ∈ c.exceptionTable.toList, False
def MXI (l : Launch) (y : MethodName) (ws : List Cond) (n k : Nat) (w : Wd) (sA : Nat → Nat) (av : List Value) (σ : St) (post : Int32 → St → Prop) (thr : String → St → Prop) : Prop := ∀ sz, vx_Met l y ws (rmX n k) (PreX w sA σ sz av) (va_Qi post (Wl w (aA w sz)) (aA w sz)) (XT w (aA w sz) thr) k (6 * k) (aA w sz)
theorem MXI_of {l : Launch} (hst : l.stackTraces = false) {y : MethodName} {cc : ByteArray} {maxL : Nat} {ret : FieldType} {ws ws9 : List Cond} {n k : Nat} {w : Wd} {sA : Nat → Nat} {av : List Value} {σ : St} {post : Int32 → St → Prop} {thr : String → St → Prop} (hy : plainName y.cls = true) (hw : ws = Cond.code y cc maxL (some ret) :: ws9) (hav : (lg_sl av).length ≤ maxL)
    (body : ∀ (p : Program) (e : Env) (s : State) (m : MethodId) (args : Array Value) (below : List Frame) (meth : Method) (c : Code) (A : Nat → Prop), CX p l s m args c w sA A cc y.cls maxL ws → meth.sig.returnType = (some ret) → meth.locks = false → G p l e (rmX n k) s m args below meth c (vx_MQ below (va_Qi post (Wl w A) A) (XT w A thr) args s k (6 * k) A) w A maxL σ 0 0 0 (lv_args 0 av) []) : MXI l y ws n k w sA av σ post thr := by
  intro sz
  refine vx_ofW (cc := cc) (maxL := maxL) (ret := (some ret)) hy hw ?_
  intro p e s m args below meth c s₁ B hml htb hv
  obtain ⟨rfl, hsz, hP, hK, hD0, hX⟩ := hv
  subst hsz
  have hl := lv_entry av (n := maxL) hav
  rw [lg_entry_eq]
  exact body p e s m _ below meth c (aA w s.heap.size) ⟨⟨B.exec, B.bytes, hml, findClass_of_methodNamed B.named, atoms_spec (ws := ws) B.pre, hK, fun q h => Or.inr h⟩, hst, hX, htb⟩ B.returns B.notSynchronized s.heap [] _ hP (wd_self hD0) va_S.rf hl
def MXL (l : Launch) (y : MethodName) (ws : List Cond) (n k : Nat) (w : Wd) (sA : Nat → Nat) (av : List Value) (σ : St) (post : Int64 → St → Prop) (thr : String → St → Prop) : Prop := ∀ sz, vx_Met l y ws (rmX n k) (PreX w sA σ sz av) (va_Ql post (Wl w (aA w sz)) (aA w sz)) (XT w (aA w sz) thr) k (6 * k) (aA w sz)
theorem MXL_of {l : Launch} (hst : l.stackTraces = false) {y : MethodName} {cc : ByteArray} {maxL : Nat} {ret : FieldType} {ws ws9 : List Cond} {n k : Nat} {w : Wd} {sA : Nat → Nat} {av : List Value} {σ : St} {post : Int64 → St → Prop} {thr : String → St → Prop} (hy : plainName y.cls = true) (hw : ws = Cond.code y cc maxL (some ret) :: ws9) (hav : (lg_sl av).length ≤ maxL)
    (body : ∀ (p : Program) (e : Env) (s : State) (m : MethodId) (args : Array Value) (below : List Frame) (meth : Method) (c : Code) (A : Nat → Prop), CX p l s m args c w sA A cc y.cls maxL ws → meth.sig.returnType = (some ret) → meth.locks = false → G p l e (rmX n k) s m args below meth c (vx_MQ below (va_Ql post (Wl w A) A) (XT w A thr) args s k (6 * k) A) w A maxL σ 0 0 0 (lv_args 0 av) []) : MXL l y ws n k w sA av σ post thr := by
  intro sz
  refine vx_ofW (cc := cc) (maxL := maxL) (ret := (some ret)) hy hw ?_
  intro p e s m args below meth c s₁ B hml htb hv
  obtain ⟨rfl, hsz, hP, hK, hD0, hX⟩ := hv
  subst hsz
  have hl := lv_entry av (n := maxL) hav
  rw [lg_entry_eq]
  exact body p e s m _ below meth c (aA w s.heap.size) ⟨⟨B.exec, B.bytes, hml, findClass_of_methodNamed B.named, atoms_spec (ws := ws) B.pre, hK, fun q h => Or.inr h⟩, hst, hX, htb⟩ B.returns B.notSynchronized s.heap [] _ hP (wd_self hD0) va_S.rf hl
def MXV (l : Launch) (y : MethodName) (ws : List Cond) (n k : Nat) (w : Wd) (sA : Nat → Nat) (av : List Value) (σ : St) (post : St → Prop) (thr : String → St → Prop) : Prop := ∀ sz, vx_Met l y ws (rmX n k) (PreX w sA σ sz av) (va_Qv post (Wl w (aA w sz)) (aA w sz)) (XT w (aA w sz) thr) k (6 * k) (aA w sz)
theorem MXV_of {l : Launch} (hst : l.stackTraces = false) {y : MethodName} {cc : ByteArray} {maxL : Nat} {ws ws9 : List Cond} {n k : Nat} {w : Wd} {sA : Nat → Nat} {av : List Value} {σ : St} {post : St → Prop} {thr : String → St → Prop} (hy : plainName y.cls = true) (hw : ws = Cond.code y cc maxL none :: ws9) (hav : (lg_sl av).length ≤ maxL)
    (body : ∀ (p : Program) (e : Env) (s : State) (m : MethodId) (args : Array Value) (below : List Frame) (meth : Method) (c : Code) (A : Nat → Prop), CX p l s m args c w sA A cc y.cls maxL ws → meth.sig.returnType = none → meth.locks = false → G p l e (rmX n k) s m args below meth c (vx_MQ below (va_Qv post (Wl w A) A) (XT w A thr) args s k (6 * k) A) w A maxL σ 0 0 0 (lv_args 0 av) []) : MXV l y ws n k w sA av σ post thr := by
  intro sz
  refine vx_ofW (cc := cc) (maxL := maxL) (ret := none) hy hw ?_
  intro p e s m args below meth c s₁ B hml htb hv
  obtain ⟨rfl, hsz, hP, hK, hD0, hX⟩ := hv
  subst hsz
  have hl := lv_entry av (n := maxL) hav
  rw [lg_entry_eq]
  exact body p e s m _ below meth c (aA w s.heap.size) ⟨⟨B.exec, B.bytes, hml, findClass_of_methodNamed B.named, atoms_spec (ws := ws) B.pre, hK, fun q h => Or.inr h⟩, hst, hX, htb⟩ B.returns B.notSynchronized s.heap [] _ hP (wd_self hD0) va_S.rf hl
def MXR (l : Launch) (y : MethodName) (ws : List Cond) (n k : Nat) (w : Wd) (sA : Nat → Nat) (av : List Value) (σ : St) (post : Nat × St → Prop) (thr : String → St → Prop) : Prop := ∀ sz, vx_Met l y ws (rmX n k) (PreX w sA σ sz av) (va_Qr post (WlR w (aA w sz)) (aA w sz)) (XT w (aA w sz) thr) k (6 * k) (aA w sz)
theorem MXR_of {l : Launch} (hst : l.stackTraces = false) {y : MethodName} {cc : ByteArray} {maxL : Nat} {ret : FieldType} {ws ws9 : List Cond} {n k : Nat} {w : Wd} {sA : Nat → Nat} {av : List Value} {σ : St} {post : Nat × St → Prop} {thr : String → St → Prop} (hy : plainName y.cls = true) (hw : ws = Cond.code y cc maxL (some ret) :: ws9) (hav : (lg_sl av).length ≤ maxL)
    (body : ∀ (p : Program) (e : Env) (s : State) (m : MethodId) (args : Array Value) (below : List Frame) (meth : Method) (c : Code) (A : Nat → Prop), CX p l s m args c w sA A cc y.cls maxL ws → meth.sig.returnType = (some ret) → meth.locks = false → G p l e (rmX n k) s m args below meth c (vx_MQ below (va_Qr post (WlR w A) A) (XT w A thr) args s k (6 * k) A) w A maxL σ 0 0 0 (lv_args 0 av) []) : MXR l y ws n k w sA av σ post thr := by
  intro sz
  refine vx_ofW (cc := cc) (maxL := maxL) (ret := (some ret)) hy hw ?_
  intro p e s m args below meth c s₁ B hml htb hv
  obtain ⟨rfl, hsz, hP, hK, hD0, hX⟩ := hv
  subst hsz
  have hl := lv_entry av (n := maxL) hav
  rw [lg_entry_eq]
  exact body p e s m _ below meth c (aA w s.heap.size) ⟨⟨B.exec, B.bytes, hml, findClass_of_methodNamed B.named, atoms_spec (ws := ws) B.pre, hK, fun q h => Or.inr h⟩, hst, hX, htb⟩ B.returns B.notSynchronized s.heap [] _ hP (wd_self hD0) va_S.rf hl
section GXX
variable {p : Program} {l : Launch} {e : Env} {R : Room} {s : State} {m : MethodId} {args : Array Value} {below : List Frame} {meth : Method} {c : Code}
  {w : Wd} {sA : Nat → Nat} {A : Nat → Prop} {cc : ByteArray} {own : String} {nL : Nat} {Ts : List Cond} {σ : St} {cells slots pc mc ms : Nat} {lv : List (Nat × Value)} {rest : List Value} {thr : String → St → Prop}
theorem g_wid {Q : State → Prop} {k n : Nat} {st : List Value} (h1 : cells ≤ k) (h2 : slots ≤ n) (kk : G p l e R s m args below meth c Q w A nL σ k n pc lv st) : G p l e R s m args below meth c Q w A nL σ cells slots pc lv st := fun H locs ls hP hD hS hl => W.widen h1 h2 (kk H locs ls hP hD hS hl)
theorem g_xi {Qc : Array Value → State → Outcome → State → Prop} {XC : String → State → State → Prop} {st : List Value} (h1 : cells ≤ mc) (h2 : slots ≤ ms) (kk : G p l e R s m args below meth c (MQ below Qc args s mc ms A) w A nL σ mc ms pc lv st) : G p l e R s m args below meth c (vx_MQ below Qc XC args s mc ms A) w A nL σ cells slots pc lv st := fun H locs ls hP hD hS hl => vx_ret (W.widen h1 h2 (kk H locs ls hP hD hS hl))
theorem g_areturn (C : Cx p s m args c w A cc own nL Ts) {Cn : String} (hr : meth.sig.returnType = some (.object Cn)) (hlk : meth.locks = false) {id : Nat} {post : Nat × St → Prop} (hdg : decode cc pc = .ok (.areturn, 1)) (hp : post (id, σ)) : G p l e R s m args below meth c (MQ below (va_Qr post (WlR w A) A) args s cells slots A) w A nL σ cells slots pc lv [.ref (w.1 id)] :=
  fun H locs ls hP hD hS hl => W.aret C.1 C.2.1 hr (Or.inl ⟨_, rfl⟩) (Or.inr ⟨_, rfl⟩) (fun t ht hW => ⟨⟨(id, σ), w.1 id, rfl, hp, rfl, by rw [ht]; exact hP, va_K.moved hW.alike C.2.2.2.2.2.1, hD⟩, hS.F ht⟩) hS.2.2 hdg hlk
theorem xt_of {H : Heap} {locs : List Loc} {t : State} {E : String} (C : Cx p s m args c w A cc own nL Ts) (hP : va_P w.2.1 vwCl (wd w σ) H) (hD : va_D A (wd w σ)) (hS : va_S A s.heap H locs) (hvm : s.vm.Alike t.vm) (hz : H.size ≤ t.heap.size) (hk : ∀ q : Nat, q < H.size → t.heap[q]? = H[q]?) (ht : thr E σ) : XT w A thr E s t :=
  ⟨σ, trivial, ⟨ht, hP.kept (fun k q hq => hk q.1 (hP k q hq).lt), va_K.moved hvm C.2.2.2.2.2.1, hD⟩, Nat.le_trans hS.1 hz, fun q h1 h2 => by rw [hk q (Nat.lt_of_lt_of_le h1 hS.1)]; exact hS.2.1 q h1 h2⟩
theorem g_throw (X : CX p l s m args c w sA A cc RX10 nL Ts) (hlk : meth.locks = false) {cls text : String} {ik is ic : Nat} {Qc : Array Value → State → Outcome → State → Prop} (d0 : decode cc pc = .ok (.new ik, 3)) (d3 : decode cc (pc + 3) = .ok (.dup, 1)) (d4 : decode cc (pc + 4) = .ok (.ldc is, 2)) (d6 : decode cc (pc + 6) = .ok (.invokespecial ic, 3)) (d9 : decode cc (pc + 9) = .ok (.athrow, 1))
    (hstr : (is, text) ∈ strL) (hcls : Bundle.fit cls = true) (hk : Cond.classLink RX10 ik cls ∈ Ts) (hini : Cond.initialized cls ∈ Ts) (hg1 : ∀ u ∈ (vx_atS RX10 ic cls ["java/lang/RuntimeException", "java/lang/Exception"]).filter goodWord, u ∈ Ts) (hg2 : ∀ u ∈ (vx_atS RX10 ic cls ["java/lang/RuntimeException", "java/lang/Exception"]).filter (fun u => !goodWord u), u ∈ XB)
    (hot : ∀ u ∈ Cond.classLink RX10 ik cls :: Cond.initialized cls :: vx_atS RX10 ic cls ["java/lang/RuntimeException", "java/lang/Exception"], vx_ot u = true) (hRf : 5 < R.frames) (hRl : (rest.map fun v => v.category).sum + 82 ≤ R.locals) (hRc : cells + 1 ≤ R.cells) (hRs : slots + 6 ≤ R.slots) (hc : cells + 1 ≤ mc) (hs : slots + 6 ≤ ms) (ht : thr cls σ) : G p l e R s m args below meth c (vx_MQ below Qc (XT w A thr) args s mc ms A) w A nL σ cells slots pc lv rest :=
  fun H locs ls hP hD hS hl => vx_throwS (names := ["java/lang/RuntimeException", "java/lang/Exception"]) X.1.1 X.1.2.1 X.2.1 X.1.2.2.2.1 hcls (by decide +kernel) (X.1.2.2.2.2.1 _ hk) (X.1.2.2.2.2.1 _ hini) (X.2.2.1.2.2.1 _ hstr) (vx_hat (B := XB) (fun u hu => X.1.2.2.2.2.1 u (hg1 u hu)) hg2 (fun u hu => va_Nw.use (by revert u; decide +kernel) (X.2.2.1.2.2.2 u hu))) hot X.2.2.1.1 X.2.2.1.2.1 hS (by rw [hl.1, X.1.2.2.1]) d0 d3 d4 d6 d9 (fun x hx => absurd (X.2.2.2 x hx) (fun h => h)) (by show 2 + 3 < _; omega) (by show _ + (13 * (2 + 1) + 43) ≤ _; omega) hRc hRs hlk (fun t h1 h2 h3 => xt_of X.1 hP hD hS h1 h2 h3 ht) hS.2.2 hc hs
theorem g_throwW (X : CX p l s m args c w sA A cc RX10 nL Ts) (hlk : meth.locks = false) {cls text : String} {ik is ic : Nat} {Qc : Array Value → State → Outcome → State → Prop} (d0 : decode cc pc = .ok (.new ik, 3)) (d3 : decode cc (pc + 3) = .ok (.dup, 1)) (d4 : decode cc (pc + 4) = .ok (.ldc_w is, 3)) (d7 : decode cc (pc + 7) = .ok (.invokespecial ic, 3)) (d10 : decode cc (pc + 10) = .ok (.athrow, 1))
    (hstr : (is, text) ∈ strL) (hcls : Bundle.fit cls = true) (hk : Cond.classLink RX10 ik cls ∈ Ts) (hini : Cond.initialized cls ∈ Ts) (hg1 : ∀ u ∈ (vx_atS RX10 ic cls ["java/lang/RuntimeException", "java/lang/Exception"]).filter goodWord, u ∈ Ts) (hg2 : ∀ u ∈ (vx_atS RX10 ic cls ["java/lang/RuntimeException", "java/lang/Exception"]).filter (fun u => !goodWord u), u ∈ XB)
    (hot : ∀ u ∈ Cond.classLink RX10 ik cls :: Cond.initialized cls :: vx_atS RX10 ic cls ["java/lang/RuntimeException", "java/lang/Exception"], vx_ot u = true) (hRf : 5 < R.frames) (hRl : (rest.map fun v => v.category).sum + 82 ≤ R.locals) (hRc : cells + 1 ≤ R.cells) (hRs : slots + 6 ≤ R.slots) (hc : cells + 1 ≤ mc) (hs : slots + 6 ≤ ms) (ht : thr cls σ) : G p l e R s m args below meth c (vx_MQ below Qc (XT w A thr) args s mc ms A) w A nL σ cells slots pc lv rest :=
  fun H locs ls hP hD hS hl => vx_throwSW (names := ["java/lang/RuntimeException", "java/lang/Exception"]) X.1.1 X.1.2.1 X.2.1 X.1.2.2.2.1 hcls (by decide +kernel) (X.1.2.2.2.2.1 _ hk) (X.1.2.2.2.2.1 _ hini) (X.2.2.1.2.2.1 _ hstr) (vx_hat (B := XB) (fun u hu => X.1.2.2.2.2.1 u (hg1 u hu)) hg2 (fun u hu => va_Nw.use (by revert u; decide +kernel) (X.2.2.1.2.2.2 u hu))) hot X.2.2.1.1 X.2.2.1.2.1 hS (by rw [hl.1, X.1.2.2.1]) d0 d3 d4 d7 d10 (fun x hx => absurd (X.2.2.2 x hx) (fun h => h)) (by show 2 + 3 < _; omega) (by show _ + (13 * (2 + 1) + 43) ≤ _; omega) hRc hRs hlk (fun t h1 h2 h3 => xt_of X.1 hP hD hS h1 h2 h3 ht) hS.2.2 hc hs
theorem x_callVi {Qc : Array Value → State → Outcome → State → Prop} (X : CX p l s m args c w sA A cc own nL Ts) (hlk : meth.locks = false) {pc9 : Nat} (hpc : pc + 3 = pc9) (b : Nat) {ci : Nat} {fs : List Value} {q : vw_C} (As : List Value) {nn : Nat} (hnn : As.length = nn) {st : List Value} {index : Nat} {y : MethodName} {bytes : ByteArray} {maxL n k : Nat} {ret : Option FieldType} {ws ws9 : List Cond} {post : Int32 → St → Prop} {thr9 : String → St → Prop} (hdg : decode cc pc = .ok (.invokevirtual index, 3)) (hM : MXI l y ws n k w sA (.ref (w.1 b) :: As) σ post thr9) (hg : GoodIn Ts (wsV own index y.cls y ws)) (hb : b < 109) (hc : cel w σ b = .inr (ci, fs)) (hq : vwCl[ci]? = some q) (hq9 : q.1 = y.cls) (hw : ws = Cond.code y bytes maxL ret :: ws9) (hd : y.cls ≠ "java/lang/invoke/MethodHandle" ∧ y.cls ≠ "java/lang/invoke/VarHandle" ∧ (parseMethodDescriptor y.desc).map (fun d => d.parameters.length) = some nn) (hR : (rmX n k).frames + 1 ≤ R.frames ∧ 8 + (maxL + 11) + (rmX n k).locals ≤ R.locals) (hst : st = (As.reverse ++ .ref (w.1 b) :: rest)) (hcat : (rest.map fun v => v.category).sum ≤ 8) (hcr : cells + k ≤ R.cells ∧ slots + 6 * k ≤ R.slots) (hcx : cells + k ≤ mc ∧ slots + 6 * k ≤ ms) (hthr : ∀ E σ9, thr9 E σ9 → thr E σ9) (k9 : ∀ (r : Int32) (σ9 : St), post r σ9 → G p l e R s m args below meth c (vx_MQ below Qc (XT w A thr) args s mc ms A) w A nL σ9 (cells + k) (slots + 6 * k) pc9 lv (.int r :: rest)) : G p l e R s m args below meth c (vx_MQ below Qc (XT w A thr) args s mc ms A) w A nL σ cells slots pc lv st :=
  fun H locs ls hP hD hS hl => by
    subst hpc
    have C := X.1
    have hF := aA_in hD hS C.2.2.2.2.2.2
    refine vx_calli (vx_runV (C := y.cls) (As := As) (rest := rest) ⟨C.1, C.2.1, C.2.2.1, C.2.2.2.1, C.2.2.2.2.1⟩ (hM H.size) (cwV nn C.2.2.2.2.1 hg hw rfl rfl ⟨rfl, hd⟩ hR) ⟨PreX_blind, hq9 ▸ va_recv C.2.2.2.2.2.1 hP hq (by rw [wd_get hb, hc]), fun U hU hW => ⟨rfl, by rw [hU], by rw [hU]; exact hP, va_K.moved hW.alike C.2.2.2.2.2.1, hD.weaken (fun _ _ _ _ => trivial), X.2.2.1.next hW hU hS hF⟩⟩ rfl hnn hl.1 hst (lv_room hcat) hdg ⟨hcr.1, hcr.2⟩) hS (fun q _ h => hF q h) hF (fun q _ h => hF q h) (fun E ce q9 u t H1 locs1 ht hvm _ hB hz1 hk1 hS1 h6 h7 h8 => ?_) (fun r σ9 t H1 locs1 ht hvm hw9 hB hz1 hk1 hS1 => ?_)
    · obtain ⟨hth, hP1, hK1, hD1⟩ := hB
      rw [ht] at hP1
      exact vx_out (fun x hx => absurd (X.2.2.2 x hx) (fun h => h)) hlk h6 h7 h8 (fun t9 ht9 hvm9 => xt_of C hP1 (wd_DA hD) hS1 hvm9 (by rw [ht9]; exact Nat.le_refl _) (fun q _ => by rw [ht9]) (hthr E u hth)) hS1.2.2 hcx.1 hcx.2
    · obtain ⟨hP1, hK1, hD1⟩ := hB
      rw [ht] at hP1
      exact k9 r σ9 hw9 H1 locs1 ls hP1 (wd_DA hD) hS1 hl
theorem x_callSi {Qc : Array Value → State → Outcome → State → Prop} (X : CX p l s m args c w sA A cc own nL Ts) (hlk : meth.locks = false) {pc9 : Nat} (hpc : pc + 3 = pc9) (As : List Value) {nn : Nat} (hnn : As.length = nn) {st : List Value} {index : Nat} {y : MethodName} {bytes : ByteArray} {maxL n k : Nat} {ret : Option FieldType} {ws ws9 : List Cond} {post : Int32 → St → Prop} {thr9 : String → St → Prop} (hdg : decode cc pc = .ok (.invokestatic index, 3)) (hM : MXI l y ws n k w sA As σ post thr9) (hg : GoodIn Ts (va_wsS own index y ws)) (hw : ws = Cond.code y bytes maxL ret :: ws9) (hd : y.cls ≠ "java/lang/invoke/MethodHandle" ∧ y.cls ≠ "java/lang/invoke/VarHandle" ∧ (parseMethodDescriptor y.desc).map (fun d => d.parameters.length) = some nn) (hR : (rmX n k).frames + 1 ≤ R.frames ∧ 8 + (maxL + 11) + (rmX n k).locals ≤ R.locals) (hst : st = (As.reverse ++ rest)) (hcat : (rest.map fun v => v.category).sum ≤ 8) (hcr : cells + k ≤ R.cells ∧ slots + 6 * k ≤ R.slots) (hcx : cells + k ≤ mc ∧ slots + 6 * k ≤ ms) (hthr : ∀ E σ9, thr9 E σ9 → thr E σ9) (k9 : ∀ (r : Int32) (σ9 : St), post r σ9 → G p l e R s m args below meth c (vx_MQ below Qc (XT w A thr) args s mc ms A) w A nL σ9 (cells + k) (slots + 6 * k) pc9 lv (.int r :: rest)) : G p l e R s m args below meth c (vx_MQ below Qc (XT w A thr) args s mc ms A) w A nL σ cells slots pc lv st :=
  fun H locs ls hP hD hS hl => by
    subst hpc
    have C := X.1
    have hF := aA_in hD hS C.2.2.2.2.2.2
    refine vx_calli (vx_runS (As := As) (rest := rest) ⟨C.1, C.2.1, C.2.2.1, C.2.2.2.1, C.2.2.2.2.1⟩ (hM H.size) (va_cwS nn C.2.2.2.2.1 hg hw rfl rfl hd hR) ⟨PreX_blind, fun U hU hW => ⟨rfl, by rw [hU], by rw [hU]; exact hP, va_K.moved hW.alike C.2.2.2.2.2.1, hD.weaken (fun _ _ _ _ => trivial), X.2.2.1.next hW hU hS hF⟩⟩ rfl hnn hl.1 hst (lv_room hcat) hdg ⟨hcr.1, hcr.2⟩) hS (fun q _ h => hF q h) hF (fun q _ h => hF q h) (fun E ce q9 u t H1 locs1 ht hvm _ hB hz1 hk1 hS1 h6 h7 h8 => ?_) (fun r σ9 t H1 locs1 ht hvm hw9 hB hz1 hk1 hS1 => ?_)
    · obtain ⟨hth, hP1, hK1, hD1⟩ := hB
      rw [ht] at hP1
      exact vx_out (fun x hx => absurd (X.2.2.2 x hx) (fun h => h)) hlk h6 h7 h8 (fun t9 ht9 hvm9 => xt_of C hP1 (wd_DA hD) hS1 hvm9 (by rw [ht9]; exact Nat.le_refl _) (fun q _ => by rw [ht9]) (hthr E u hth)) hS1.2.2 hcx.1 hcx.2
    · obtain ⟨hP1, hK1, hD1⟩ := hB
      rw [ht] at hP1
      exact k9 r σ9 hw9 H1 locs1 ls hP1 (wd_DA hD) hS1 hl
theorem x_callVl {Qc : Array Value → State → Outcome → State → Prop} (X : CX p l s m args c w sA A cc own nL Ts) (hlk : meth.locks = false) {pc9 : Nat} (hpc : pc + 3 = pc9) (b : Nat) {ci : Nat} {fs : List Value} {q : vw_C} (As : List Value) {nn : Nat} (hnn : As.length = nn) {st : List Value} {index : Nat} {y : MethodName} {bytes : ByteArray} {maxL n k : Nat} {ret : Option FieldType} {ws ws9 : List Cond} {post : Int64 → St → Prop} {thr9 : String → St → Prop} (hdg : decode cc pc = .ok (.invokevirtual index, 3)) (hM : MXL l y ws n k w sA (.ref (w.1 b) :: As) σ post thr9) (hg : GoodIn Ts (wsV own index y.cls y ws)) (hb : b < 109) (hc : cel w σ b = .inr (ci, fs)) (hq : vwCl[ci]? = some q) (hq9 : q.1 = y.cls) (hw : ws = Cond.code y bytes maxL ret :: ws9) (hd : y.cls ≠ "java/lang/invoke/MethodHandle" ∧ y.cls ≠ "java/lang/invoke/VarHandle" ∧ (parseMethodDescriptor y.desc).map (fun d => d.parameters.length) = some nn) (hR : (rmX n k).frames + 1 ≤ R.frames ∧ 8 + (maxL + 11) + (rmX n k).locals ≤ R.locals) (hst : st = (As.reverse ++ .ref (w.1 b) :: rest)) (hcat : (rest.map fun v => v.category).sum ≤ 8) (hcr : cells + k ≤ R.cells ∧ slots + 6 * k ≤ R.slots) (hcx : cells + k ≤ mc ∧ slots + 6 * k ≤ ms) (hthr : ∀ E σ9, thr9 E σ9 → thr E σ9) (k9 : ∀ (r : Int64) (σ9 : St), post r σ9 → G p l e R s m args below meth c (vx_MQ below Qc (XT w A thr) args s mc ms A) w A nL σ9 (cells + k) (slots + 6 * k) pc9 lv (.long r :: rest)) : G p l e R s m args below meth c (vx_MQ below Qc (XT w A thr) args s mc ms A) w A nL σ cells slots pc lv st :=
  fun H locs ls hP hD hS hl => by
    subst hpc
    have C := X.1
    have hF := aA_in hD hS C.2.2.2.2.2.2
    refine vx_calll (vx_runV (C := y.cls) (As := As) (rest := rest) ⟨C.1, C.2.1, C.2.2.1, C.2.2.2.1, C.2.2.2.2.1⟩ (hM H.size) (cwV nn C.2.2.2.2.1 hg hw rfl rfl ⟨rfl, hd⟩ hR) ⟨PreX_blind, hq9 ▸ va_recv C.2.2.2.2.2.1 hP hq (by rw [wd_get hb, hc]), fun U hU hW => ⟨rfl, by rw [hU], by rw [hU]; exact hP, va_K.moved hW.alike C.2.2.2.2.2.1, hD.weaken (fun _ _ _ _ => trivial), X.2.2.1.next hW hU hS hF⟩⟩ rfl hnn hl.1 hst (lv_room hcat) hdg ⟨hcr.1, hcr.2⟩) hS (fun q _ h => hF q h) hF (fun q _ h => hF q h) (fun E ce q9 u t H1 locs1 ht hvm _ hB hz1 hk1 hS1 h6 h7 h8 => ?_) (fun r σ9 t H1 locs1 ht hvm hw9 hB hz1 hk1 hS1 => ?_)
    · obtain ⟨hth, hP1, hK1, hD1⟩ := hB
      rw [ht] at hP1
      exact vx_out (fun x hx => absurd (X.2.2.2 x hx) (fun h => h)) hlk h6 h7 h8 (fun t9 ht9 hvm9 => xt_of C hP1 (wd_DA hD) hS1 hvm9 (by rw [ht9]; exact Nat.le_refl _) (fun q _ => by rw [ht9]) (hthr E u hth)) hS1.2.2 hcx.1 hcx.2
    · obtain ⟨hP1, hK1, hD1⟩ := hB
      rw [ht] at hP1
      exact k9 r σ9 hw9 H1 locs1 ls hP1 (wd_DA hD) hS1 hl
theorem x_callSl {Qc : Array Value → State → Outcome → State → Prop} (X : CX p l s m args c w sA A cc own nL Ts) (hlk : meth.locks = false) {pc9 : Nat} (hpc : pc + 3 = pc9) (As : List Value) {nn : Nat} (hnn : As.length = nn) {st : List Value} {index : Nat} {y : MethodName} {bytes : ByteArray} {maxL n k : Nat} {ret : Option FieldType} {ws ws9 : List Cond} {post : Int64 → St → Prop} {thr9 : String → St → Prop} (hdg : decode cc pc = .ok (.invokestatic index, 3)) (hM : MXL l y ws n k w sA As σ post thr9) (hg : GoodIn Ts (va_wsS own index y ws)) (hw : ws = Cond.code y bytes maxL ret :: ws9) (hd : y.cls ≠ "java/lang/invoke/MethodHandle" ∧ y.cls ≠ "java/lang/invoke/VarHandle" ∧ (parseMethodDescriptor y.desc).map (fun d => d.parameters.length) = some nn) (hR : (rmX n k).frames + 1 ≤ R.frames ∧ 8 + (maxL + 11) + (rmX n k).locals ≤ R.locals) (hst : st = (As.reverse ++ rest)) (hcat : (rest.map fun v => v.category).sum ≤ 8) (hcr : cells + k ≤ R.cells ∧ slots + 6 * k ≤ R.slots) (hcx : cells + k ≤ mc ∧ slots + 6 * k ≤ ms) (hthr : ∀ E σ9, thr9 E σ9 → thr E σ9) (k9 : ∀ (r : Int64) (σ9 : St), post r σ9 → G p l e R s m args below meth c (vx_MQ below Qc (XT w A thr) args s mc ms A) w A nL σ9 (cells + k) (slots + 6 * k) pc9 lv (.long r :: rest)) : G p l e R s m args below meth c (vx_MQ below Qc (XT w A thr) args s mc ms A) w A nL σ cells slots pc lv st :=
  fun H locs ls hP hD hS hl => by
    subst hpc
    have C := X.1
    have hF := aA_in hD hS C.2.2.2.2.2.2
    refine vx_calll (vx_runS (As := As) (rest := rest) ⟨C.1, C.2.1, C.2.2.1, C.2.2.2.1, C.2.2.2.2.1⟩ (hM H.size) (va_cwS nn C.2.2.2.2.1 hg hw rfl rfl hd hR) ⟨PreX_blind, fun U hU hW => ⟨rfl, by rw [hU], by rw [hU]; exact hP, va_K.moved hW.alike C.2.2.2.2.2.1, hD.weaken (fun _ _ _ _ => trivial), X.2.2.1.next hW hU hS hF⟩⟩ rfl hnn hl.1 hst (lv_room hcat) hdg ⟨hcr.1, hcr.2⟩) hS (fun q _ h => hF q h) hF (fun q _ h => hF q h) (fun E ce q9 u t H1 locs1 ht hvm _ hB hz1 hk1 hS1 h6 h7 h8 => ?_) (fun r σ9 t H1 locs1 ht hvm hw9 hB hz1 hk1 hS1 => ?_)
    · obtain ⟨hth, hP1, hK1, hD1⟩ := hB
      rw [ht] at hP1
      exact vx_out (fun x hx => absurd (X.2.2.2 x hx) (fun h => h)) hlk h6 h7 h8 (fun t9 ht9 hvm9 => xt_of C hP1 (wd_DA hD) hS1 hvm9 (by rw [ht9]; exact Nat.le_refl _) (fun q _ => by rw [ht9]) (hthr E u hth)) hS1.2.2 hcx.1 hcx.2
    · obtain ⟨hP1, hK1, hD1⟩ := hB
      rw [ht] at hP1
      exact k9 r σ9 hw9 H1 locs1 ls hP1 (wd_DA hD) hS1 hl
theorem x_callVv {Qc : Array Value → State → Outcome → State → Prop} (X : CX p l s m args c w sA A cc own nL Ts) (hlk : meth.locks = false) {pc9 : Nat} (hpc : pc + 3 = pc9) (b : Nat) {ci : Nat} {fs : List Value} {q : vw_C} (As : List Value) {nn : Nat} (hnn : As.length = nn) {st : List Value} {index : Nat} {y : MethodName} {bytes : ByteArray} {maxL n k : Nat} {ret : Option FieldType} {ws ws9 : List Cond} {post : St → Prop} {thr9 : String → St → Prop} (hdg : decode cc pc = .ok (.invokevirtual index, 3)) (hM : MXV l y ws n k w sA (.ref (w.1 b) :: As) σ post thr9) (hg : GoodIn Ts (wsV own index y.cls y ws)) (hb : b < 109) (hc : cel w σ b = .inr (ci, fs)) (hq : vwCl[ci]? = some q) (hq9 : q.1 = y.cls) (hw : ws = Cond.code y bytes maxL ret :: ws9) (hd : y.cls ≠ "java/lang/invoke/MethodHandle" ∧ y.cls ≠ "java/lang/invoke/VarHandle" ∧ (parseMethodDescriptor y.desc).map (fun d => d.parameters.length) = some nn) (hR : (rmX n k).frames + 1 ≤ R.frames ∧ 8 + (maxL + 11) + (rmX n k).locals ≤ R.locals) (hst : st = (As.reverse ++ .ref (w.1 b) :: rest)) (hcat : (rest.map fun v => v.category).sum ≤ 8) (hcr : cells + k ≤ R.cells ∧ slots + 6 * k ≤ R.slots) (hcx : cells + k ≤ mc ∧ slots + 6 * k ≤ ms) (hthr : ∀ E σ9, thr9 E σ9 → thr E σ9) (k9 : ∀ (σ9 : St), post σ9 → G p l e R s m args below meth c (vx_MQ below Qc (XT w A thr) args s mc ms A) w A nL σ9 (cells + k) (slots + 6 * k) pc9 lv (rest)) : G p l e R s m args below meth c (vx_MQ below Qc (XT w A thr) args s mc ms A) w A nL σ cells slots pc lv st :=
  fun H locs ls hP hD hS hl => by
    subst hpc
    have C := X.1
    have hF := aA_in hD hS C.2.2.2.2.2.2
    refine vx_callv (vx_runV (C := y.cls) (As := As) (rest := rest) ⟨C.1, C.2.1, C.2.2.1, C.2.2.2.1, C.2.2.2.2.1⟩ (hM H.size) (cwV nn C.2.2.2.2.1 hg hw rfl rfl ⟨rfl, hd⟩ hR) ⟨PreX_blind, hq9 ▸ va_recv C.2.2.2.2.2.1 hP hq (by rw [wd_get hb, hc]), fun U hU hW => ⟨rfl, by rw [hU], by rw [hU]; exact hP, va_K.moved hW.alike C.2.2.2.2.2.1, hD.weaken (fun _ _ _ _ => trivial), X.2.2.1.next hW hU hS hF⟩⟩ rfl hnn hl.1 hst (lv_room hcat) hdg ⟨hcr.1, hcr.2⟩) hS (fun q _ h => hF q h) hF (fun q _ h => hF q h) (fun E ce q9 u t H1 locs1 ht hvm _ hB hz1 hk1 hS1 h6 h7 h8 => ?_) (fun σ9 t H1 locs1 ht hvm hw9 hB hz1 hk1 hS1 => ?_)
    · obtain ⟨hth, hP1, hK1, hD1⟩ := hB
      rw [ht] at hP1
      exact vx_out (fun x hx => absurd (X.2.2.2 x hx) (fun h => h)) hlk h6 h7 h8 (fun t9 ht9 hvm9 => xt_of C hP1 (wd_DA hD) hS1 hvm9 (by rw [ht9]; exact Nat.le_refl _) (fun q _ => by rw [ht9]) (hthr E u hth)) hS1.2.2 hcx.1 hcx.2
    · obtain ⟨hP1, hK1, hD1⟩ := hB
      rw [ht] at hP1
      exact k9 σ9 hw9 H1 locs1 ls hP1 (wd_DA hD) hS1 hl
theorem x_callSv {Qc : Array Value → State → Outcome → State → Prop} (X : CX p l s m args c w sA A cc own nL Ts) (hlk : meth.locks = false) {pc9 : Nat} (hpc : pc + 3 = pc9) (As : List Value) {nn : Nat} (hnn : As.length = nn) {st : List Value} {index : Nat} {y : MethodName} {bytes : ByteArray} {maxL n k : Nat} {ret : Option FieldType} {ws ws9 : List Cond} {post : St → Prop} {thr9 : String → St → Prop} (hdg : decode cc pc = .ok (.invokestatic index, 3)) (hM : MXV l y ws n k w sA As σ post thr9) (hg : GoodIn Ts (va_wsS own index y ws)) (hw : ws = Cond.code y bytes maxL ret :: ws9) (hd : y.cls ≠ "java/lang/invoke/MethodHandle" ∧ y.cls ≠ "java/lang/invoke/VarHandle" ∧ (parseMethodDescriptor y.desc).map (fun d => d.parameters.length) = some nn) (hR : (rmX n k).frames + 1 ≤ R.frames ∧ 8 + (maxL + 11) + (rmX n k).locals ≤ R.locals) (hst : st = (As.reverse ++ rest)) (hcat : (rest.map fun v => v.category).sum ≤ 8) (hcr : cells + k ≤ R.cells ∧ slots + 6 * k ≤ R.slots) (hcx : cells + k ≤ mc ∧ slots + 6 * k ≤ ms) (hthr : ∀ E σ9, thr9 E σ9 → thr E σ9) (k9 : ∀ (σ9 : St), post σ9 → G p l e R s m args below meth c (vx_MQ below Qc (XT w A thr) args s mc ms A) w A nL σ9 (cells + k) (slots + 6 * k) pc9 lv (rest)) : G p l e R s m args below meth c (vx_MQ below Qc (XT w A thr) args s mc ms A) w A nL σ cells slots pc lv st :=
  fun H locs ls hP hD hS hl => by
    subst hpc
    have C := X.1
    have hF := aA_in hD hS C.2.2.2.2.2.2
    refine vx_callv (vx_runS (As := As) (rest := rest) ⟨C.1, C.2.1, C.2.2.1, C.2.2.2.1, C.2.2.2.2.1⟩ (hM H.size) (va_cwS nn C.2.2.2.2.1 hg hw rfl rfl hd hR) ⟨PreX_blind, fun U hU hW => ⟨rfl, by rw [hU], by rw [hU]; exact hP, va_K.moved hW.alike C.2.2.2.2.2.1, hD.weaken (fun _ _ _ _ => trivial), X.2.2.1.next hW hU hS hF⟩⟩ rfl hnn hl.1 hst (lv_room hcat) hdg ⟨hcr.1, hcr.2⟩) hS (fun q _ h => hF q h) hF (fun q _ h => hF q h) (fun E ce q9 u t H1 locs1 ht hvm _ hB hz1 hk1 hS1 h6 h7 h8 => ?_) (fun σ9 t H1 locs1 ht hvm hw9 hB hz1 hk1 hS1 => ?_)
    · obtain ⟨hth, hP1, hK1, hD1⟩ := hB
      rw [ht] at hP1
      exact vx_out (fun x hx => absurd (X.2.2.2 x hx) (fun h => h)) hlk h6 h7 h8 (fun t9 ht9 hvm9 => xt_of C hP1 (wd_DA hD) hS1 hvm9 (by rw [ht9]; exact Nat.le_refl _) (fun q _ => by rw [ht9]) (hthr E u hth)) hS1.2.2 hcx.1 hcx.2
    · obtain ⟨hP1, hK1, hD1⟩ := hB
      rw [ht] at hP1
      exact k9 σ9 hw9 H1 locs1 ls hP1 (wd_DA hD) hS1 hl
end GXX

abbrev xIOB : String := "java/lang/IndexOutOfBoundsException"
abbrev xISE : String := "java/lang/IllegalStateException"
abbrev xIAE : String := "java/lang/IllegalArgumentException"
abbrev xUOE : String := "java/lang/UnsupportedOperationException"
abbrev xNSE : String := "java/util/NoSuchElementException"
abbrev strL : List (Nat × String) := [(111, "the tape has a fault"), (169, "nothing such to look at"), (190, "two kinds are one"), (192, "the tree has not all three"), (202, "the tree has none of these kinds"), (231, "no more triples"), (248, "no set of kinds"), (251, "no more signs"), (269, "no such state"), (275, "not so many kinds can count"), (280, "the kinds are one"), (283, "no such distance"), (315, "no such shelf"), (318, "no such kind"), (320, "no such row"), (322, "no set of kinds, or an empty one"), (324, "no shelf, or one that there is not"), (328, "the kinds are not the same"), (331, "the shelf has no tree"), (333, "the tree is not plain"), (340, "a tree is not binary"), (342, "a kind of the genes is missing")]
abbrev XB : List Cond := [.declares (Bundle.initS "java/lang/RuntimeException"), .declares (Bundle.initS "java/lang/Exception"), .declares (Bundle.initS Bundle.tN), .castable xIOB xIOB, .castable xISE xISE, .castable xIAE xIAE, .castable xUOE xUOE, .castable xNSE xNSE]
/-- what a throw needs of a state: Throwable's two statics, the texts, some words -/
def XF (sA : Nat → Nat) (A : Nat → Prop) (U : State) (H : Heap) : Prop := vx_Zq Bundle.tN "UNASSIGNED_STACK" Bundle.steD A U H ∧ vx_Zq Bundle.tN "SUPPRESSED_SENTINEL" Bundle.listD A U H ∧ (∀ q ∈ strL, vk_R RX10 q.1 q.2 (sA q.1) U) ∧ ∀ u ∈ XB, va_Nw u U
theorem XB_warm {s U : State} (hW : s.WarmedH U.vm) {u : Cond} (hu : u ∈ XB) (h : va_Nw u s) : va_Nw u U := by
  simp only [XB, List.mem_cons, List.not_mem_nil, or_false] at hu
  rcases hu with rfl | rfl | rfl | rfl | rfl | rfl | rfl | rfl
  · exact va_Nw.warmD hW h
  · exact va_Nw.warmD hW h
  · exact va_Nw.warmD hW h
  · exact va_Nw.warmC hW h
  · exact va_Nw.warmC hW h
  · exact va_Nw.warmC hW h
  · exact va_Nw.warmC hW h
  · exact va_Nw.warmC hW h
theorem XF.next {sA : Nat → Nat} {A B : Nat → Prop} {s U : State} {H : Heap} {locs : List Loc} (h : XF sA A s s.heap) (hW : s.WarmedH U.vm) (hU : U.heap = H) (hS : va_S A s.heap H locs) (hB : ∀ q, B q → A q) : XF sA B U U.heap := by
  rw [hU]
  exact ⟨((h.1.kept (fun a h1 h2 => hS.2.1 a h1 h2)).moved hW.alike).narrow hB, ((h.2.1.kept (fun a h1 h2 => hS.2.1 a h1 h2)).moved hW.alike).narrow hB, fun q hq => (h.2.2.1 q hq).warm hW, fun u hu => XB_warm hW hu (h.2.2.2 u hu)⟩
abbrev rmX (n k : Nat) : Room := { frames := n, cells := k, slots := 6 * k, locals := 40 * n }
def PreX (w : Wd) (sA : Nat → Nat) (σ : St) (sz : Nat) (av : List Value) : Array Value → State → Prop := va_Pc av (fun U => U.heap.size = sz ∧ va_P w.2.1 vwCl (wd w σ) U.heap ∧ va_K w.2.1 vwCl (wTys w) U ∧ va_D (fun _ => True) (wd w σ) ∧ XF sA (aA w sz) U U.heap)
theorem PreX_blind {w : Wd} {sA : Nat → Nat} {σ : St} {sz : Nat} {av : List Value} : FrameBlind (PreX w sA σ sz av) := fun a U g mk q => by
  obtain ⟨q0, q1, qP, qK, qD, h1, h2, h3, h4⟩ := q
  exact ⟨q0, q1, qP, va_K.moved (u := U) (U := U.calling g mk a) (Vm.Alike.refl U.vm) qK, qD, h1.moved (U := U.calling g mk a) (Vm.Alike.refl U.vm), h2.moved (U := U.calling g mk a) (Vm.Alike.refl U.vm), fun q hq => (h3 q hq).same (u := U) (U := U.calling g mk a) rfl, fun u hu => va_Nw.same (u := U) (U := U.calling g mk a) (by revert u; decide +kernel) rfl (h4 u hu)⟩
abbrev XT (w : Wd) (A : Nat → Prop) (thr : String → St → Prop) : String → State → State → Prop := vx_X (S := St) (fun _ => True) (fun E σ t => thr E σ ∧ Wl w A σ t) A
def CX (p : Program) (l : Launch) (s : State) (m : MethodId) (args : Array Value) (c : Code) (w : Wd) (sA : Nat → Nat) (A : Nat → Prop) (cc : ByteArray) (own : String) (nL : Nat) (Ts : List Cond) : Prop := Cx p s m args c w A cc own nL Ts ∧ l.stackTraces = false ∧ XF sA A s s.heap ∧ ∀ x ∈ c.exceptionTable.toList, False
def MXI (l : Launch) (y : MethodName) (ws : List Cond) (n k : Nat) (w : Wd) (sA : Nat → Nat) (av : List Value) (σ : St) (post : Int32 → St → Prop) (thr : String → St → Prop) : Prop := ∀ sz, vx_Met l y ws (rmX n k) (PreX w sA σ sz av) (va_Qi post (Wl w (aA w sz)) (aA w sz)) (XT w (aA w sz) thr) k (6 * k) (aA w sz)
theorem MXI_of {l : Launch} (hst : l.stackTraces = false) {y : MethodName} {cc : ByteArray} {maxL : Nat} {ret : FieldType} {ws ws9 : List Cond} {n k : Nat} {w : Wd} {sA : Nat → Nat} {av : List Value} {σ : St} {post : Int32 → St → Prop} {thr : String → St → Prop} (hy : plainName y.cls = true) (hw : ws = Cond.code y cc maxL (some ret) :: ws9) (hav : (lg_sl av).length ≤ maxL)
    (body : ∀ (p : Program) (e : Env) (s : State) (m : MethodId) (args : Array Value) (below : List Frame) (meth : Method) (c : Code) (A : Nat → Prop), CX p l s m args c w sA A cc y.cls maxL ws → meth.sig.returnType = (some ret) → meth.locks = false → G p l e (rmX n k) s m args below meth c (vx_MQ below (va_Qi post (Wl w A) A) (XT w A thr) args s k (6 * k) A) w A maxL σ 0 0 0 (lv_args 0 av) []) : MXI l y ws n k w sA av σ post thr := by
  intro sz
  refine vx_ofW (cc := cc) (maxL := maxL) (ret := (some ret)) hy hw ?_
  intro p e s m args below meth c s₁ B hml htb hv
  obtain ⟨rfl, hsz, hP, hK, hD0, hX⟩ := hv
  subst hsz
  have hl := lv_entry av (n := maxL) hav
  rw [lg_entry_eq]
  exact body p e s m _ below meth c (aA w s.heap.size) ⟨⟨B.exec, B.bytes, hml, findClass_of_methodNamed B.named, atoms_spec (ws := ws) B.pre, hK, fun q h => Or.inr h⟩, hst, hX, htb⟩ B.returns B.notSynchronized s.heap [] _ hP (wd_self hD0) va_S.rf hl
def MXL (l : Launch) (y : MethodName) (ws : List Cond) (n k : Nat) (w : Wd) (sA : Nat → Nat) (av : List Value) (σ : St) (post : Int64 → St → Prop) (thr : String → St → Prop) : Prop := ∀ sz, vx_Met l y ws (rmX n k) (PreX w sA σ sz av) (va_Ql post (Wl w (aA w sz)) (aA w sz)) (XT w (aA w sz) thr) k (6 * k) (aA w sz)
theorem MXL_of {l : Launch} (hst : l.stackTraces = false) {y : MethodName} {cc : ByteArray} {maxL : Nat} {ret : FieldType} {ws ws9 : List Cond} {n k : Nat} {w : Wd} {sA : Nat → Nat} {av : List Value} {σ : St} {post : Int64 → St → Prop} {thr : String → St → Prop} (hy : plainName y.cls = true) (hw : ws = Cond.code y cc maxL (some ret) :: ws9) (hav : (lg_sl av).length ≤ maxL)
    (body : ∀ (p : Program) (e : Env) (s : State) (m : MethodId) (args : Array Value) (below : List Frame) (meth : Method) (c : Code) (A : Nat → Prop), CX p l s m args c w sA A cc y.cls maxL ws → meth.sig.returnType = (some ret) → meth.locks = false → G p l e (rmX n k) s m args below meth c (vx_MQ below (va_Ql post (Wl w A) A) (XT w A thr) args s k (6 * k) A) w A maxL σ 0 0 0 (lv_args 0 av) []) : MXL l y ws n k w sA av σ post thr := by
  intro sz
  refine vx_ofW (cc := cc) (maxL := maxL) (ret := (some ret)) hy hw ?_
  intro p e s m args below meth c s₁ B hml htb hv
  obtain ⟨rfl, hsz, hP, hK, hD0, hX⟩ := hv
  subst hsz
  have hl := lv_entry av (n := maxL) hav
  rw [lg_entry_eq]
  exact body p e s m _ below meth c (aA w s.heap.size) ⟨⟨B.exec, B.bytes, hml, findClass_of_methodNamed B.named, atoms_spec (ws := ws) B.pre, hK, fun q h => Or.inr h⟩, hst, hX, htb⟩ B.returns B.notSynchronized s.heap [] _ hP (wd_self hD0) va_S.rf hl
def MXV (l : Launch) (y : MethodName) (ws : List Cond) (n k : Nat) (w : Wd) (sA : Nat → Nat) (av : List Value) (σ : St) (post : St → Prop) (thr : String → St → Prop) : Prop := ∀ sz, vx_Met l y ws (rmX n k) (PreX w sA σ sz av) (va_Qv post (Wl w (aA w sz)) (aA w sz)) (XT w (aA w sz) thr) k (6 * k) (aA w sz)
theorem MXV_of {l : Launch} (hst : l.stackTraces = false) {y : MethodName} {cc : ByteArray} {maxL : Nat} {ws ws9 : List Cond} {n k : Nat} {w : Wd} {sA : Nat → Nat} {av : List Value} {σ : St} {post : St → Prop} {thr : String → St → Prop} (hy : plainName y.cls = true) (hw : ws = Cond.code y cc maxL none :: ws9) (hav : (lg_sl av).length ≤ maxL)
    (body : ∀ (p : Program) (e : Env) (s : State) (m : MethodId) (args : Array Value) (below : List Frame) (meth : Method) (c : Code) (A : Nat → Prop), CX p l s m args c w sA A cc y.cls maxL ws → meth.sig.returnType = none → meth.locks = false → G p l e (rmX n k) s m args below meth c (vx_MQ below (va_Qv post (Wl w A) A) (XT w A thr) args s k (6 * k) A) w A maxL σ 0 0 0 (lv_args 0 av) []) : MXV l y ws n k w sA av σ post thr := by
  intro sz
  refine vx_ofW (cc := cc) (maxL := maxL) (ret := none) hy hw ?_
  intro p e s m args below meth c s₁ B hml htb hv
  obtain ⟨rfl, hsz, hP, hK, hD0, hX⟩ := hv
  subst hsz
  have hl := lv_entry av (n := maxL) hav
  rw [lg_entry_eq]
  exact body p e s m _ below meth c (aA w s.heap.size) ⟨⟨B.exec, B.bytes, hml, findClass_of_methodNamed B.named, atoms_spec (ws := ws) B.pre, hK, fun q h => Or.inr h⟩, hst, hX, htb⟩ B.returns B.notSynchronized s.heap [] _ hP (wd_self hD0) va_S.rf hl
def MXR (l : Launch) (y : MethodName) (ws : List Cond) (n k : Nat) (w : Wd) (sA : Nat → Nat) (av : List Value) (σ : St) (post : Nat × St → Prop) (thr : String → St → Prop) : Prop := ∀ sz, vx_Met l y ws (rmX n k) (PreX w sA σ sz av) (va_Qr post (WlR w (aA w sz)) (aA w sz)) (XT w (aA w sz) thr) k (6 * k) (aA w sz)
theorem MXR_of {l : Launch} (hst : l.stackTraces = false) {y : MethodName} {cc : ByteArray} {maxL : Nat} {ret : FieldType} {ws ws9 : List Cond} {n k : Nat} {w : Wd} {sA : Nat → Nat} {av : List Value} {σ : St} {post : Nat × St → Prop} {thr : String → St → Prop} (hy : plainName y.cls = true) (hw : ws = Cond.code y cc maxL (some ret) :: ws9) (hav : (lg_sl av).length ≤ maxL)
    (body : ∀ (p : Program) (e : Env) (s : State) (m : MethodId) (args : Array Value) (below : List Frame) (meth : Method) (c : Code) (A : Nat → Prop), CX p l s m args c w sA A cc y.cls maxL ws → meth.sig.returnType = (some ret) → meth.locks = false → G p l e (rmX n k) s m args below meth c (vx_MQ below (va_Qr post (WlR w A) A) (XT w A thr) args s k (6 * k) A) w A maxL σ 0 0 0 (lv_args 0 av) []) : MXR l y ws n k w sA av σ post thr := by
  intro sz
  refine vx_ofW (cc := cc) (maxL := maxL) (ret := (some ret)) hy hw ?_
  intro p e s m args below meth c s₁ B hml htb hv
  obtain ⟨rfl, hsz, hP, hK, hD0, hX⟩ := hv
  subst hsz
  have hl := lv_entry av (n := maxL) hav
  rw [lg_entry_eq]
  exact body p e s m _ below meth c (aA w s.heap.size) ⟨⟨B.exec, B.bytes, hml, findClass_of_methodNamed B.named, atoms_spec (ws := ws) B.pre, hK, fun q h => Or.inr h⟩, hst, hX, htb⟩ B.returns B.notSynchronized s.heap [] _ hP (wd_self hD0) va_S.rf hl
section GXX
variable {p : Program} {l : Launch} {e : Env} {R : Room} {s : State} {m : MethodId} {args : Array Value} {below : List Frame} {meth : Method} {c : Code}
  {w : Wd} {sA : Nat → Nat} {A : Nat → Prop} {cc : ByteArray} {own : String} {nL : Nat} {Ts : List Cond} {σ : St} {cells slots pc mc ms : Nat} {lv : List (Nat × Value)} {rest : List Value} {thr : String → St → Prop}
theorem g_wid {Q : State → Prop} {k n : Nat} {st : List Value} (h1 : cells ≤ k) (h2 : slots ≤ n) (kk : G p l e R s m args below meth c Q w A nL σ k n pc lv st) : G p l e R s m args below meth c Q w A nL σ cells slots pc lv st := fun H locs ls hP hD hS hl => W.widen h1 h2 (kk H locs ls hP hD hS hl)
theorem g_xi {Qc : Array Value → State → Outcome → State → Prop} {XC : String → State → State → Prop} {st : List Value} (h1 : cells ≤ mc) (h2 : slots ≤ ms) (kk : G p l e R s m args below meth c (MQ below Qc args s mc ms A) w A nL σ mc ms pc lv st) : G p l e R s m args below meth c (vx_MQ below Qc XC args s mc ms A) w A nL σ cells slots pc lv st := fun H locs ls hP hD hS hl => vx_ret (W.widen h1 h2 (kk H locs ls hP hD hS hl))
theorem g_areturn (C : Cx p s m args c w A cc own nL Ts) {Cn : String} (hr : meth.sig.returnType = some (.object Cn)) (hlk : meth.locks = false) {id : Nat} {post : Nat × St → Prop} (hdg : decode cc pc = .ok (.areturn, 1)) (hp : post (id, σ)) : G p l e R s m args below meth c (MQ below (va_Qr post (WlR w A) A) args s cells slots A) w A nL σ cells slots pc lv [.ref (w.1 id)] :=
  fun H locs ls hP hD hS hl => W.aret C.1 C.2.1 hr (Or.inl ⟨_, rfl⟩) (Or.inr ⟨_, rfl⟩) (fun t ht hW => ⟨⟨(id, σ), w.1 id, rfl, hp, rfl, by rw [ht]; exact hP, va_K.moved hW.alike C.2.2.2.2.2.1, hD⟩, hS.F ht⟩) hS.2.2 hdg hlk
theorem xt_of {H : Heap} {locs : List Loc} {t : State} {E : String} (C : Cx p s m args c w A cc own nL Ts) (hP : va_P w.2.1 vwCl (wd w σ) H) (hD : va_D A (wd w σ)) (hS : va_S A s.heap H locs) (hvm : s.vm.Alike t.vm) (hz : H.size ≤ t.heap.size) (hk : ∀ q : Nat, q < H.size → t.heap[q]? = H[q]?) (ht : thr E σ) : XT w A thr E s t :=
  ⟨σ, trivial, ⟨ht, hP.kept (fun k q hq => hk q.1 (hP k q hq).lt), va_K.moved hvm C.2.2.2.2.2.1, hD⟩, Nat.le_trans hS.1 hz, fun q h1 h2 => by rw [hk q (Nat.lt_of_lt_of_le h1 hS.1)]; exact hS.2.1 q h1 h2⟩
theorem g_throw (X : CX p l s m args c w sA A cc RX10 nL Ts) (hlk : meth.locks = false) {cls text : String} {ik is ic : Nat} {Qc : Array Value → State → Outcome → State → Prop} (d0 : decode cc pc = .ok (.new ik, 3)) (d3 : decode cc (pc + 3) = .ok (.dup, 1)) (d4 : decode cc (pc + 4) = .ok (.ldc is, 2)) (d6 : decode cc (pc + 6) = .ok (.invokespecial ic, 3)) (d9 : decode cc (pc + 9) = .ok (.athrow, 1))
    (hstr : (is, text) ∈ strL) (hcls : Bundle.fit cls = true) (hk : Cond.classLink RX10 ik cls ∈ Ts) (hini : Cond.initialized cls ∈ Ts) (hg1 : ∀ u ∈ (vx_atS RX10 ic cls ["java/lang/RuntimeException", "java/lang/Exception"]).filter goodWord, u ∈ Ts) (hg2 : ∀ u ∈ (vx_atS RX10 ic cls ["java/lang/RuntimeException", "java/lang/Exception"]).filter (fun u => !goodWord u), u ∈ XB)
    (hot : ∀ u ∈ Cond.classLink RX10 ik cls :: Cond.initialized cls :: vx_atS RX10 ic cls ["java/lang/RuntimeException", "java/lang/Exception"], vx_ot u = true) (hRf : 5 < R.frames) (hRl : (rest.map fun v => v.category).sum + 82 ≤ R.locals) (hRc : cells + 1 ≤ R.cells) (hRs : slots + 6 ≤ R.slots) (hc : cells + 1 ≤ mc) (hs : slots + 6 ≤ ms) (ht : thr cls σ) : G p l e R s m args below meth c (vx_MQ below Qc (XT w A thr) args s mc ms A) w A nL σ cells slots pc lv rest :=
  fun H locs ls hP hD hS hl => vx_throwS (names := ["java/lang/RuntimeException", "java/lang/Exception"]) X.1.1 X.1.2.1 X.2.1 X.1.2.2.2.1 hcls (by decide +kernel) (X.1.2.2.2.2.1 _ hk) (X.1.2.2.2.2.1 _ hini) (X.2.2.1.2.2.1 _ hstr) (vx_hat (B := XB) (fun u hu => X.1.2.2.2.2.1 u (hg1 u hu)) hg2 (fun u hu => va_Nw.use (by revert u; decide +kernel) (X.2.2.1.2.2.2 u hu))) hot X.2.2.1.1 X.2.2.1.2.1 hS (by rw [hl.1, X.1.2.2.1]) d0 d3 d4 d6 d9 (fun x hx => absurd (X.2.2.2 x hx) (fun h => h)) (by show 2 + 3 < _; omega) (by show _ + (13 * (2 + 1) + 43) ≤ _; omega) hRc hRs hlk (fun t h1 h2 h3 => xt_of X.1 hP hD hS h1 h2 h3 ht) hS.2.2 hc hs
theorem g_throwW (X : CX p l s m args c w sA A cc RX10 nL Ts) (hlk : meth.locks = false) {cls text : String} {ik is ic : Nat} {Qc : Array Value → State → Outcome → State → Prop} (d0 : decode cc pc = .ok (.new ik, 3)) (d3 : decode cc (pc + 3) = .ok (.dup, 1)) (d4 : decode cc (pc + 4) = .ok (.ldc_w is, 3)) (d7 : decode cc (pc + 7) = .ok (.invokespecial ic, 3)) (d10 : decode cc (pc + 10) = .ok (.athrow, 1))
    (hstr : (is, text) ∈ strL) (hcls : Bundle.fit cls = true) (hk : Cond.classLink RX10 ik cls ∈ Ts) (hini : Cond.initialized cls ∈ Ts) (hg1 : ∀ u ∈ (vx_atS RX10 ic cls ["java/lang/RuntimeException", "java/lang/Exception"]).filter goodWord, u ∈ Ts) (hg2 : ∀ u ∈ (vx_atS RX10 ic cls ["java/lang/RuntimeException", "java/lang/Exception"]).filter (fun u => !goodWord u), u ∈ XB)
    (hot : ∀ u ∈ Cond.classLink RX10 ik cls :: Cond.initialized cls :: vx_atS RX10 ic cls ["java/lang/RuntimeException", "java/lang/Exception"], vx_ot u = true) (hRf : 5 < R.frames) (hRl : (rest.map fun v => v.category).sum + 82 ≤ R.locals) (hRc : cells + 1 ≤ R.cells) (hRs : slots + 6 ≤ R.slots) (hc : cells + 1 ≤ mc) (hs : slots + 6 ≤ ms) (ht : thr cls σ) : G p l e R s m args below meth c (vx_MQ below Qc (XT w A thr) args s mc ms A) w A nL σ cells slots pc lv rest :=
  fun H locs ls hP hD hS hl => vx_throwSW (names := ["java/lang/RuntimeException", "java/lang/Exception"]) X.1.1 X.1.2.1 X.2.1 X.1.2.2.2.1 hcls (by decide +kernel) (X.1.2.2.2.2.1 _ hk) (X.1.2.2.2.2.1 _ hini) (X.2.2.1.2.2.1 _ hstr) (vx_hat (B := XB) (fun u hu => X.1.2.2.2.2.1 u (hg1 u hu)) hg2 (fun u hu => va_Nw.use (by revert u; decide +kernel) (X.2.2.1.2.2.2 u hu))) hot X.2.2.1.1 X.2.2.1.2.1 hS (by rw [hl.1, X.1.2.2.1]) d0 d3 d4 d7 d10 (fun x hx => absurd (X.2.2.2 x hx) (fun h => h)) (by show 2 + 3 < _; omega) (by show _ + (13 * (2 + 1) + 43) ≤ _; omega) hRc hRs hlk (fun t h1 h2 h3 => xt_of X.1 hP hD hS h1 h2 h3 ht) hS.2.2 hc hs
theorem x_callVi {Qc : Array Value → State → Outcome → State → Prop} (X : CX p l s m args c w sA A cc own nL Ts) (hlk : meth.locks = false) {pc9 : Nat} (hpc : pc + 3 = pc9) (b : Nat) {ci : Nat} {fs : List Value} {q : vw_C} (As : List Value) {nn : Nat} (hnn : As.length = nn) {st : List Value} {index : Nat} {y : MethodName} {bytes : ByteArray} {maxL n k : Nat} {ret : Option FieldType} {ws ws9 : List Cond} {post : Int32 → St → Prop} {thr9 : String → St → Prop} (hdg : decode cc pc = .ok (.invokevirtual index, 3)) (hM : MXI l y ws n k w sA (.ref (w.1 b) :: As) σ post thr9) (hg : GoodIn Ts (wsV own index y.cls y ws)) (hb : b < 109) (hc : cel w σ b = .inr (ci, fs)) (hq : vwCl[ci]? = some q) (hq9 : q.1 = y.cls) (hw : ws = Cond.code y bytes maxL ret :: ws9) (hd : y.cls ≠ "java/lang/invoke/MethodHandle" ∧ y.cls ≠ "java/lang/invoke/VarHandle" ∧ (parseMethodDescriptor y.desc).map (fun d => d.parameters.length) = some nn) (hR : (rmX n k).frames + 1 ≤ R.frames ∧ 8 + (maxL + 11) + (rmX n k).locals ≤ R.locals) (hst : st = (As.reverse ++ .ref (w.1 b) :: rest)) (hcat : (rest.map fun v => v.category).sum ≤ 8) (hcr : cells + k ≤ R.cells ∧ slots + 6 * k ≤ R.slots) (hcx : cells + k ≤ mc ∧ slots + 6 * k ≤ ms) (hthr : ∀ E σ9, thr9 E σ9 → thr E σ9) (k9 : ∀ (r : Int32) (σ9 : St), post r σ9 → G p l e R s m args below meth c (vx_MQ below Qc (XT w A thr) args s mc ms A) w A nL σ9 (cells + k) (slots + 6 * k) pc9 lv (.int r :: rest)) : G p l e R s m args below meth c (vx_MQ below Qc (XT w A thr) args s mc ms A) w A nL σ cells slots pc lv st :=
  fun H locs ls hP hD hS hl => by
    subst hpc
    have C := X.1
    have hF := aA_in hD hS C.2.2.2.2.2.2
    refine vx_calli (vx_runV (C := y.cls) (As := As) (rest := rest) ⟨C.1, C.2.1, C.2.2.1, C.2.2.2.1, C.2.2.2.2.1⟩ (hM H.size) (cwV nn C.2.2.2.2.1 hg hw rfl rfl ⟨rfl, hd⟩ hR) ⟨PreX_blind, hq9 ▸ va_recv C.2.2.2.2.2.1 hP hq (by rw [wd_get hb, hc]), fun U hU hW => ⟨rfl, by rw [hU], by rw [hU]; exact hP, va_K.moved hW.alike C.2.2.2.2.2.1, hD.weaken (fun _ _ _ _ => trivial), X.2.2.1.next hW hU hS hF⟩⟩ rfl hnn hl.1 hst (lv_room hcat) hdg ⟨hcr.1, hcr.2⟩) hS (fun q _ h => hF q h) hF (fun q _ h => hF q h) (fun E ce q9 u t H1 locs1 ht hvm _ hB hz1 hk1 hS1 h6 h7 h8 => ?_) (fun r σ9 t H1 locs1 ht hvm hw9 hB hz1 hk1 hS1 => ?_)
    · obtain ⟨hth, hP1, hK1, hD1⟩ := hB
      rw [ht] at hP1
      exact vx_out (fun x hx => absurd (X.2.2.2 x hx) (fun h => h)) hlk h6 h7 h8 (fun t9 ht9 hvm9 => xt_of C hP1 (wd_DA hD) hS1 hvm9 (by rw [ht9]; exact Nat.le_refl _) (fun q _ => by rw [ht9]) (hthr E u hth)) hS1.2.2 hcx.1 hcx.2
    · obtain ⟨hP1, hK1, hD1⟩ := hB
      rw [ht] at hP1
      exact k9 r σ9 hw9 H1 locs1 ls hP1 (wd_DA hD) hS1 hl
theorem x_callSi {Qc : Array Value → State → Outcome → State → Prop} (X : CX p l s m args c w sA A cc own nL Ts) (hlk : meth.locks = false) {pc9 : Nat} (hpc : pc + 3 = pc9) (As : List Value) {nn : Nat} (hnn : As.length = nn) {st : List Value} {index : Nat} {y : MethodName} {bytes : ByteArray} {maxL n k : Nat} {ret : Option FieldType} {ws ws9 : List Cond} {post : Int32 → St → Prop} {thr9 : String → St → Prop} (hdg : decode cc pc = .ok (.invokestatic index, 3)) (hM : MXI l y ws n k w sA As σ post thr9) (hg : GoodIn Ts (va_wsS own index y ws)) (hw : ws = Cond.code y bytes maxL ret :: ws9) (hd : y.cls ≠ "java/lang/invoke/MethodHandle" ∧ y.cls ≠ "java/lang/invoke/VarHandle" ∧ (parseMethodDescriptor y.desc).map (fun d => d.parameters.length) = some nn) (hR : (rmX n k).frames + 1 ≤ R.frames ∧ 8 + (maxL + 11) + (rmX n k).locals ≤ R.locals) (hst : st = (As.reverse ++ rest)) (hcat : (rest.map fun v => v.category).sum ≤ 8) (hcr : cells + k ≤ R.cells ∧ slots + 6 * k ≤ R.slots) (hcx : cells + k ≤ mc ∧ slots + 6 * k ≤ ms) (hthr : ∀ E σ9, thr9 E σ9 → thr E σ9) (k9 : ∀ (r : Int32) (σ9 : St), post r σ9 → G p l e R s m args below meth c (vx_MQ below Qc (XT w A thr) args s mc ms A) w A nL σ9 (cells + k) (slots + 6 * k) pc9 lv (.int r :: rest)) : G p l e R s m args below meth c (vx_MQ below Qc (XT w A thr) args s mc ms A) w A nL σ cells slots pc lv st :=
  fun H locs ls hP hD hS hl => by
    subst hpc
    have C := X.1
    have hF := aA_in hD hS C.2.2.2.2.2.2
    refine vx_calli (vx_runS (As := As) (rest := rest) ⟨C.1, C.2.1, C.2.2.1, C.2.2.2.1, C.2.2.2.2.1⟩ (hM H.size) (va_cwS nn C.2.2.2.2.1 hg hw rfl rfl hd hR) ⟨PreX_blind, fun U hU hW => ⟨rfl, by rw [hU], by rw [hU]; exact hP, va_K.moved hW.alike C.2.2.2.2.2.1, hD.weaken (fun _ _ _ _ => trivial), X.2.2.1.next hW hU hS hF⟩⟩ rfl hnn hl.1 hst (lv_room hcat) hdg ⟨hcr.1, hcr.2⟩) hS (fun q _ h => hF q h) hF (fun q _ h => hF q h) (fun E ce q9 u t H1 locs1 ht hvm _ hB hz1 hk1 hS1 h6 h7 h8 => ?_) (fun r σ9 t H1 locs1 ht hvm hw9 hB hz1 hk1 hS1 => ?_)
    · obtain ⟨hth, hP1, hK1, hD1⟩ := hB
      rw [ht] at hP1
      exact vx_out (fun x hx => absurd (X.2.2.2 x hx) (fun h => h)) hlk h6 h7 h8 (fun t9 ht9 hvm9 => xt_of C hP1 (wd_DA hD) hS1 hvm9 (by rw [ht9]; exact Nat.le_refl _) (fun q _ => by rw [ht9]) (hthr E u hth)) hS1.2.2 hcx.1 hcx.2
    · obtain ⟨hP1, hK1, hD1⟩ := hB
      rw [ht] at hP1
      exact k9 r σ9 hw9 H1 locs1 ls hP1 (wd_DA hD) hS1 hl
theorem x_callVl {Qc : Array Value → State → Outcome → State → Prop} (X : CX p l s m args c w sA A cc own nL Ts) (hlk : meth.locks = false) {pc9 : Nat} (hpc : pc + 3 = pc9) (b : Nat) {ci : Nat} {fs : List Value} {q : vw_C} (As : List Value) {nn : Nat} (hnn : As.length = nn) {st : List Value} {index : Nat} {y : MethodName} {bytes : ByteArray} {maxL n k : Nat} {ret : Option FieldType} {ws ws9 : List Cond} {post : Int64 → St → Prop} {thr9 : String → St → Prop} (hdg : decode cc pc = .ok (.invokevirtual index, 3)) (hM : MXL l y ws n k w sA (.ref (w.1 b) :: As) σ post thr9) (hg : GoodIn Ts (wsV own index y.cls y ws)) (hb : b < 109) (hc : cel w σ b = .inr (ci, fs)) (hq : vwCl[ci]? = some q) (hq9 : q.1 = y.cls) (hw : ws = Cond.code y bytes maxL ret :: ws9) (hd : y.cls ≠ "java/lang/invoke/MethodHandle" ∧ y.cls ≠ "java/lang/invoke/VarHandle" ∧ (parseMethodDescriptor y.desc).map (fun d => d.parameters.length) = some nn) (hR : (rmX n k).frames + 1 ≤ R.frames ∧ 8 + (maxL + 11) + (rmX n k).locals ≤ R.locals) (hst : st = (As.reverse ++ .ref (w.1 b) :: rest)) (hcat : (rest.map fun v => v.category).sum ≤ 8) (hcr : cells + k ≤ R.cells ∧ slots + 6 * k ≤ R.slots) (hcx : cells + k ≤ mc ∧ slots + 6 * k ≤ ms) (hthr : ∀ E σ9, thr9 E σ9 → thr E σ9) (k9 : ∀ (r : Int64) (σ9 : St), post r σ9 → G p l e R s m args below meth c (vx_MQ below Qc (XT w A thr) args s mc ms A) w A nL σ9 (cells + k) (slots + 6 * k) pc9 lv (.long r :: rest)) : G p l e R s m args below meth c (vx_MQ below Qc (XT w A thr) args s mc ms A) w A nL σ cells slots pc lv st :=
  fun H locs ls hP hD hS hl => by
    subst hpc
    have C := X.1
    have hF := aA_in hD hS C.2.2.2.2.2.2
    refine vx_calll (vx_runV (C := y.cls) (As := As) (rest := rest) ⟨C.1, C.2.1, C.2.2.1, C.2.2.2.1, C.2.2.2.2.1⟩ (hM H.size) (cwV nn C.2.2.2.2.1 hg hw rfl rfl ⟨rfl, hd⟩ hR) ⟨PreX_blind, hq9 ▸ va_recv C.2.2.2.2.2.1 hP hq (by rw [wd_get hb, hc]), fun U hU hW => ⟨rfl, by rw [hU], by rw [hU]; exact hP, va_K.moved hW.alike C.2.2.2.2.2.1, hD.weaken (fun _ _ _ _ => trivial), X.2.2.1.next hW hU hS hF⟩⟩ rfl hnn hl.1 hst (lv_room hcat) hdg ⟨hcr.1, hcr.2⟩) hS (fun q _ h => hF q h) hF (fun q _ h => hF q h) (fun E ce q9 u t H1 locs1 ht hvm _ hB hz1 hk1 hS1 h6 h7 h8 => ?_) (fun r σ9 t H1 locs1 ht hvm hw9 hB hz1 hk1 hS1 => ?_)
    · obtain ⟨hth, hP1, hK1, hD1⟩ := hB
      rw [ht] at hP1
      exact vx_out (fun x hx => absurd (X.2.2.2 x hx) (fun h => h)) hlk h6 h7 h8 (fun t9 ht9 hvm9 => xt_of C hP1 (wd_DA hD) hS1 hvm9 (by rw [ht9]; exact Nat.le_refl _) (fun q _ => by rw [ht9]) (hthr E u hth)) hS1.2.2 hcx.1 hcx.2
    · obtain ⟨hP1, hK1, hD1⟩ := hB
      rw [ht] at hP1
      exact k9 r σ9 hw9 H1 locs1 ls hP1 (wd_DA hD) hS1 hl
theorem x_callSl {Qc : Array Value → State → Outcome → State → Prop} (X : CX p l s m args c w sA A cc own nL Ts) (hlk : meth.locks = false) {pc9 : Nat} (hpc : pc + 3 = pc9) (As : List Value) {nn : Nat} (hnn : As.length = nn) {st : List Value} {index : Nat} {y : MethodName} {bytes : ByteArray} {maxL n k : Nat} {ret : Option FieldType} {ws ws9 : List Cond} {post : Int64 → St → Prop} {thr9 : String → St → Prop} (hdg : decode cc pc = .ok (.invokestatic index, 3)) (hM : MXL l y ws n k w sA As σ post thr9) (hg : GoodIn Ts (va_wsS own index y ws)) (hw : ws = Cond.code y bytes maxL ret :: ws9) (hd : y.cls ≠ "java/lang/invoke/MethodHandle" ∧ y.cls ≠ "java/lang/invoke/VarHandle" ∧ (parseMethodDescriptor y.desc).map (fun d => d.parameters.length) = some nn) (hR : (rmX n k).frames + 1 ≤ R.frames ∧ 8 + (maxL + 11) + (rmX n k).locals ≤ R.locals) (hst : st = (As.reverse ++ rest)) (hcat : (rest.map fun v => v.category).sum ≤ 8) (hcr : cells + k ≤ R.cells ∧ slots + 6 * k ≤ R.slots) (hcx : cells + k ≤ mc ∧ slots + 6 * k ≤ ms) (hthr : ∀ E σ9, thr9 E σ9 → thr E σ9) (k9 : ∀ (r : Int64) (σ9 : St), post r σ9 → G p l e R s m args below meth c (vx_MQ below Qc (XT w A thr) args s mc ms A) w A nL σ9 (cells + k) (slots + 6 * k) pc9 lv (.long r :: rest)) : G p l e R s m args below meth c (vx_MQ below Qc (XT w A thr) args s mc ms A) w A nL σ cells slots pc lv st :=
  fun H locs ls hP hD hS hl => by
    subst hpc
    have C := X.1
    have hF := aA_in hD hS C.2.2.2.2.2.2
    refine vx_calll (vx_runS (As := As) (rest := rest) ⟨C.1, C.2.1, C.2.2.1, C.2.2.2.1, C.2.2.2.2.1⟩ (hM H.size) (va_cwS nn C.2.2.2.2.1 hg hw rfl rfl hd hR) ⟨PreX_blind, fun U hU hW => ⟨rfl, by rw [hU], by rw [hU]; exact hP, va_K.moved hW.alike C.2.2.2.2.2.1, hD.weaken (fun _ _ _ _ => trivial), X.2.2.1.next hW hU hS hF⟩⟩ rfl hnn hl.1 hst (lv_room hcat) hdg ⟨hcr.1, hcr.2⟩) hS (fun q _ h => hF q h) hF (fun q _ h => hF q h) (fun E ce q9 u t H1 locs1 ht hvm _ hB hz1 hk1 hS1 h6 h7 h8 => ?_) (fun r σ9 t H1 locs1 ht hvm hw9 hB hz1 hk1 hS1 => ?_)
    · obtain ⟨hth, hP1, hK1, hD1⟩ := hB
      rw [ht] at hP1
      exact vx_out (fun x hx => absurd (X.2.2.2 x hx) (fun h => h)) hlk h6 h7 h8 (fun t9 ht9 hvm9 => xt_of C hP1 (wd_DA hD) hS1 hvm9 (by rw [ht9]; exact Nat.le_refl _) (fun q _ => by rw [ht9]) (hthr E u hth)) hS1.2.2 hcx.1 hcx.2
    · obtain ⟨hP1, hK1, hD1⟩ := hB
      rw [ht] at hP1
      exact k9 r σ9 hw9 H1 locs1 ls hP1 (wd_DA hD) hS1 hl
theorem x_callVv {Qc : Array Value → State → Outcome → State → Prop} (X : CX p l s m args c w sA A cc own nL Ts) (hlk : meth.locks = false) {pc9 : Nat} (hpc : pc + 3 = pc9) (b : Nat) {ci : Nat} {fs : List Value} {q : vw_C} (As : List Value) {nn : Nat} (hnn : As.length = nn) {st : List Value} {index : Nat} {y : MethodName} {bytes : ByteArray} {maxL n k : Nat} {ret : Option FieldType} {ws ws9 : List Cond} {post : St → Prop} {thr9 : String → St → Prop} (hdg : decode cc pc = .ok (.invokevirtual index, 3)) (hM : MXV l y ws n k w sA (.ref (w.1 b) :: As) σ post thr9) (hg : GoodIn Ts (wsV own index y.cls y ws)) (hb : b < 109) (hc : cel w σ b = .inr (ci, fs)) (hq : vwCl[ci]? = some q) (hq9 : q.1 = y.cls) (hw : ws = Cond.code y bytes maxL ret :: ws9) (hd : y.cls ≠ "java/lang/invoke/MethodHandle" ∧ y.cls ≠ "java/lang/invoke/VarHandle" ∧ (parseMethodDescriptor y.desc).map (fun d => d.parameters.length) = some nn) (hR : (rmX n k).frames + 1 ≤ R.frames ∧ 8 + (maxL + 11) + (rmX n k).locals ≤ R.locals) (hst : st = (As.reverse ++ .ref (w.1 b) :: rest)) (hcat : (rest.map fun v => v.category).sum ≤ 8) (hcr : cells + k ≤ R.cells ∧ slots + 6 * k ≤ R.slots) (hcx : cells + k ≤ mc ∧ slots + 6 * k ≤ ms) (hthr : ∀ E σ9, thr9 E σ9 → thr E σ9) (k9 : ∀ (σ9 : St), post σ9 → G p l e R s m args below meth c (vx_MQ below Qc (XT w A thr) args s mc ms A) w A nL σ9 (cells + k) (slots + 6 * k) pc9 lv (rest)) : G p l e R s m args below meth c (vx_MQ below Qc (XT w A thr) args s mc ms A) w A nL σ cells slots pc lv st :=
  fun H locs ls hP hD hS hl => by
    subst hpc
    have C := X.1
    have hF := aA_in hD hS C.2.2.2.2.2.2
    refine vx_callv (vx_runV (C := y.cls) (As := As) (rest := rest) ⟨C.1, C.2.1, C.2.2.1, C.2.2.2.1, C.2.2.2.2.1⟩ (hM H.size) (cwV nn C.2.2.2.2.1 hg hw rfl rfl ⟨rfl, hd⟩ hR) ⟨PreX_blind, hq9 ▸ va_recv C.2.2.2.2.2.1 hP hq (by rw [wd_get hb, hc]), fun U hU hW => ⟨rfl, by rw [hU], by rw [hU]; exact hP, va_K.moved hW.alike C.2.2.2.2.2.1, hD.weaken (fun _ _ _ _ => trivial), X.2.2.1.next hW hU hS hF⟩⟩ rfl hnn hl.1 hst (lv_room hcat) hdg ⟨hcr.1, hcr.2⟩) hS (fun q _ h => hF q h) hF (fun q _ h => hF q h) (fun E ce q9 u t H1 locs1 ht hvm _ hB hz1 hk1 hS1 h6 h7 h8 => ?_) (fun σ9 t H1 locs1 ht hvm hw9 hB hz1 hk1 hS1 => ?_)
    · obtain ⟨hth, hP1, hK1, hD1⟩ := hB
      rw [ht] at hP1
      exact vx_out (fun x hx => absurd (X.2.2.2 x hx) (fun h => h)) hlk h6 h7 h8 (fun t9 ht9 hvm9 => xt_of C hP1 (wd_DA hD) hS1 hvm9 (by rw [ht9]; exact Nat.le_refl _) (fun q _ => by rw [ht9]) (hthr E u hth)) hS1.2.2 hcx.1 hcx.2
    · obtain ⟨hP1, hK1, hD1⟩ := hB
      rw [ht] at hP1
      exact k9 σ9 hw9 H1 locs1 ls hP1 (wd_DA hD) hS1 hl
theorem x_callSv {Qc : Array Value → State → Outcome → State → Prop} (X : CX p l s m args c w sA A cc own nL Ts) (hlk : meth.locks = false) {pc9 : Nat} (hpc : pc + 3 = pc9) (As : List Value) {nn : Nat} (hnn : As.length = nn) {st : List Value} {index : Nat} {y : MethodName} {bytes : ByteArray} {maxL n k : Nat} {ret : Option FieldType} {ws ws9 : List Cond} {post : St → Prop} {thr9 : String → St → Prop} (hdg : decode cc pc = .ok (.invokestatic index, 3)) (hM : MXV l y ws n k w sA As σ post thr9) (hg : GoodIn Ts (va_wsS own index y ws)) (hw : ws = Cond.code y bytes maxL ret :: ws9) (hd : y.cls ≠ "java/lang/invoke/MethodHandle" ∧ y.cls ≠ "java/lang/invoke/VarHandle" ∧ (parseMethodDescriptor y.desc).map (fun d => d.parameters.length) = some nn) (hR : (rmX n k).frames + 1 ≤ R.frames ∧ 8 + (maxL + 11) + (rmX n k).locals ≤ R.locals) (hst : st = (As.reverse ++ rest)) (hcat : (rest.map fun v => v.category).sum ≤ 8) (hcr : cells + k ≤ R.cells ∧ slots + 6 * k ≤ R.slots) (hcx : cells + k ≤ mc ∧ slots + 6 * k ≤ ms) (hthr : ∀ E σ9, thr9 E σ9 → thr E σ9) (k9 : ∀ (σ9 : St), post σ9 → G p l e R s m args below meth c (vx_MQ below Qc (XT w A thr) args s mc ms A) w A nL σ9 (cells + k) (slots + 6 * k) pc9 lv (rest)) : G p l e R s m args below meth c (vx_MQ below Qc (XT w A thr) args s mc ms A) w A nL σ cells slots pc lv st :=
  fun H locs ls hP hD hS hl => by
    subst hpc
    have C := X.1
    have hF := aA_in hD hS C.2.2.2.2.2.2
    refine vx_callv (vx_runS (As := As) (rest := rest) ⟨C.1, C.2.1, C.2.2.1, C.2.2.2.1, C.2.2.2.2.1⟩ (hM H.size) (va_cwS nn C.2.2.2.2.1 hg hw rfl rfl hd hR) ⟨PreX_blind, fun U hU hW => ⟨rfl, by rw [hU], by rw [hU]; exact hP, va_K.moved hW.alike C.2.2.2.2.2.1, hD.weaken (fun _ _ _ _ => trivial), X.2.2.1.next hW hU hS hF⟩⟩ rfl hnn hl.1 hst (lv_room hcat) hdg ⟨hcr.1, hcr.2⟩) hS (fun q _ h => hF q h) hF (fun q _ h => hF q h) (fun E ce q9 u t H1 locs1 ht hvm _ hB hz1 hk1 hS1 h6 h7 h8 => ?_) (fun σ9 t H1 locs1 ht hvm hw9 hB hz1 hk1 hS1 => ?_)
    · obtain ⟨hth, hP1, hK1, hD1⟩ := hB
      rw [ht] at hP1
      exact vx_out (fun x hx => absurd (X.2.2.2 x hx) (fun h => h)) hlk h6 h7 h8 (fun t9 ht9 hvm9 => xt_of C hP1 (wd_DA hD) hS1 hvm9 (by rw [ht9]; exact Nat.le_refl _) (fun q _ => by rw [ht9]) (hthr E u hth)) hS1.2.2 hcx.1 hcx.2
    · obtain ⟨hP1, hK1, hD1⟩ := hB
      rw [ht] at hP1
      exact k9 σ9 hw9 H1 locs1 ls hP1 (wd_DA hD) hS1 hl
theorem vr_call {S SX : Type} {H0 : Heap} {H : Heap} {locs : List Loc} {Q : State → Prop} {ls : Array Slot} {st0 : List Value} {a : Array Value} {A0 A1 AX free : Nat → Prop} {post : S → Prop} {px : SX → Prop} {B : S → Nat → State → Prop} {BX : String → SX → State → Prop} (hr : vx_Run p l e R s m args below meth c H locs cells slots mc ms (F0 m pc ls st0) rest (va_Qr post B A1 a) (vx_X px BX AX) free) (hS : va_S A0 H0 H locs) (hA : ∀ q, q < H.size → A1 q → A0 q) (hf : ∀ q, free q → A0 q) (hAX : ∀ q, q < H.size → AX q → A0 q)
    (kx : ∀ (E : String) (ce : Cell) (q9 : Addr) (u : SX) (t : State) (H1 : Heap) (locs1 : List Loc), t.heap = H1 → s.vm.Alike t.vm → px u → BX E u t → H.size ≤ H1.size → (∀ q : Nat, q < H.size → ¬ AX q → H1[q]? = H[q]?) → va_S A0 H0 H1 locs1 → H1[q9]? = some ce → ce.vm = .none → s.vm.findClass E = some ce.cls → vx_W p l e R s m args below meth c H1 locs1 (cells + mc) (slots + ms) Q (F0 m pc ls rest) q9)
    (kk : ∀ (u : S) (ra : Nat) (t : State) (H1 : Heap) (locs1 : List Loc), t.heap = H1 → s.vm.Alike t.vm → post u → B u ra t → H.size ≤ H1.size → (∀ q : Nat, q < H.size → ¬ A1 q → H1[q]? = H[q]?) → va_S A0 H0 H1 locs1 → W p l e R s m args below meth c H1 locs1 (cells + mc) (slots + ms) Q (F0 m (pc + 3) ls (.ref ra :: rest))) : W p l e R s m args below meth c H locs cells slots Q (F0 m pc ls st0) := by
  intro T hT X
  rcases hr T hT X with ⟨v, st₀, t, T', L, h0, X', hL, e1, e2, ⟨⟨u, ra, hv, hp, hb⟩, hF⟩, st⟩ | ⟨q, st₀, t, T', L, E, ce, h0, X', hL, e1, e2, ⟨u, hp, hb, hF⟩, hce, hcv, hcl, st⟩
  · cases hv
    obtain ⟨k1, k2, k3⟩ := vx_keep h0 e1 hS hA hf hL hF
    obtain ⟨t2, a1, b1⟩ := kk u ra t T'.heap (locs ++ L) e1.symm (by rw [← e2]; exact X'.warmed.alike) hp hb k1 k2 k3 T' rfl X'
    exact ⟨t2, st t2 a1, b1⟩
  · obtain ⟨k1, k2, k3⟩ := vx_keep h0 e1 hS hAX hf hL hF
    obtain ⟨t2, a1, b1⟩ := kx E ce q u t T'.heap (locs ++ L) e1.symm (by rw [← e2]; exact X'.warmed.alike) hp hb k1 k2 k3 (by rw [e1]; exact hce) hcv hcl T' rfl X'
    exact ⟨t2, st.trans a1, b1⟩
theorem x_callVr {Qc : Array Value → State → Outcome → State → Prop} (X : CX p l s m args c w sA A cc own nL Ts) (hlk : meth.locks = false) {pc9 : Nat} (hpc : pc + 3 = pc9) (b : Nat) {ci : Nat} {fs : List Value} {q : vw_C} (As : List Value) {nn : Nat} (hnn : As.length = nn) {st : List Value} {index : Nat} {y : MethodName} {bytes : ByteArray} {maxL n k : Nat} {ret : Option FieldType} {ws ws9 : List Cond} {post : Nat × St → Prop} {thr9 : String → St → Prop} (hdg : decode cc pc = .ok (.invokevirtual index, 3)) (hM : MXR l y ws n k w sA (.ref (w.1 b) :: As) σ post thr9) (hg : GoodIn Ts (wsV own index y.cls y ws)) (hb : b < 109) (hc : cel w σ b = .inr (ci, fs)) (hq : vwCl[ci]? = some q) (hq9 : q.1 = y.cls) (hw : ws = Cond.code y bytes maxL ret :: ws9) (hd : y.cls ≠ "java/lang/invoke/MethodHandle" ∧ y.cls ≠ "java/lang/invoke/VarHandle" ∧ (parseMethodDescriptor y.desc).map (fun d => d.parameters.length) = some nn) (hR : (rmX n k).frames + 1 ≤ R.frames ∧ 8 + (maxL + 11) + (rmX n k).locals ≤ R.locals) (hst : st = (As.reverse ++ .ref (w.1 b) :: rest)) (hcat : (rest.map fun v => v.category).sum ≤ 8) (hcr : cells + k ≤ R.cells ∧ slots + 6 * k ≤ R.slots) (hcx : cells + k ≤ mc ∧ slots + 6 * k ≤ ms) (hthr : ∀ E σ9, thr9 E σ9 → thr E σ9) (k9 : ∀ (id : Nat) (σ9 : St), post (id, σ9) → G p l e R s m args below meth c (vx_MQ below Qc (XT w A thr) args s mc ms A) w A nL σ9 (cells + k) (slots + 6 * k) pc9 lv (.ref (w.1 id) :: rest)) : G p l e R s m args below meth c (vx_MQ below Qc (XT w A thr) args s mc ms A) w A nL σ cells slots pc lv st :=
  fun H locs ls hP hD hS hl => by
    subst hpc
    have C := X.1
    have hF := aA_in hD hS C.2.2.2.2.2.2
    refine vr_call (vx_runV (C := y.cls) (As := As) (rest := rest) ⟨C.1, C.2.1, C.2.2.1, C.2.2.2.1, C.2.2.2.2.1⟩ (hM H.size) (cwV nn C.2.2.2.2.1 hg hw rfl rfl ⟨rfl, hd⟩ hR) ⟨PreX_blind, hq9 ▸ va_recv C.2.2.2.2.2.1 hP hq (by rw [wd_get hb, hc]), fun U hU hW => ⟨rfl, by rw [hU], by rw [hU]; exact hP, va_K.moved hW.alike C.2.2.2.2.2.1, hD.weaken (fun _ _ _ _ => trivial), X.2.2.1.next hW hU hS hF⟩⟩ rfl hnn hl.1 hst (lv_room hcat) hdg ⟨hcr.1, hcr.2⟩) hS (fun q _ h => hF q h) hF (fun q _ h => hF q h) (fun E ce q9 u t H1 locs1 ht hvm _ hB hz1 hk1 hS1 h6 h7 h8 => ?_) (fun u ra t H1 locs1 ht hvm hw9 hB hz1 hk1 hS1 => ?_)
    · obtain ⟨hth, hP1, hK1, hD1⟩ := hB
      rw [ht] at hP1
      exact vx_out (fun x hx => absurd (X.2.2.2 x hx) (fun h => h)) hlk h6 h7 h8 (fun t9 ht9 hvm9 => xt_of C hP1 (wd_DA hD) hS1 hvm9 (by rw [ht9]; exact Nat.le_refl _) (fun q _ => by rw [ht9]) (hthr E u hth)) hS1.2.2 hcx.1 hcx.2
    · obtain ⟨hra, hP1, hK1, hD1⟩ := hB
      rw [ht] at hP1
      subst hra
      exact k9 u.1 u.2 hw9 H1 locs1 ls hP1 (wd_DA hD) hS1 hl
end GXX
section GTR
variable {p : Program} {l : Launch} {e : Env} {R : Room} {s : State} {m : MethodId} {args : Array Value} {below : List Frame} {meth : Method} {c : Code} {Q : State → Prop}
  {w : Wd} {A : Nat → Prop} {cc : ByteArray} {own : String} {nL : Nat} {Ts : List Cond} {σ : St} {cells slots pc : Nat} {lv : List (Nat × Value)} {rest : List Value}
theorem tS_s {σ : St} {k j : Nat} : tS (sT σ k j) k = j := by show va_up σ.2.2.2 k j k = j; exact va_up_self _ _ _
theorem tS_n {σ : St} {k j i : Nat} (h : i ≠ k) : tS (sT σ k j) i = tS σ i := by show va_up σ.2.2.2 k j i = σ.2.2.2 i; exact va_up_ne _ _ h
/-- a tree off a shelf -/
theorem g_aald (C : Cx p s m args c w A cc own nL Ts) {pc9 : Nat} (hpc : pc + 1 = pc9) (j : Nat) {i : Int32} (hdg : decode cc pc = .ok (.aaload, 1)) (hi : i = nI j) (hj : j < 8) (k9 : G p l e R s m args below meth c Q w A nL σ cells slots pc9 lv (.ref (w.1 (64 + 5 * tS σ j)) :: rest)) : G p l e R s m args below meth c Q w A nL σ cells slots pc lv (.int i :: .ref (w.1 40) :: rest) :=
  fun H locs ls hP hD hS hl => by
    subst hpc; subst hi
    refine va_aldq C.1 C.2.1 C.2.2.2.2.2.1 hP 40 4 (by rw [wd_get (by decide), ce_40]) rfl (vp_in_nI hj (by decide)) hdg ?_
    rw [nI_clamp (by omega), if_pos hj]
    exact k9 H locs ls hP hD hS hl
theorem tS_40 {w : Wd} {σ : St} {j t : Nat} (hj : j < 8) : (wd w σ).set 40 (w.1 40, .inl (w.2.2.2.2.2.2, 8, .inr (.inr (.inr (.inr (va_up (fun k => if k < 8 then some (w.1 (64 + 5 * tS σ k)) else none) j (some (w.1 (64 + 5 * t))))))))) = wd w (sT σ j t) := by
  refine wd_set (by decide) ?_ (fun k hk => ?_)
  · rw [ce_40]
    have : (fun k => if k < 8 then some (w.1 (64 + 5 * tS (sT σ j t) k)) else none) = va_up (fun k => if k < 8 then some (w.1 (64 + 5 * tS σ k)) else none) j (some (w.1 (64 + 5 * t))) := by
      funext k
      show (if k < 8 then some (w.1 (64 + 5 * va_up σ.2.2.2 j t k)) else none) = _
      by_cases h : k = j
      · subst h; rw [va_up_self, va_up_self, if_pos hj]
      · rw [va_up_ne _ _ h, va_up_ne _ _ h]
    rw [this]
  · by_cases h31 : k = 31
    · subst h31
      rw [ce_31, ce_31]
      rw [tS_n (by omega)]
    · exact cel_T h31 hk
theorem g_aast (C : Cx p s m args c w A cc own nL Ts) {pc9 : Nat} (hpc : pc + 1 = pc9) (j t : Nat) {i : Int32} (hdg : decode cc pc = .ok (.aastore, 1)) (hi : i = nI j) (hj : j < 8) (ht : t < 9) (k9 : G p l e R s m args below meth c Q w A nL (sT σ j t) cells slots pc9 lv rest) : G p l e R s m args below meth c Q w A nL σ cells slots pc lv (.ref (w.1 (64 + 5 * t)) :: .int i :: .ref (w.1 40) :: rest) :=
  fun H locs ls hP hD hS hl => by
    subst hpc; subst hi
    refine va_astq C.1 C.2.1 C.2.2.2.2.2.1 hP hD hS 40 4 (64 + 5 * t) 7 (by rw [wd_get (by decide), ce_40]) (r := (RX7, TX7, 6)) rfl (by rw [wd_get (by omega), ce_tree]) rfl (vp_in_nI hj (by decide)) hdg (fun H1 locs1 hP hD hS => ?_)
    rw [nI_clamp (by omega), tS_40 hj] at hP hD
    exact k9 H1 locs1 ls hP hD hS hl
theorem tS_31 {w : Wd} {σ : St} {t : Nat} : (wd w σ).set 31 (w.1 31, .inr (10, [.ref (w.1 32), .ref (w.1 34), .ref (w.1 36), .ref (w.1 40), .ref (w.1 41), .ref (w.1 43), .ref (w.1 46), .ref (w.1 48), .ref (w.1 49), .ref (w.1 53), .ref (w.1 58), .ref (w.1 (64 + 5 * t))])) = wd w (sT σ 8 t) := by
  refine wd_set (by decide) (by rw [ce_31, tS_s]) (fun k hk => ?_)
  by_cases h40 : k = 40
  · subst h40
    rw [ce_40, ce_40]
    have : (fun k => if k < 8 then some (w.1 (64 + 5 * tS (sT σ 8 t) k)) else none) = (fun k => if k < 8 then some (w.1 (64 + 5 * tS σ k)) else none) := by
      funext k
      by_cases h : k < 8
      · rw [if_pos h, if_pos h, tS_n (by omega)]
      · rw [if_neg h, if_neg h]
    rw [this]
  · exact cel_T hk h40
theorem g_putT (C : Cx p s m args c w A cc own nL Ts) {pc9 : Nat} (hpc : pc + 3 = pc9) (t : Nat) {index : Nat} (hdg : decode cc pc = .ok (.putfield index, 3)) (hin : ∀ u ∈ wsX100, u ∈ Ts) (hlink : Cond.fieldLink own index RX10 (TX10 11).2.1 (TX10 11).2.2.1 ∈ Ts) (k9 : G p l e R s m args below meth c Q w A nL (sT σ 8 t) cells slots pc9 lv rest) : G p l e R s m args below meth c Q w A nL σ cells slots pc lv (.ref (w.1 (64 + 5 * t)) :: .ref (w.1 31) :: rest) :=
  fun H locs ls hP hD hS hl => by
    subst hpc
    refine va_put C.1 C.2.1 C.2.2.2.2.1 hin tyX10 tyX10_ok nmX10 C.2.2.2.1 C.2.2.2.2.2.1 hP hD hS 31 (by rw [wd_get (by decide), ce_31]) rfl 11 (by decide) (C.2.2.2.2.1 _ hlink) (fun x h => h) rfl (ty := .object "LineageBench$Tree") (by decide +kernel) rfl rfl (Nat.le_of_ble_eq_true rfl) hdg (fun H1 locs1 hP hD hS => ?_)
    replace hP : va_P w.2.1 vwCl ((wd w σ).set 31 (w.1 31, .inr (10, [.ref (w.1 32), .ref (w.1 34), .ref (w.1 36), .ref (w.1 40), .ref (w.1 41), .ref (w.1 43), .ref (w.1 46), .ref (w.1 48), .ref (w.1 49), .ref (w.1 53), .ref (w.1 58), .ref (w.1 (64 + 5 * t))]))) H1 := hP
    replace hD : va_D A ((wd w σ).set 31 (w.1 31, .inr (10, [.ref (w.1 32), .ref (w.1 34), .ref (w.1 36), .ref (w.1 40), .ref (w.1 41), .ref (w.1 43), .ref (w.1 46), .ref (w.1 48), .ref (w.1 49), .ref (w.1 53), .ref (w.1 58), .ref (w.1 (64 + 5 * t))]))) := hD
    rw [tS_31] at hP hD
    exact k9 H1 locs1 ls hP hD hS hl
theorem sw_in (x : Int32) {n : Nat} (hn : n < 2 ^ 31) : (∃ i, i < n ∧ x = nI i) ∨ (x.toInt < 0 ∨ (n : Int) - 1 < x.toInt) := by
  rcases pk_ix x hn with h | h | h
  · exact Or.inr (Or.inl (by rw [Int32.lt_iff_toInt_lt, Int32.toInt_zero] at h; exact h))
  · exact Or.inr (Or.inr (by rw [Int32.le_iff_toInt_le, nI_toInt hn] at h; omega))
  · exact Or.inl h
theorem g_tableIn (C : Cx p s m args c w A cc own nL Ts) (tgt : Nat) {dflt lo hi : Int} {offs : Array Int} {len : Nat} {x : Int32} {off : Int} (hdg : decode cc pc = .ok (.tableswitch dflt lo hi offs, len)) (h1 : ¬ x.toInt < lo) (h2 : ¬ hi < x.toInt) (ho : offs[(x.toInt - lo).toNat]? = some off) (ht : (pc : Int) + off = (tgt : Int)) (k : G p l e R s m args below meth c Q w A nL σ cells slots tgt lv rest) : G p l e R s m args below meth c Q w A nL σ cells slots pc lv (.int x :: rest) :=
  fun H locs ls hP hD hS hl => lv_tableIn C.1 C.2.1 hdg h1 h2 ho ht (k H locs ls hP hD hS hl)
theorem g_tableOut (C : Cx p s m args c w A cc own nL Ts) (tgt : Nat) {dflt lo hi : Int} {offs : Array Int} {len : Nat} {x : Int32} (hdg : decode cc pc = .ok (.tableswitch dflt lo hi offs, len)) (h : x.toInt < lo ∨ hi < x.toInt) (ht : (pc : Int) + dflt = (tgt : Int)) (k : G p l e R s m args below meth c Q w A nL σ cells slots tgt lv rest) : G p l e R s m args below meth c Q w A nL σ cells slots pc lv (.int x :: rest) :=
  fun H locs ls hP hD hS hl => lv_tableOut C.1 C.2.1 hdg h ht (k H locs ls hP hD hS hl)
end GTR

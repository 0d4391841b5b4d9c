section GR
def Cx (p : Program) (s : State) (m : MethodId) (args : Array Value) (c : Code) (w : Wd) (A : Nat → Prop) (cc : ByteArray) (own : String) (nL : Nat) (Ts : List Cond) : Prop :=
  p.tables.exec = Jvm.exec ∧ c.code = cc ∧ c.maxLocals = nL ∧ s.vm.findClass own = some m.cls ∧ (∀ u ∈ Ts, u.before args s = true) ∧ va_K w.2.1 vwCl (wTys w) s ∧ (∀ q : Nat, s.heap.size ≤ q → A q)
/-- the machine at pc, the world in state σ, locals lv, stack st: it comes to a state with Q -/
def G (p : Program) (l : Launch) (e : Env) (R : Room) (s : State) (m : MethodId) (args : Array Value) (below : List Frame) (meth : Method) (c : Code) (Q : State → Prop) (w : Wd) (A : Nat → Prop) (nL : Nat) (σ : St) (cells slots pc : Nat) (lv : List (Nat × Value)) (st : List Value) : Prop :=
  ∀ (H : Heap) (locs : List Loc) (ls : Array Slot), va_P w.2.1 vwCl (wd w σ) H → va_D A (wd w σ) → va_S A s.heap H locs → lv_has ls nL lv → W p l e R s m args below meth c H locs cells slots Q (F0 m pc ls st)
variable {p : Program} {l : Launch} {e : Env} {R : Room} {s : State} {m : MethodId} {args : Array Value} {below : List Frame} {meth : Method} {c : Code} {Q : State → Prop}
  {w : Wd} {A : Nat → Prop} {cc : ByteArray} {own : String} {nL : Nat} {Ts : List Cond} {σ : St} {cells slots pc : Nat} {lv : List (Nat × Value)} {rest : List Value}
theorem g_iconst (C : Cx p s m args c w A cc own nL Ts) {pc9 : Nat} (hpc : pc + 1 = pc9) (v : Int32) {n : Int} (hdg : decode cc pc = .ok (.iconst n, 1)) (hv : Int32.ofInt n = v) (k : G p l e R s m args below meth c Q w A nL σ cells slots (pc9) lv (.int v :: rest)) : G p l e R s m args below meth c Q w A nL σ cells slots (pc) lv (rest) :=
  fun H locs ls hP hD hS hl => by subst hpc; exact lv_iconst C.1 C.2.1 hdg hv (k H locs ls hP hD hS hl)
theorem g_bipush (C : Cx p s m args c w A cc own nL Ts) {pc9 : Nat} (hpc : pc + 2 = pc9) (v : Int32) {n : Int} (hdg : decode cc pc = .ok (.bipush n, 2)) (hv : (Int8.ofInt n).toInt32 = v) (k : G p l e R s m args below meth c Q w A nL σ cells slots (pc9) lv (.int v :: rest)) : G p l e R s m args below meth c Q w A nL σ cells slots (pc) lv (rest) :=
  fun H locs ls hP hD hS hl => by subst hpc; exact lv_bipush C.1 C.2.1 hdg hv (k H locs ls hP hD hS hl)
theorem g_sipush (C : Cx p s m args c w A cc own nL Ts) {pc9 : Nat} (hpc : pc + 3 = pc9) (v : Int32) {n : Int} (hdg : decode cc pc = .ok (.sipush n, 3)) (hv : (Int16.ofInt n).toInt32 = v) (k : G p l e R s m args below meth c Q w A nL σ cells slots (pc9) lv (.int v :: rest)) : G p l e R s m args below meth c Q w A nL σ cells slots (pc) lv (rest) :=
  fun H locs ls hP hD hS hl => by subst hpc; exact lv_sipush C.1 C.2.1 hdg hv (k H locs ls hP hD hS hl)
theorem g_lconst (C : Cx p s m args c w A cc own nL Ts) {pc9 : Nat} (hpc : pc + 1 = pc9) (v : Int64) {n : Fin 2} (hdg : decode cc pc = .ok (.lconst n, 1)) (hv : Int64.ofNat n = v) (k : G p l e R s m args below meth c Q w A nL σ cells slots (pc9) lv (.long v :: rest)) : G p l e R s m args below meth c Q w A nL σ cells slots (pc) lv (rest) :=
  fun H locs ls hP hD hS hl => by subst hpc; exact lv_lconst C.1 C.2.1 hdg hv (k H locs ls hP hD hS hl)
theorem g_iload_n (C : Cx p s m args c w A cc own nL Ts) {pc9 : Nat} (hpc : pc + 1 = pc9) (k9 : Nat) {k0 : Fin 4} {i : Nat} {x : Int32} (hdg : decode cc pc = .ok (.iload_n k0, 1)) (hi : (k0 : Nat) = i) (hk : lv[k9]? = some (i, .int x)) (k : G p l e R s m args below meth c Q w A nL σ cells slots (pc9) lv (.int x :: rest)) : G p l e R s m args below meth c Q w A nL σ cells slots (pc) lv (rest) :=
  fun H locs ls hP hD hS hl => by subst hpc; exact lv_iload_n C.1 C.2.1 hdg hi (lv_at hl k9 hk) (k H locs ls hP hD hS hl)
theorem g_iload (C : Cx p s m args c w A cc own nL Ts) {pc9 : Nat} (hpc : pc + 2 = pc9) (k9 : Nat) {i : Nat} {x : Int32} (hdg : decode cc pc = .ok (.iload i, 2)) (hk : lv[k9]? = some (i, .int x)) (k : G p l e R s m args below meth c Q w A nL σ cells slots (pc9) lv (.int x :: rest)) : G p l e R s m args below meth c Q w A nL σ cells slots (pc) lv (rest) :=
  fun H locs ls hP hD hS hl => by subst hpc; exact lv_iload C.1 C.2.1 hdg (lv_at hl k9 hk) (k H locs ls hP hD hS hl)
theorem g_istore_n (C : Cx p s m args c w A cc own nL Ts) {pc9 : Nat} (hpc : pc + 1 = pc9) (lv9 : List (Nat × Value)) {k0 : Fin 4} {i : Nat} {x : Int32} (hdg : decode cc pc = .ok (.istore_n k0, 1)) (hi : (k0 : Nat) = i) (hn : i < nL) (hf : (i, Value.int x) :: lv.filter (fun q => !(q.1 == i) && !(q.1 + 1 == i && q.2.category == 2)) = lv9) (k : G p l e R s m args below meth c Q w A nL σ cells slots (pc9) lv9 (rest)) : G p l e R s m args below meth c Q w A nL σ cells slots (pc) lv (.int x :: rest) :=
  fun H locs ls hP hD hS hl => by subst hpc; exact lv_istore_n C.1 C.2.1 hdg hi hl hn hf (fun ls9 hl9 => k H locs ls9 hP hD hS hl9)
theorem g_istore (C : Cx p s m args c w A cc own nL Ts) {pc9 : Nat} (hpc : pc + 2 = pc9) (lv9 : List (Nat × Value)) {i : Nat} {x : Int32} (hdg : decode cc pc = .ok (.istore i, 2)) (hn : i < nL) (hf : (i, Value.int x) :: lv.filter (fun q => !(q.1 == i) && !(q.1 + 1 == i && q.2.category == 2)) = lv9) (k : G p l e R s m args below meth c Q w A nL σ cells slots (pc9) lv9 (rest)) : G p l e R s m args below meth c Q w A nL σ cells slots (pc) lv (.int x :: rest) :=
  fun H locs ls hP hD hS hl => by subst hpc; exact lv_istore C.1 C.2.1 hdg hl hn hf (fun ls9 hl9 => k H locs ls9 hP hD hS hl9)
theorem g_lload_n (C : Cx p s m args c w A cc own nL Ts) {pc9 : Nat} (hpc : pc + 1 = pc9) (k9 : Nat) {k0 : Fin 4} {i : Nat} {x : Int64} (hdg : decode cc pc = .ok (.lload_n k0, 1)) (hi : (k0 : Nat) = i) (hk : lv[k9]? = some (i, .long x)) (k : G p l e R s m args below meth c Q w A nL σ cells slots (pc9) lv (.long x :: rest)) : G p l e R s m args below meth c Q w A nL σ cells slots (pc) lv (rest) :=
  fun H locs ls hP hD hS hl => by subst hpc; exact lv_lload_n C.1 C.2.1 hdg hi (lv_at hl k9 hk) (k H locs ls hP hD hS hl)
theorem g_lload (C : Cx p s m args c w A cc own nL Ts) {pc9 : Nat} (hpc : pc + 2 = pc9) (k9 : Nat) {i : Nat} {x : Int64} (hdg : decode cc pc = .ok (.lload i, 2)) (hk : lv[k9]? = some (i, .long x)) (k : G p l e R s m args below meth c Q w A nL σ cells slots (pc9) lv (.long x :: rest)) : G p l e R s m args below meth c Q w A nL σ cells slots (pc) lv (rest) :=
  fun H locs ls hP hD hS hl => by subst hpc; exact lv_lload C.1 C.2.1 hdg (lv_at hl k9 hk) (k H locs ls hP hD hS hl)
theorem g_lstore_n (C : Cx p s m args c w A cc own nL Ts) {pc9 : Nat} (hpc : pc + 1 = pc9) (lv9 : List (Nat × Value)) {k0 : Fin 4} {i : Nat} {x : Int64} (hdg : decode cc pc = .ok (.lstore_n k0, 1)) (hi : (k0 : Nat) = i) (hn : i + 1 < nL) (hf : (i, Value.long x) :: lv.filter (fun q => !(q.1 == i) && (!(q.1 == i + 1) && !(q.1 + 1 == i && q.2.category == 2))) = lv9) (k : G p l e R s m args below meth c Q w A nL σ cells slots (pc9) lv9 (rest)) : G p l e R s m args below meth c Q w A nL σ cells slots (pc) lv (.long x :: rest) :=
  fun H locs ls hP hD hS hl => by subst hpc; exact lv_lstore_n C.1 C.2.1 hdg hi hl hn hf (fun ls9 hl9 => k H locs ls9 hP hD hS hl9)
theorem g_lstore (C : Cx p s m args c w A cc own nL Ts) {pc9 : Nat} (hpc : pc + 2 = pc9) (lv9 : List (Nat × Value)) {i : Nat} {x : Int64} (hdg : decode cc pc = .ok (.lstore i, 2)) (hn : i + 1 < nL) (hf : (i, Value.long x) :: lv.filter (fun q => !(q.1 == i) && (!(q.1 == i + 1) && !(q.1 + 1 == i && q.2.category == 2))) = lv9) (k : G p l e R s m args below meth c Q w A nL σ cells slots (pc9) lv9 (rest)) : G p l e R s m args below meth c Q w A nL σ cells slots (pc) lv (.long x :: rest) :=
  fun H locs ls hP hD hS hl => by subst hpc; exact lv_lstore C.1 C.2.1 hdg hl hn hf (fun ls9 hl9 => k H locs ls9 hP hD hS hl9)
theorem g_aload_n (C : Cx p s m args c w A cc own nL Ts) {pc9 : Nat} (hpc : pc + 1 = pc9) (k9 : Nat) {k0 : Fin 4} {i : Nat} {x : Nat} (hdg : decode cc pc = .ok (.aload_n k0, 1)) (hi : (k0 : Nat) = i) (hk : lv[k9]? = some (i, .ref x)) (k : G p l e R s m args below meth c Q w A nL σ cells slots (pc9) lv (.ref x :: rest)) : G p l e R s m args below meth c Q w A nL σ cells slots (pc) lv (rest) :=
  fun H locs ls hP hD hS hl => by subst hpc; exact lv_aload_n C.1 C.2.1 hdg hi (lv_at hl k9 hk) (k H locs ls hP hD hS hl)
theorem g_aload (C : Cx p s m args c w A cc own nL Ts) {pc9 : Nat} (hpc : pc + 2 = pc9) (k9 : Nat) {i : Nat} {x : Nat} (hdg : decode cc pc = .ok (.aload i, 2)) (hk : lv[k9]? = some (i, .ref x)) (k : G p l e R s m args below meth c Q w A nL σ cells slots (pc9) lv (.ref x :: rest)) : G p l e R s m args below meth c Q w A nL σ cells slots (pc) lv (rest) :=
  fun H locs ls hP hD hS hl => by subst hpc; exact lv_aload C.1 C.2.1 hdg (lv_at hl k9 hk) (k H locs ls hP hD hS hl)
theorem g_astore_n (C : Cx p s m args c w A cc own nL Ts) {pc9 : Nat} (hpc : pc + 1 = pc9) (lv9 : List (Nat × Value)) {k0 : Fin 4} {i : Nat} {x : Nat} (hdg : decode cc pc = .ok (.astore_n k0, 1)) (hi : (k0 : Nat) = i) (hn : i < nL) (hf : (i, Value.ref x) :: lv.filter (fun q => !(q.1 == i) && !(q.1 + 1 == i && q.2.category == 2)) = lv9) (k : G p l e R s m args below meth c Q w A nL σ cells slots (pc9) lv9 (rest)) : G p l e R s m args below meth c Q w A nL σ cells slots (pc) lv (.ref x :: rest) :=
  fun H locs ls hP hD hS hl => by subst hpc; exact lv_astore_n C.1 C.2.1 hdg hi hl hn hf (fun ls9 hl9 => k H locs ls9 hP hD hS hl9)
theorem g_astore (C : Cx p s m args c w A cc own nL Ts) {pc9 : Nat} (hpc : pc + 2 = pc9) (lv9 : List (Nat × Value)) {i : Nat} {x : Nat} (hdg : decode cc pc = .ok (.astore i, 2)) (hn : i < nL) (hf : (i, Value.ref x) :: lv.filter (fun q => !(q.1 == i) && !(q.1 + 1 == i && q.2.category == 2)) = lv9) (k : G p l e R s m args below meth c Q w A nL σ cells slots (pc9) lv9 (rest)) : G p l e R s m args below meth c Q w A nL σ cells slots (pc) lv (.ref x :: rest) :=
  fun H locs ls hP hD hS hl => by subst hpc; exact lv_astore C.1 C.2.1 hdg hl hn hf (fun ls9 hl9 => k H locs ls9 hP hD hS hl9)
theorem g_iinc (C : Cx p s m args c w A cc own nL Ts) {pc9 : Nat} (hpc : pc + 3 = pc9) (lv9 : List (Nat × Value)) (k9 : Nat) {i : Nat} {n : Int} {x : Int32} (v : Int32) (hdg : decode cc pc = .ok (.iinc i n, 3)) (hk : lv[k9]? = some (i, .int x)) (hv : x + Int32.ofInt n = v) (hn : i < nL) (hf : (i, Value.int v) :: lv.filter (fun q => !(q.1 == i) && !(q.1 + 1 == i && q.2.category == 2)) = lv9) (k : G p l e R s m args below meth c Q w A nL σ cells slots (pc9) lv9 (rest)) : G p l e R s m args below meth c Q w A nL σ cells slots (pc) lv (rest) :=
  fun H locs ls hP hD hS hl => by subst hpc; exact lv_iinc C.1 C.2.1 hdg hl hk hv hn hf (fun ls9 hl9 => k H locs ls9 hP hD hS hl9)
theorem g_iadd (C : Cx p s m args c w A cc own nL Ts) {pc9 : Nat} (hpc : pc + 1 = pc9) {x y : Int32} (hdg : decode cc pc = .ok (.iadd, 1)) (k : G p l e R s m args below meth c Q w A nL σ cells slots (pc9) lv (.int (x + y) :: rest)) : G p l e R s m args below meth c Q w A nL σ cells slots (pc) lv (.int y :: .int x :: rest) :=
  fun H locs ls hP hD hS hl => by subst hpc; exact lv_iadd C.1 C.2.1 hdg (k H locs ls hP hD hS hl)
theorem g_isub (C : Cx p s m args c w A cc own nL Ts) {pc9 : Nat} (hpc : pc + 1 = pc9) {x y : Int32} (hdg : decode cc pc = .ok (.isub, 1)) (k : G p l e R s m args below meth c Q w A nL σ cells slots (pc9) lv (.int (x - y) :: rest)) : G p l e R s m args below meth c Q w A nL σ cells slots (pc) lv (.int y :: .int x :: rest) :=
  fun H locs ls hP hD hS hl => by subst hpc; exact lv_isub C.1 C.2.1 hdg (k H locs ls hP hD hS hl)
theorem g_imul (C : Cx p s m args c w A cc own nL Ts) {pc9 : Nat} (hpc : pc + 1 = pc9) {x y : Int32} (hdg : decode cc pc = .ok (.imul, 1)) (k : G p l e R s m args below meth c Q w A nL σ cells slots (pc9) lv (.int (x * y) :: rest)) : G p l e R s m args below meth c Q w A nL σ cells slots (pc) lv (.int y :: .int x :: rest) :=
  fun H locs ls hP hD hS hl => by subst hpc; exact lv_imul C.1 C.2.1 hdg (k H locs ls hP hD hS hl)
theorem g_iand (C : Cx p s m args c w A cc own nL Ts) {pc9 : Nat} (hpc : pc + 1 = pc9) {x y : Int32} (hdg : decode cc pc = .ok (.iand, 1)) (k : G p l e R s m args below meth c Q w A nL σ cells slots (pc9) lv (.int (x &&& y) :: rest)) : G p l e R s m args below meth c Q w A nL σ cells slots (pc) lv (.int y :: .int x :: rest) :=
  fun H locs ls hP hD hS hl => by subst hpc; exact lv_iand C.1 C.2.1 hdg (k H locs ls hP hD hS hl)
theorem g_ior (C : Cx p s m args c w A cc own nL Ts) {pc9 : Nat} (hpc : pc + 1 = pc9) {x y : Int32} (hdg : decode cc pc = .ok (.ior, 1)) (k : G p l e R s m args below meth c Q w A nL σ cells slots (pc9) lv (.int (x ||| y) :: rest)) : G p l e R s m args below meth c Q w A nL σ cells slots (pc) lv (.int y :: .int x :: rest) :=
  fun H locs ls hP hD hS hl => by subst hpc; exact lv_ior C.1 C.2.1 hdg (k H locs ls hP hD hS hl)
theorem g_ixor (C : Cx p s m args c w A cc own nL Ts) {pc9 : Nat} (hpc : pc + 1 = pc9) {x y : Int32} (hdg : decode cc pc = .ok (.ixor, 1)) (k : G p l e R s m args below meth c Q w A nL σ cells slots (pc9) lv (.int (x ^^^ y) :: rest)) : G p l e R s m args below meth c Q w A nL σ cells slots (pc) lv (.int y :: .int x :: rest) :=
  fun H locs ls hP hD hS hl => by subst hpc; exact lv_ixor C.1 C.2.1 hdg (k H locs ls hP hD hS hl)
theorem g_idiv (C : Cx p s m args c w A cc own nL Ts) {pc9 : Nat} (hpc : pc + 1 = pc9) {x y : Int32} (hdg : decode cc pc = .ok (.idiv, 1)) (hne : ¬ y = 0) (k : G p l e R s m args below meth c Q w A nL σ cells slots (pc9) lv (.int (x / y) :: rest)) : G p l e R s m args below meth c Q w A nL σ cells slots (pc) lv (.int y :: .int x :: rest) :=
  fun H locs ls hP hD hS hl => by subst hpc; exact lv_idiv C.1 C.2.1 hdg hne (k H locs ls hP hD hS hl)
theorem g_irem (C : Cx p s m args c w A cc own nL Ts) {pc9 : Nat} (hpc : pc + 1 = pc9) {x y : Int32} (hdg : decode cc pc = .ok (.irem, 1)) (hne : ¬ y = 0) (k : G p l e R s m args below meth c Q w A nL σ cells slots (pc9) lv (.int (x - x / y * y) :: rest)) : G p l e R s m args below meth c Q w A nL σ cells slots (pc) lv (.int y :: .int x :: rest) :=
  fun H locs ls hP hD hS hl => by subst hpc; exact lv_irem C.1 C.2.1 hdg hne (k H locs ls hP hD hS hl)
theorem g_ineg (C : Cx p s m args c w A cc own nL Ts) {pc9 : Nat} (hpc : pc + 1 = pc9) {x : Int32} (hdg : decode cc pc = .ok (.ineg, 1)) (k : G p l e R s m args below meth c Q w A nL σ cells slots (pc9) lv (.int (-x) :: rest)) : G p l e R s m args below meth c Q w A nL σ cells slots (pc) lv (.int x :: rest) :=
  fun H locs ls hP hD hS hl => by subst hpc; exact lv_ineg C.1 C.2.1 hdg (k H locs ls hP hD hS hl)
theorem g_ishl (C : Cx p s m args c w A cc own nL Ts) {pc9 : Nat} (hpc : pc + 1 = pc9) {x y : Int32} (hdg : decode cc pc = .ok (.ishl, 1)) (k : G p l e R s m args below meth c Q w A nL σ cells slots (pc9) lv (.int (x <<< (y &&& 31)) :: rest)) : G p l e R s m args below meth c Q w A nL σ cells slots (pc) lv (.int y :: .int x :: rest) :=
  fun H locs ls hP hD hS hl => by subst hpc; exact lv_ishl C.1 C.2.1 hdg (k H locs ls hP hD hS hl)
theorem g_ishr (C : Cx p s m args c w A cc own nL Ts) {pc9 : Nat} (hpc : pc + 1 = pc9) {x y : Int32} (hdg : decode cc pc = .ok (.ishr, 1)) (k : G p l e R s m args below meth c Q w A nL σ cells slots (pc9) lv (.int (x >>> (y &&& 31)) :: rest)) : G p l e R s m args below meth c Q w A nL σ cells slots (pc) lv (.int y :: .int x :: rest) :=
  fun H locs ls hP hD hS hl => by subst hpc; exact lv_ishr C.1 C.2.1 hdg (k H locs ls hP hD hS hl)
theorem g_iushr (C : Cx p s m args c w A cc own nL Ts) {pc9 : Nat} (hpc : pc + 1 = pc9) {x y : Int32} (v : Int32) (hdg : decode cc pc = .ok (.iushr, 1)) (hv : (x.toUInt32 >>> (y.toUInt32 &&& Int32.toUInt32 31)).toInt32 = v) (k : G p l e R s m args below meth c Q w A nL σ cells slots (pc9) lv (.int v :: rest)) : G p l e R s m args below meth c Q w A nL σ cells slots (pc) lv (.int y :: .int x :: rest) :=
  fun H locs ls hP hD hS hl => by subst hpc; exact lv_iushr C.1 C.2.1 hdg hv (k H locs ls hP hD hS hl)
theorem g_ladd (C : Cx p s m args c w A cc own nL Ts) {pc9 : Nat} (hpc : pc + 1 = pc9) {x y : Int64} (hdg : decode cc pc = .ok (.ladd, 1)) (k : G p l e R s m args below meth c Q w A nL σ cells slots (pc9) lv (.long (x + y) :: rest)) : G p l e R s m args below meth c Q w A nL σ cells slots (pc) lv (.long y :: .long x :: rest) :=
  fun H locs ls hP hD hS hl => by subst hpc; exact lv_ladd C.1 C.2.1 hdg (k H locs ls hP hD hS hl)
theorem g_lsub (C : Cx p s m args c w A cc own nL Ts) {pc9 : Nat} (hpc : pc + 1 = pc9) {x y : Int64} (hdg : decode cc pc = .ok (.lsub, 1)) (k : G p l e R s m args below meth c Q w A nL σ cells slots (pc9) lv (.long (x - y) :: rest)) : G p l e R s m args below meth c Q w A nL σ cells slots (pc) lv (.long y :: .long x :: rest) :=
  fun H locs ls hP hD hS hl => by subst hpc; exact lv_lsub C.1 C.2.1 hdg (k H locs ls hP hD hS hl)
theorem g_lmul (C : Cx p s m args c w A cc own nL Ts) {pc9 : Nat} (hpc : pc + 1 = pc9) {x y : Int64} (hdg : decode cc pc = .ok (.lmul, 1)) (k : G p l e R s m args below meth c Q w A nL σ cells slots (pc9) lv (.long (x * y) :: rest)) : G p l e R s m args below meth c Q w A nL σ cells slots (pc) lv (.long y :: .long x :: rest) :=
  fun H locs ls hP hD hS hl => by subst hpc; exact lv_lmul C.1 C.2.1 hdg (k H locs ls hP hD hS hl)
theorem g_ldiv (C : Cx p s m args c w A cc own nL Ts) {pc9 : Nat} (hpc : pc + 1 = pc9) {x y : Int64} (hdg : decode cc pc = .ok (.ldiv, 1)) (hne : ¬ y = 0) (k : G p l e R s m args below meth c Q w A nL σ cells slots (pc9) lv (.long (x / y) :: rest)) : G p l e R s m args below meth c Q w A nL σ cells slots (pc) lv (.long y :: .long x :: rest) :=
  fun H locs ls hP hD hS hl => by subst hpc; exact lv_ldiv C.1 C.2.1 hdg hne (k H locs ls hP hD hS hl)
theorem g_lshl (C : Cx p s m args c w A cc own nL Ts) {pc9 : Nat} (hpc : pc + 1 = pc9) {x : Int64} {y : Int32} (v : Int64) (hdg : decode cc pc = .ok (.lshl, 1)) (hv : x <<< (y.toInt64 &&& 63) = v) (k : G p l e R s m args below meth c Q w A nL σ cells slots (pc9) lv (.long v :: rest)) : G p l e R s m args below meth c Q w A nL σ cells slots (pc) lv (.int y :: .long x :: rest) :=
  fun H locs ls hP hD hS hl => by subst hpc; exact lv_lshl C.1 C.2.1 hdg hv (k H locs ls hP hD hS hl)
theorem g_lshr (C : Cx p s m args c w A cc own nL Ts) {pc9 : Nat} (hpc : pc + 1 = pc9) {x : Int64} {y : Int32} (v : Int64) (hdg : decode cc pc = .ok (.lshr, 1)) (hv : x >>> (y.toInt64 &&& 63) = v) (k : G p l e R s m args below meth c Q w A nL σ cells slots (pc9) lv (.long v :: rest)) : G p l e R s m args below meth c Q w A nL σ cells slots (pc) lv (.int y :: .long x :: rest) :=
  fun H locs ls hP hD hS hl => by subst hpc; exact lv_lshr C.1 C.2.1 hdg hv (k H locs ls hP hD hS hl)
theorem g_i2l (C : Cx p s m args c w A cc own nL Ts) {pc9 : Nat} (hpc : pc + 1 = pc9) {x : Int32} (hdg : decode cc pc = .ok (.i2l, 1)) (k : G p l e R s m args below meth c Q w A nL σ cells slots (pc9) lv (.long x.toInt64 :: rest)) : G p l e R s m args below meth c Q w A nL σ cells slots (pc) lv (.int x :: rest) :=
  fun H locs ls hP hD hS hl => by subst hpc; exact lv_i2l C.1 C.2.1 hdg rfl (k H locs ls hP hD hS hl)
theorem g_i2b (C : Cx p s m args c w A cc own nL Ts) {pc9 : Nat} (hpc : pc + 1 = pc9) {x : Int32} (hdg : decode cc pc = .ok (.i2b, 1)) (k : G p l e R s m args below meth c Q w A nL σ cells slots (pc9) lv (.int x.toInt8.toInt32 :: rest)) : G p l e R s m args below meth c Q w A nL σ cells slots (pc) lv (.int x :: rest) :=
  fun H locs ls hP hD hS hl => by subst hpc; exact lv_i2b C.1 C.2.1 hdg rfl (k H locs ls hP hD hS hl)
theorem g_lcmp (C : Cx p s m args c w A cc own nL Ts) {pc9 : Nat} (hpc : pc + 1 = pc9) {x y : Int64} (hdg : decode cc pc = .ok (.lcmp, 1)) (k : G p l e R s m args below meth c Q w A nL σ cells slots (pc9) lv (.int (lg_cmp x y) :: rest)) : G p l e R s m args below meth c Q w A nL σ cells slots (pc) lv (.long y :: .long x :: rest) :=
  fun H locs ls hP hD hS hl => by subst hpc; exact W.lcmp C.1 C.2.1 hdg (k H locs ls hP hD hS hl)
theorem g_dup (C : Cx p s m args c w A cc own nL Ts) {pc9 : Nat} (hpc : pc + 1 = pc9) {va : Value} (hdg : decode cc pc = .ok (.dup, 1)) (hva : va.category = 1) (k : G p l e R s m args below meth c Q w A nL σ cells slots (pc9) lv (va :: va :: rest)) : G p l e R s m args below meth c Q w A nL σ cells slots (pc) lv (va :: rest) :=
  fun H locs ls hP hD hS hl => by subst hpc; exact lv_dup C.1 C.2.1 hdg hva (k H locs ls hP hD hS hl)
theorem g_pop (C : Cx p s m args c w A cc own nL Ts) {pc9 : Nat} (hpc : pc + 1 = pc9) {va : Value} (hdg : decode cc pc = .ok (.pop, 1)) (hva : va.category = 1) (k : G p l e R s m args below meth c Q w A nL σ cells slots (pc9) lv (rest)) : G p l e R s m args below meth c Q w A nL σ cells slots (pc) lv (va :: rest) :=
  fun H locs ls hP hD hS hl => by subst hpc; exact lv_pop C.1 C.2.1 hdg hva (k H locs ls hP hD hS hl)
theorem g_dup2 (C : Cx p s m args c w A cc own nL Ts) {pc9 : Nat} (hpc : pc + 1 = pc9) {va vb : Value} (hdg : decode cc pc = .ok (.dup2, 1)) (hva : va.category = 1) (hvb : vb.category = 1) (k : G p l e R s m args below meth c Q w A nL σ cells slots (pc9) lv (va :: vb :: va :: vb :: rest)) : G p l e R s m args below meth c Q w A nL σ cells slots (pc) lv (va :: vb :: rest) :=
  fun H locs ls hP hD hS hl => by subst hpc; exact lv_dup2_11 C.1 C.2.1 hdg hva hvb (k H locs ls hP hD hS hl)
theorem g_if_eq (C : Cx p s m args c w A cc own nL Ts) {pc9 : Nat} (hpc : pc + 3 = pc9) (tgt : Nat) {x : Int32} {off : Int} (hdg : decode cc pc = .ok (.ifCond .eq off, 3)) (ht : (pc : Int) + off = (tgt : Int)) (kt : x = 0 → G p l e R s m args below meth c Q w A nL σ cells slots (tgt) lv (rest)) (kf : ¬ (x = 0) → G p l e R s m args below meth c Q w A nL σ cells slots (pc9) lv (rest)) : G p l e R s m args below meth c Q w A nL σ cells slots (pc) lv (.int x :: rest) :=
  fun H locs ls hP hD hS hl => by subst hpc; exact lv_if_eq C.1 C.2.1 hdg ht (fun h => kt h H locs ls hP hD hS hl) (fun h => kf h H locs ls hP hD hS hl)
theorem g_if_ne (C : Cx p s m args c w A cc own nL Ts) {pc9 : Nat} (hpc : pc + 3 = pc9) (tgt : Nat) {x : Int32} {off : Int} (hdg : decode cc pc = .ok (.ifCond .ne off, 3)) (ht : (pc : Int) + off = (tgt : Int)) (kt : ¬ x = 0 → G p l e R s m args below meth c Q w A nL σ cells slots (tgt) lv (rest)) (kf : x = 0 → G p l e R s m args below meth c Q w A nL σ cells slots (pc9) lv (rest)) : G p l e R s m args below meth c Q w A nL σ cells slots (pc) lv (.int x :: rest) :=
  fun H locs ls hP hD hS hl => by subst hpc; exact lv_if_ne C.1 C.2.1 hdg ht (fun h => kt h H locs ls hP hD hS hl) (fun h => kf h H locs ls hP hD hS hl)
theorem g_if_lt (C : Cx p s m args c w A cc own nL Ts) {pc9 : Nat} (hpc : pc + 3 = pc9) (tgt : Nat) {x : Int32} {off : Int} (hdg : decode cc pc = .ok (.ifCond .lt off, 3)) (ht : (pc : Int) + off = (tgt : Int)) (kt : x < 0 → G p l e R s m args below meth c Q w A nL σ cells slots (tgt) lv (rest)) (kf : ¬ (x < 0) → G p l e R s m args below meth c Q w A nL σ cells slots (pc9) lv (rest)) : G p l e R s m args below meth c Q w A nL σ cells slots (pc) lv (.int x :: rest) :=
  fun H locs ls hP hD hS hl => by subst hpc; exact lv_if_lt C.1 C.2.1 hdg ht (fun h => kt h H locs ls hP hD hS hl) (fun h => kf h H locs ls hP hD hS hl)
theorem g_if_ge (C : Cx p s m args c w A cc own nL Ts) {pc9 : Nat} (hpc : pc + 3 = pc9) (tgt : Nat) {x : Int32} {off : Int} (hdg : decode cc pc = .ok (.ifCond .ge off, 3)) (ht : (pc : Int) + off = (tgt : Int)) (kt : 0 ≤ x → G p l e R s m args below meth c Q w A nL σ cells slots (tgt) lv (rest)) (kf : ¬ (0 ≤ x) → G p l e R s m args below meth c Q w A nL σ cells slots (pc9) lv (rest)) : G p l e R s m args below meth c Q w A nL σ cells slots (pc) lv (.int x :: rest) :=
  fun H locs ls hP hD hS hl => by subst hpc; exact lv_if_ge C.1 C.2.1 hdg ht (fun h => kt h H locs ls hP hD hS hl) (fun h => kf h H locs ls hP hD hS hl)
theorem g_if_gt (C : Cx p s m args c w A cc own nL Ts) {pc9 : Nat} (hpc : pc + 3 = pc9) (tgt : Nat) {x : Int32} {off : Int} (hdg : decode cc pc = .ok (.ifCond .gt off, 3)) (ht : (pc : Int) + off = (tgt : Int)) (kt : 0 < x → G p l e R s m args below meth c Q w A nL σ cells slots (tgt) lv (rest)) (kf : ¬ (0 < x) → G p l e R s m args below meth c Q w A nL σ cells slots (pc9) lv (rest)) : G p l e R s m args below meth c Q w A nL σ cells slots (pc) lv (.int x :: rest) :=
  fun H locs ls hP hD hS hl => by subst hpc; exact lv_if_gt C.1 C.2.1 hdg ht (fun h => kt h H locs ls hP hD hS hl) (fun h => kf h H locs ls hP hD hS hl)
theorem g_if_le (C : Cx p s m args c w A cc own nL Ts) {pc9 : Nat} (hpc : pc + 3 = pc9) (tgt : Nat) {x : Int32} {off : Int} (hdg : decode cc pc = .ok (.ifCond .le off, 3)) (ht : (pc : Int) + off = (tgt : Int)) (kt : x ≤ 0 → G p l e R s m args below meth c Q w A nL σ cells slots (tgt) lv (rest)) (kf : ¬ (x ≤ 0) → G p l e R s m args below meth c Q w A nL σ cells slots (pc9) lv (rest)) : G p l e R s m args below meth c Q w A nL σ cells slots (pc) lv (.int x :: rest) :=
  fun H locs ls hP hD hS hl => by subst hpc; exact lv_if_le C.1 C.2.1 hdg ht (fun h => kt h H locs ls hP hD hS hl) (fun h => kf h H locs ls hP hD hS hl)
theorem g_icmp_eq (C : Cx p s m args c w A cc own nL Ts) {pc9 : Nat} (hpc : pc + 3 = pc9) (tgt : Nat) {x y : Int32} {off : Int} (hdg : decode cc pc = .ok (.if_icmp .eq off, 3)) (ht : (pc : Int) + off = (tgt : Int)) (kt : x = y → G p l e R s m args below meth c Q w A nL σ cells slots (tgt) lv (rest)) (kf : ¬ (x = y) → G p l e R s m args below meth c Q w A nL σ cells slots (pc9) lv (rest)) : G p l e R s m args below meth c Q w A nL σ cells slots (pc) lv (.int y :: .int x :: rest) :=
  fun H locs ls hP hD hS hl => by subst hpc; exact lv_icmp_eq C.1 C.2.1 hdg ht (fun h => kt h H locs ls hP hD hS hl) (fun h => kf h H locs ls hP hD hS hl)
theorem g_icmp_ne (C : Cx p s m args c w A cc own nL Ts) {pc9 : Nat} (hpc : pc + 3 = pc9) (tgt : Nat) {x y : Int32} {off : Int} (hdg : decode cc pc = .ok (.if_icmp .ne off, 3)) (ht : (pc : Int) + off = (tgt : Int)) (kt : ¬ x = y → G p l e R s m args below meth c Q w A nL σ cells slots (tgt) lv (rest)) (kf : x = y → G p l e R s m args below meth c Q w A nL σ cells slots (pc9) lv (rest)) : G p l e R s m args below meth c Q w A nL σ cells slots (pc) lv (.int y :: .int x :: rest) :=
  fun H locs ls hP hD hS hl => by subst hpc; exact lv_icmp_ne C.1 C.2.1 hdg ht (fun h => kt h H locs ls hP hD hS hl) (fun h => kf h H locs ls hP hD hS hl)
theorem g_icmp_lt (C : Cx p s m args c w A cc own nL Ts) {pc9 : Nat} (hpc : pc + 3 = pc9) (tgt : Nat) {x y : Int32} {off : Int} (hdg : decode cc pc = .ok (.if_icmp .lt off, 3)) (ht : (pc : Int) + off = (tgt : Int)) (kt : x < y → G p l e R s m args below meth c Q w A nL σ cells slots (tgt) lv (rest)) (kf : ¬ (x < y) → G p l e R s m args below meth c Q w A nL σ cells slots (pc9) lv (rest)) : G p l e R s m args below meth c Q w A nL σ cells slots (pc) lv (.int y :: .int x :: rest) :=
  fun H locs ls hP hD hS hl => by subst hpc; exact lv_icmp_lt C.1 C.2.1 hdg ht (fun h => kt h H locs ls hP hD hS hl) (fun h => kf h H locs ls hP hD hS hl)
theorem g_icmp_ge (C : Cx p s m args c w A cc own nL Ts) {pc9 : Nat} (hpc : pc + 3 = pc9) (tgt : Nat) {x y : Int32} {off : Int} (hdg : decode cc pc = .ok (.if_icmp .ge off, 3)) (ht : (pc : Int) + off = (tgt : Int)) (kt : y ≤ x → G p l e R s m args below meth c Q w A nL σ cells slots (tgt) lv (rest)) (kf : ¬ (y ≤ x) → G p l e R s m args below meth c Q w A nL σ cells slots (pc9) lv (rest)) : G p l e R s m args below meth c Q w A nL σ cells slots (pc) lv (.int y :: .int x :: rest) :=
  fun H locs ls hP hD hS hl => by subst hpc; exact lv_icmp_ge C.1 C.2.1 hdg ht (fun h => kt h H locs ls hP hD hS hl) (fun h => kf h H locs ls hP hD hS hl)
theorem g_icmp_gt (C : Cx p s m args c w A cc own nL Ts) {pc9 : Nat} (hpc : pc + 3 = pc9) (tgt : Nat) {x y : Int32} {off : Int} (hdg : decode cc pc = .ok (.if_icmp .gt off, 3)) (ht : (pc : Int) + off = (tgt : Int)) (kt : y < x → G p l e R s m args below meth c Q w A nL σ cells slots (tgt) lv (rest)) (kf : ¬ (y < x) → G p l e R s m args below meth c Q w A nL σ cells slots (pc9) lv (rest)) : G p l e R s m args below meth c Q w A nL σ cells slots (pc) lv (.int y :: .int x :: rest) :=
  fun H locs ls hP hD hS hl => by subst hpc; exact lv_icmp_gt C.1 C.2.1 hdg ht (fun h => kt h H locs ls hP hD hS hl) (fun h => kf h H locs ls hP hD hS hl)
theorem g_icmp_le (C : Cx p s m args c w A cc own nL Ts) {pc9 : Nat} (hpc : pc + 3 = pc9) (tgt : Nat) {x y : Int32} {off : Int} (hdg : decode cc pc = .ok (.if_icmp .le off, 3)) (ht : (pc : Int) + off = (tgt : Int)) (kt : x ≤ y → G p l e R s m args below meth c Q w A nL σ cells slots (tgt) lv (rest)) (kf : ¬ (x ≤ y) → G p l e R s m args below meth c Q w A nL σ cells slots (pc9) lv (rest)) : G p l e R s m args below meth c Q w A nL σ cells slots (pc) lv (.int y :: .int x :: rest) :=
  fun H locs ls hP hD hS hl => by subst hpc; exact lv_icmp_le C.1 C.2.1 hdg ht (fun h => kt h H locs ls hP hD hS hl) (fun h => kf h H locs ls hP hD hS hl)
theorem g_goto (C : Cx p s m args c w A cc own nL Ts) (tgt : Nat) {off : Int} (hdg : decode cc pc = .ok (.goto off, 3)) (ht : (pc : Int) + off = (tgt : Int)) (k : G p l e R s m args below meth c Q w A nL σ cells slots (tgt) lv (rest)) : G p l e R s m args below meth c Q w A nL σ cells slots (pc) lv (rest) :=
  fun H locs ls hP hD hS hl => lv_goto C.1 C.2.1 hdg ht (k H locs ls hP hD hS hl)
theorem g_ldc (C : Cx p s m args c w A cc own nL Ts) {pc9 : Nat} (hpc : pc + 2 = pc9) (v : Int32) {index : Nat} (hdg : decode cc pc = .ok (.ldc index, 2)) (hw : Cond.constant own index v ∈ Ts) (k : G p l e R s m args below meth c Q w A nL σ cells slots (pc9) lv (.int v :: rest)) : G p l e R s m args below meth c Q w A nL σ cells slots (pc) lv (rest) :=
  fun H locs ls hP hD hS hl => by subst hpc; exact lv_ldc C.1 C.2.1 C.2.2.2.1 (C.2.2.2.2.1 _ hw) hdg (k H locs ls hP hD hS hl)
theorem g_ldc_w (C : Cx p s m args c w A cc own nL Ts) {pc9 : Nat} (hpc : pc + 3 = pc9) (v : Int32) {index : Nat} (hdg : decode cc pc = .ok (.ldc_w index, 3)) (hw : Cond.constant own index v ∈ Ts) (k : G p l e R s m args below meth c Q w A nL σ cells slots (pc9) lv (.int v :: rest)) : G p l e R s m args below meth c Q w A nL σ cells slots (pc) lv (rest) :=
  fun H locs ls hP hD hS hl => by subst hpc; exact lv_ldcw C.1 C.2.1 C.2.2.2.1 (C.2.2.2.2.1 _ hw) hdg (k H locs ls hP hD hS hl)
theorem g_ldc2 (C : Cx p s m args c w A cc own nL Ts) {pc9 : Nat} (hpc : pc + 3 = pc9) (v : Int64) {index : Nat} (hdg : decode cc pc = .ok (.ldc2_w index, 3)) (hw : Cond.constantLong own index v ∈ Ts) (k : G p l e R s m args below meth c Q w A nL σ cells slots (pc9) lv (.long v :: rest)) : G p l e R s m args below meth c Q w A nL σ cells slots (pc) lv (rest) :=
  fun H locs ls hP hD hS hl => by subst hpc; exact lv_ldc2 C.1 C.2.1 C.2.2.2.1 (C.2.2.2.2.1 _ hw) hdg (k H locs ls hP hD hS hl)
theorem g_get (C : Cx p s m args c w A cc own nL Ts) {pc9 : Nat} (hpc : pc + 3 = pc9) (id k : Nat) {ci : Nat} {fs : List Value} {v : Value} {Cn : String} {T : u_T} {N index : Nat} (hdg : decode cc pc = .ok (.getfield index, 3)) (hid : id < 109) (hc : cel w σ id = .inr (ci, fs)) (hin : ∀ u ∈ u_ws Cn T N, u ∈ Ts) (hlink : Cond.fieldLink own index Cn (T k).2.1 (T k).2.2.1 ∈ Ts) (hr : vwCl[ci]? = some (Cn, T, N)) (hk : k < N) (hdc : (T k).1 = Cn) (hv : fs[k]? = some v) (k9 : G p l e R s m args below meth c Q w A nL σ cells slots (pc9) lv (v :: rest)) : G p l e R s m args below meth c Q w A nL σ cells slots (pc) lv (.ref (w.1 id) :: rest) :=
  fun H locs ls hP hD hS hl => by subst hpc; exact va_get C.1 C.2.1 C.2.2.2.2.1 hin C.2.2.2.1 C.2.2.2.2.2.1 hP id (by rw [wd_get hid, hc]) hr k hk (C.2.2.2.2.1 _ hlink) (fun x h => by rw [hdc] at h; exact h) hv hdg (k9 H locs ls hP hD hS hl)
theorem g_put (C : Cx p s m args c w A cc own nL Ts) {pc9 : Nat} (hpc : pc + 3 = pc9) (id k : Nat) {ci : Nat} {fs : List Value} {v : Int32} {Cn : String} {T : u_T} {N index : Nat} (hdg : decode cc pc = .ok (.putfield index, 3)) (hid : id < 109) (hc : cel w σ id = .inr (ci, fs)) (hc9 : cel w (sN σ id k v) id = .inr (ci, fs.set k (.int v))) (hin : ∀ u ∈ u_ws Cn T N, u ∈ Ts) (hlink : Cond.fieldLink own index Cn (T k).2.1 (T k).2.2.1 ∈ Ts) (ty0 : Nat → FieldType) (hty : ∀ k, k < N → parseFieldDescriptor (T k).2.2.1 = some (ty0 k)) (hnm : ∀ a, a < N → ∀ b, b < N → a ≠ b → (T a).2.1 ≠ (T b).2.1) (hr : vwCl[ci]? = some (Cn, T, N)) (hk : k < N) (hdc : (T k).1 = Cn) (hfin : (T k).2.2.2 = false) (hd : ty0 k = .int) (hl9 : k < fs.length) (k9 : G p l e R s m args below meth c Q w A nL (sN σ id k v) cells slots (pc9) lv (rest)) : G p l e R s m args below meth c Q w A nL σ cells slots (pc) lv (.int v :: .ref (w.1 id) :: rest) :=
  fun H locs ls hP hD hS hl => by
    subst hpc
    exact va_put C.1 C.2.1 C.2.2.2.2.1 hin ty0 hty hnm C.2.2.2.1 C.2.2.2.2.2.1 hP hD hS id (by rw [wd_get hid, hc]) hr k hk (C.2.2.2.2.1 _ hlink) (fun x h => by rw [hdc] at h; exact h) hfin (by rw [hty k hk, hd]) rfl rfl hl9 hdg (fun H1 locs1 hP hD hS => by
      rw [wd_set hid hc9 (fun k h => cel_sN h)] at hP hD
      exact k9 H1 locs1 ls hP hD hS hl)
theorem g_iald (C : Cx p s m args c w A cc own nL Ts) {pc9 : Nat} (hpc : pc + 1 = pc9) (id j : Nat) {n : Nat} {i : Int32} {x : Int32} (hdg : decode cc pc = .ok (.iaload, 1)) (hid : id < 109) (hc : cel w σ id = .inl (w.2.2.2.1, n, .inl (iA σ id))) (hi : i = nI j) (hj : j < n) (hn : n < 2 ^ 31) (hx : iA σ id j = x) (k9 : G p l e R s m args below meth c Q w A nL σ cells slots (pc9) lv (.int x :: rest)) : G p l e R s m args below meth c Q w A nL σ cells slots (pc) lv (.int i :: .ref (w.1 id) :: rest) :=
  fun H locs ls hP hD hS hl => by
    subst hpc; subst hi; subst hx
    refine va_iald C.1 C.2.1 C.2.2.2.2.2.1 hP id 1 (by rw [wd_get hid, hc]) rfl (vp_in_nI hj hn) hdg ?_
    rw [nI_clamp (by omega)]
    exact k9 H locs ls hP hD hS hl
theorem g_iast (C : Cx p s m args c w A cc own nL Ts) {pc9 : Nat} (hpc : pc + 1 = pc9) (id j : Nat) {n : Nat} {i : Int32} {x : Int32} (f : Nat → Int32) (hdg : decode cc pc = .ok (.iastore, 1)) (hid : id < 109) (hc : ∀ f : Nat → Int32, cel w (sI σ id f) id = .inl (w.2.2.2.1, n, .inl f)) (hc0 : cel w σ id = .inl (w.2.2.2.1, n, .inl (iA σ id))) (hi : i = nI j) (hj : j < n) (hn : n < 2 ^ 31) (hf : iA σ id = f) (k9 : G p l e R s m args below meth c Q w A nL (sI σ id (upd f j x)) cells slots (pc9) lv (rest)) : G p l e R s m args below meth c Q w A nL σ cells slots (pc) lv (.int x :: .int i :: .ref (w.1 id) :: rest) :=
  fun H locs ls hP hD hS hl => by
    subst hpc; subst hi; subst hf
    refine va_iast C.1 C.2.1 C.2.2.2.2.2.1 hP hD hS id 1 (by rw [wd_get hid, hc0]) rfl (vp_in_nI hj hn) hdg (fun H1 locs1 hP hD hS => ?_)
    rw [nI_clamp (by omega), wd_set hid (hc _) (fun k h => cel_sI h)] at hP hD
    exact k9 H1 locs1 ls hP hD hS hl
theorem g_bald (C : Cx p s m args c w A cc own nL Ts) {pc9 : Nat} (hpc : pc + 1 = pc9) (id j : Nat) {n : Nat} {i : Int32} {x : Int32} (hdg : decode cc pc = .ok (.baload, 1)) (hid : id < 109) (hc : cel w σ id = .inl (w.2.2.1, n, .inl (iA σ id))) (hi : i = nI j) (hj : j < n) (hn : n < 2 ^ 31) (hx : iA σ id j = x) (k9 : G p l e R s m args below meth c Q w A nL σ cells slots (pc9) lv (.int x :: rest)) : G p l e R s m args below meth c Q w A nL σ cells slots (pc) lv (.int i :: .ref (w.1 id) :: rest) :=
  fun H locs ls hP hD hS hl => by
    subst hpc; subst hi; subst hx
    refine va_bald C.1 C.2.1 C.2.2.2.2.2.1 hP id 0 (by rw [wd_get hid, hc]) rfl (vp_in_nI hj hn) hdg ?_
    rw [nI_clamp (by omega)]
    exact k9 H locs ls hP hD hS hl
theorem g_bast (C : Cx p s m args c w A cc own nL Ts) {pc9 : Nat} (hpc : pc + 1 = pc9) (id j : Nat) {n : Nat} {i : Int32} {x : Int32} (f : Nat → Int32) (hdg : decode cc pc = .ok (.bastore, 1)) (hid : id < 109) (hc : ∀ f : Nat → Int32, cel w (sI σ id f) id = .inl (w.2.2.1, n, .inl f)) (hc0 : cel w σ id = .inl (w.2.2.1, n, .inl (iA σ id))) (hi : i = nI j) (hj : j < n) (hn : n < 2 ^ 31) (hf : iA σ id = f) (k9 : G p l e R s m args below meth c Q w A nL (sI σ id (upd f j (vp_nar .byte x))) cells slots (pc9) lv (rest)) : G p l e R s m args below meth c Q w A nL σ cells slots (pc) lv (.int x :: .int i :: .ref (w.1 id) :: rest) :=
  fun H locs ls hP hD hS hl => by
    subst hpc; subst hi; subst hf
    refine va_bast C.1 C.2.1 C.2.2.2.2.2.1 hP hD hS id 0 (by rw [wd_get hid, hc0]) rfl (vp_in_nI hj hn) hdg (fun H1 locs1 hP hD hS => ?_)
    rw [nI_clamp (by omega), wd_set hid (hc _) (fun k h => cel_sI h)] at hP hD
    exact k9 H1 locs1 ls hP hD hS hl
theorem g_zald (C : Cx p s m args c w A cc own nL Ts) {pc9 : Nat} (hpc : pc + 1 = pc9) (id j : Nat) {n : Nat} {i : Int32} {x : Int32} (hdg : decode cc pc = .ok (.baload, 1)) (hid : id < 109) (hc : cel w σ id = .inl (w.2.2.2.2.2.1, n, .inl (iA σ id))) (hi : i = nI j) (hj : j < n) (hn : n < 2 ^ 31) (hx : iA σ id j = x) (k9 : G p l e R s m args below meth c Q w A nL σ cells slots (pc9) lv (.int x :: rest)) : G p l e R s m args below meth c Q w A nL σ cells slots (pc) lv (.int i :: .ref (w.1 id) :: rest) :=
  fun H locs ls hP hD hS hl => by
    subst hpc; subst hi; subst hx
    refine va_zald C.1 C.2.1 C.2.2.2.2.2.1 hP id 3 (by rw [wd_get hid, hc]) rfl (vp_in_nI hj hn) hdg ?_
    rw [nI_clamp (by omega)]
    exact k9 H locs ls hP hD hS hl
theorem g_zast (C : Cx p s m args c w A cc own nL Ts) {pc9 : Nat} (hpc : pc + 1 = pc9) (id j : Nat) {n : Nat} {i : Int32} {x : Int32} (f : Nat → Int32) (hdg : decode cc pc = .ok (.bastore, 1)) (hid : id < 109) (hc : ∀ f : Nat → Int32, cel w (sI σ id f) id = .inl (w.2.2.2.2.2.1, n, .inl f)) (hc0 : cel w σ id = .inl (w.2.2.2.2.2.1, n, .inl (iA σ id))) (hi : i = nI j) (hj : j < n) (hn : n < 2 ^ 31) (hf : iA σ id = f) (k9 : G p l e R s m args below meth c Q w A nL (sI σ id (upd f j (vp_nar .boolean x))) cells slots (pc9) lv (rest)) : G p l e R s m args below meth c Q w A nL σ cells slots (pc) lv (.int x :: .int i :: .ref (w.1 id) :: rest) :=
  fun H locs ls hP hD hS hl => by
    subst hpc; subst hi; subst hf
    refine va_zast C.1 C.2.1 C.2.2.2.2.2.1 hP hD hS id 3 (by rw [wd_get hid, hc0]) rfl (vp_in_nI hj hn) hdg (fun H1 locs1 hP hD hS => ?_)
    rw [nI_clamp (by omega), wd_set hid (hc _) (fun k h => cel_sI h)] at hP hD
    exact k9 H1 locs1 ls hP hD hS hl
theorem g_lald (C : Cx p s m args c w A cc own nL Ts) {pc9 : Nat} (hpc : pc + 1 = pc9) (id j : Nat) {n : Nat} {i : Int32} {x : Int64} (hdg : decode cc pc = .ok (.laload, 1)) (hid : id < 109) (hc : cel w σ id = .inl (w.2.2.2.2.1, n, .inr (.inl (jA σ id)))) (hi : i = nI j) (hj : j < n) (hn : n < 2 ^ 31) (hx : jA σ id j = x) (k9 : G p l e R s m args below meth c Q w A nL σ cells slots (pc9) lv (.long x :: rest)) : G p l e R s m args below meth c Q w A nL σ cells slots (pc) lv (.int i :: .ref (w.1 id) :: rest) :=
  fun H locs ls hP hD hS hl => by
    subst hpc; subst hi; subst hx
    refine va_lald C.1 C.2.1 C.2.2.2.2.2.1 hP id 2 (by rw [wd_get hid, hc]) rfl (vp_in_nI hj hn) hdg ?_
    rw [nI_clamp (by omega)]
    exact k9 H locs ls hP hD hS hl
theorem g_last (C : Cx p s m args c w A cc own nL Ts) {pc9 : Nat} (hpc : pc + 1 = pc9) (id j : Nat) {n : Nat} {i : Int32} {x : Int64} (f : Nat → Int64) (hdg : decode cc pc = .ok (.lastore, 1)) (hid : id < 109) (hc : ∀ f : Nat → Int64, cel w (sJ σ id f) id = .inl (w.2.2.2.2.1, n, .inr (.inl f))) (hc0 : cel w σ id = .inl (w.2.2.2.2.1, n, .inr (.inl (jA σ id)))) (hi : i = nI j) (hj : j < n) (hn : n < 2 ^ 31) (hf : jA σ id = f) (k9 : G p l e R s m args below meth c Q w A nL (sJ σ id (vp_updL f j x)) cells slots (pc9) lv (rest)) : G p l e R s m args below meth c Q w A nL σ cells slots (pc) lv (.long x :: .int i :: .ref (w.1 id) :: rest) :=
  fun H locs ls hP hD hS hl => by
    subst hpc; subst hi; subst hf
    refine va_last C.1 C.2.1 C.2.2.2.2.2.1 hP hD hS id 2 (by rw [wd_get hid, hc0]) rfl (vp_in_nI hj hn) hdg (fun H1 locs1 hP hD hS => ?_)
    rw [nI_clamp (by omega), wd_set hid (hc _) (fun k h => cel_sJ h)] at hP hD
    exact k9 H1 locs1 ls hP hD hS hl
theorem g_topi {x : Int32} (k : ∀ y : Int32, y = x → G p l e R s m args below meth c Q w A nL σ cells slots (pc) lv (.int y :: rest)) : G p l e R s m args below meth c Q w A nL σ cells slots (pc) lv (.int x :: rest) := k x rfl
theorem g_ti {x : Int32} (y : Int32) (h : x = y) (k : G p l e R s m args below meth c Q w A nL σ cells slots (pc) lv (.int y :: rest)) : G p l e R s m args below meth c Q w A nL σ cells slots (pc) lv (.int x :: rest) := h ▸ k
theorem g_tl {x : Int64} (y : Int64) (h : x = y) (k : G p l e R s m args below meth c Q w A nL σ cells slots (pc) lv (.long y :: rest)) : G p l e R s m args below meth c Q w A nL σ cells slots (pc) lv (.long x :: rest) := h ▸ k
theorem g_topl {x : Int64} (k : ∀ y : Int64, y = x → G p l e R s m args below meth c Q w A nL σ cells slots (pc) lv (.long y :: rest)) : G p l e R s m args below meth c Q w A nL σ cells slots (pc) lv (.long x :: rest) := k x rfl
theorem g_iaddN (C : Cx p s m args c w A cc own nL Ts) {pc9 : Nat} (hpc : pc + 1 = pc9) {a b : Nat} (hdg : decode cc pc = .ok (.iadd, 1)) (k : G p l e R s m args below meth c Q w A nL σ cells slots (pc9) lv (.int (nI (a + b)) :: rest)) : G p l e R s m args below meth c Q w A nL σ cells slots (pc) lv (.int (nI b) :: .int (nI a) :: rest) := g_iadd C hpc hdg (by rw [nI_add]; exact k)
theorem g_imulN (C : Cx p s m args c w A cc own nL Ts) {pc9 : Nat} (hpc : pc + 1 = pc9) {a b : Nat} (hdg : decode cc pc = .ok (.imul, 1)) (k : G p l e R s m args below meth c Q w A nL σ cells slots (pc9) lv (.int (nI (a * b)) :: rest)) : G p l e R s m args below meth c Q w A nL σ cells slots (pc) lv (.int (nI b) :: .int (nI a) :: rest) := g_imul C hpc hdg (by rw [pk_mul]; exact k)
theorem g_isubN (C : Cx p s m args c w A cc own nL Ts) {pc9 : Nat} (hpc : pc + 1 = pc9) {a b : Nat} (hdg : decode cc pc = .ok (.isub, 1)) (h : b ≤ a) (k : G p l e R s m args below meth c Q w A nL σ cells slots (pc9) lv (.int (nI (a - b)) :: rest)) : G p l e R s m args below meth c Q w A nL σ cells slots (pc) lv (.int (nI b) :: .int (nI a) :: rest) := g_isub C hpc hdg (by rw [pk_sub h]; exact k)
theorem g_st {σ9 : St} (h : σ = σ9) (k : G p l e R s m args below meth c Q w A nL σ9 cells slots (pc) lv (rest)) : G p l e R s m args below meth c Q w A nL σ cells slots (pc) lv (rest) := h ▸ k
theorem g_sub (ks : List Nat) (lv9 : List (Nat × Value)) (h : lv_pick lv ks = lv9) (k : G p l e R s m args below meth c Q w A nL σ cells slots (pc) lv9 (rest)) : G p l e R s m args below meth c Q w A nL σ cells slots (pc) lv (rest) := fun H locs ls hP hD hS hl => k H locs ls hP hD hS (lv_sub hl ks h)
theorem g_lp1 {α : Type} (I : α → Prop) (μ : α → Nat) (g : α → Prop) (step : ∀ a, I a → (∀ b, I b → μ b < μ a → g b) → g a) (a : α) (h : I a) : g a := by
  have key : ∀ (n : Nat) (a : α), μ a < n → I a → g a := by
    intro n
    induction n with
    | zero => intro a h1; exact absurd h1 (Nat.not_lt_zero _)
    | succ n ih => intro a h1 h2; exact step a h2 (fun b h3 h4 => ih b (by omega) h3)
  exact key _ a (Nat.lt_succ_self _) h
theorem g_lp2 {α β : Type} (I : α → β → Prop) (μ : α → β → Nat) (g : α → β → Prop) (step : ∀ a b, I a b → (∀ a9 b9, I a9 b9 → μ a9 b9 < μ a b → g a9 b9) → g a b) (a : α) (b : β) (h : I a b) : g a b :=
  g_lp1 (α := α × β) (fun x => I x.1 x.2) (fun x => μ x.1 x.2) (fun x => g x.1 x.2) (fun x h ih => step x.1 x.2 h (fun a9 b9 h1 h2 => ih (a9, b9) h1 h2)) (a, b) h
theorem g_lp3 {α β γ : Type} (I : α → β → γ → Prop) (μ : α → β → γ → Nat) (g : α → β → γ → Prop) (step : ∀ a b d, I a b d → (∀ a9 b9 d9, I a9 b9 d9 → μ a9 b9 d9 < μ a b d → g a9 b9 d9) → g a b d) (a : α) (b : β) (d : γ) (h : I a b d) : g a b d :=
  g_lp1 (α := α × β × γ) (fun x => I x.1 x.2.1 x.2.2) (fun x => μ x.1 x.2.1 x.2.2) (fun x => g x.1 x.2.1 x.2.2) (fun x h ih => step x.1 x.2.1 x.2.2 h (fun a9 b9 d9 h1 h2 => ih (a9, b9, d9) h1 h2)) (a, b, d) h
theorem g_lp4 {α β γ δ : Type} (I : α → β → γ → δ → Prop) (μ : α → β → γ → δ → Nat) (g : α → β → γ → δ → Prop) (step : ∀ a b d f, I a b d f → (∀ a9 b9 d9 f9, I a9 b9 d9 f9 → μ a9 b9 d9 f9 < μ a b d f → g a9 b9 d9 f9) → g a b d f) (a : α) (b : β) (d : γ) (f : δ) (h : I a b d f) : g a b d f :=
  g_lp1 (α := α × β × γ × δ) (fun x => I x.1 x.2.1 x.2.2.1 x.2.2.2) (fun x => μ x.1 x.2.1 x.2.2.1 x.2.2.2) (fun x => g x.1 x.2.1 x.2.2.1 x.2.2.2) (fun x h ih => step x.1 x.2.1 x.2.2.1 x.2.2.2 h (fun a9 b9 d9 f9 h1 h2 => ih (a9, b9, d9, f9) h1 h2)) (a, b, d, f) h
/-- one below, down to -1 -/
def dn (k : Nat) : Int32 := nI k + (-1)
theorem dn_0 : dn 0 = -1 := by decide
theorem dn_s {k : Nat} (h : 0 < k) : dn k = nI (k - 1) := sb_m1 h
theorem nI_dn {k : Nat} : nI k - nI 1 = dn k := by
  unfold dn
  rw [Int32.sub_eq_add_neg]
  rfl
theorem z_eq {v : Nat} (h : v < 2 ^ 31) : nI v = 0 ↔ v = 0 := by rw [← nI_0]; exact nI_eq h (by decide)
theorem z_le {v : Nat} (h : v < 2 ^ 31) : nI v ≤ 0 ↔ v = 0 := by rw [← nI_0]; exact (nI_leI h (by decide)).trans (by omega)
theorem z_lt {v : Nat} (h : v < 2 ^ 31) : nI v < 0 ↔ False := by rw [← nI_0]; exact (nI_ltI h (by decide)).trans (by simp)
theorem z_ge {v : Nat} (h : v < 2 ^ 31) : 0 ≤ nI v ↔ True := by rw [← nI_0]; exact (nI_leI (by decide) h).trans (by simp)
theorem z_gt {v : Nat} (h : v < 2 ^ 31) : 0 < nI v ↔ 0 < v := by rw [← nI_0]; exact nI_ltI (by decide) h
theorem iA_N {σ : St} {a k b : Nat} {v : Int32} : iA (sN σ a k v) b = iA σ b := rfl
theorem iA_J {σ : St} {a b : Nat} {f : Nat → Int64} : iA (sJ σ a f) b = iA σ b := rfl
theorem jA_N {σ : St} {a k b : Nat} {v : Int32} : jA (sN σ a k v) b = jA σ b := rfl
theorem jA_I {σ : St} {a b : Nat} {f : Nat → Int32} : jA (sI σ a f) b = jA σ b := rfl
theorem nF_I {σ : St} {a b k : Nat} {f : Nat → Int32} : nF (sI σ a f) b k = nF σ b k := rfl
theorem nF_J {σ : St} {a b k : Nat} {f : Nat → Int64} : nF (sJ σ a f) b k = nF σ b k := rfl
theorem iA_s {σ : St} {a : Nat} {f : Nat → Int32} : iA (sI σ a f) a = f := va_up_self _ _ _
theorem jA_s {σ : St} {a : Nat} {f : Nat → Int64} : jA (sJ σ a f) a = f := va_up_self _ _ _
theorem iA_n {σ : St} {a b : Nat} {f : Nat → Int32} (h : b ≠ a) : iA (sI σ a f) b = iA σ b := va_up_ne _ _ h
theorem jA_n {σ : St} {a b : Nat} {f : Nat → Int64} (h : b ≠ a) : jA (sJ σ a f) b = jA σ b := va_up_ne _ _ h
theorem nF_s {σ : St} {a k : Nat} {v : Int32} : nF (sN σ a k v) a k = v := by show va_up σ.2.2.1 a _ a k = v; rw [va_up_self]; exact pk_us
theorem nF_k {σ : St} {a k k9 : Nat} {v : Int32} (h : k9 ≠ k) : nF (sN σ a k v) a k9 = nF σ a k9 := by show va_up σ.2.2.1 a _ a k9 = _; rw [va_up_self]; exact pk_un h
theorem nF_n {σ : St} {a b k k9 : Nat} {v : Int32} (h : b ≠ a) : nF (sN σ a k v) b k9 = nF σ b k9 := by show va_up σ.2.2.1 a _ b k9 = _; rw [va_up_ne _ _ h]
noncomputable def pI (P : Prop) : Int32 := @ite _ P (Classical.propDecidable P) 1 0
theorem pI_t {P : Prop} (h : P) : pI P = 1 := if_pos h
theorem pI_f {P : Prop} (h : ¬ P) : pI P = 0 := if_neg h
theorem pI_no {P : Prop} (h : pI P = 0) : ¬ P := fun q => by rw [pI_t q] at h; exact absurd h (by decide)
theorem pI_ye {P : Prop} (h : ¬ pI P = 0) : P := Classical.byContradiction (fun q => h (pI_f q))
theorem pI_c {P Q : Prop} (h : P ↔ Q) : pI P = pI Q := by rw [propext h]
theorem pI_01 (P : Prop) : pI P = 0 ∨ pI P = 1 := by
  by_cases h : P
  · exact Or.inr (pI_t h)
  · exact Or.inl (pI_f h)
theorem sI_sI {σ : St} {a : Nat} {f g : Nat → Int32} : sI (sI σ a f) a g = sI σ a g := by unfold sI; simp only [bx_uu]
theorem sJ_sJ {σ : St} {a : Nat} {f g : Nat → Int64} : sJ (sJ σ a f) a g = sJ σ a g := by unfold sJ; simp only [bx_uu]
theorem sN_sN {σ : St} {a k : Nat} {v u : Int32} : sN (sN σ a k v) a k u = sN σ a k u := by
  unfold sN
  simp only [va_up_self, bx_uu]
  have : upd (upd (σ.2.2.1 a) k v) k u = upd (σ.2.2.1 a) k u := by funext j; unfold upd; split <;> rfl
  rw [this]
theorem sI_cm {σ : St} {a b : Nat} {f g : Nat → Int32} (h : a ≠ b) : sI (sI σ a f) b g = sI (sI σ b g) a f := by
  unfold sI
  have : va_up (va_up σ.1 a f) b g = va_up (va_up σ.1 b g) a f := by
    funext c
    by_cases h1 : c = a
    · subst h1; rw [va_up_ne _ _ h, va_up_self, va_up_self]
    · by_cases h2 : c = b
      · subst h2; rw [va_up_self, va_up_ne _ _ h1, va_up_self]
      · rw [va_up_ne _ _ h2, va_up_ne _ _ h1, va_up_ne _ _ h1, va_up_ne _ _ h2]
  simp only [this]
theorem sJ_cm {σ : St} {a b : Nat} {f g : Nat → Int64} (h : a ≠ b) : sJ (sJ σ a f) b g = sJ (sJ σ b g) a f := by
  unfold sJ
  have : va_up (va_up σ.2.1 a f) b g = va_up (va_up σ.2.1 b g) a f := by
    funext c
    by_cases h1 : c = a
    · subst h1; rw [va_up_ne _ _ h, va_up_self, va_up_self]
    · by_cases h2 : c = b
      · subst h2; rw [va_up_self, va_up_ne _ _ h1, va_up_self]
      · rw [va_up_ne _ _ h2, va_up_ne _ _ h1, va_up_ne _ _ h1, va_up_ne _ _ h2]
  simp only [this]
theorem sI_sN {σ : St} {a k b : Nat} {v : Int32} {f : Nat → Int32} : sI (sN σ a k v) b f = sN (sI σ b f) a k v := rfl
theorem sN_sI {σ : St} {a k b : Nat} {v : Int32} {f : Nat → Int32} : sN (sI σ b f) a k v = sI (sN σ a k v) b f := rfl
theorem sI_sJ {σ : St} {a b : Nat} {f : Nat → Int32} {g : Nat → Int64} : sI (sJ σ b g) a f = sJ (sI σ a f) b g := rfl
theorem sJ_sI {σ : St} {a b : Nat} {f : Nat → Int32} {g : Nat → Int64} : sJ (sI σ a f) b g = sI (sJ σ b g) a f := rfl
theorem sJ_sN {σ : St} {a k b : Nat} {v : Int32} {g : Nat → Int64} : sJ (sN σ a k v) b g = sN (sJ σ b g) a k v := rfl
theorem sN_sJ {σ : St} {a k b : Nat} {v : Int32} {g : Nat → Int64} : sN (sJ σ b g) a k v = sJ (sN σ a k v) b g := rfl
theorem sN_cm {σ : St} {a k b k9 : Nat} {v u : Int32} (h : a ≠ b ∨ k ≠ k9) : sN (sN σ a k v) b k9 u = sN (sN σ b k9 u) a k v := by
  unfold sN
  have : va_up (va_up σ.2.2.1 a (upd (σ.2.2.1 a) k v)) b (upd (va_up σ.2.2.1 a (upd (σ.2.2.1 a) k v) b) k9 u) = va_up (va_up σ.2.2.1 b (upd (σ.2.2.1 b) k9 u)) a (upd (va_up σ.2.2.1 b (upd (σ.2.2.1 b) k9 u) a) k v) := by
    funext c i
    unfold va_up upd
    by_cases h1 : c = a <;> by_cases h2 : c = b <;> by_cases h3 : i = k <;> by_cases h4 : i = k9 <;> simp_all
  simp only [this]
theorem sN_self {σ : St} {a k : Nat} {v : Int32} (h : nF σ a k = v) : sN σ a k v = σ := by
  subst h
  unfold sN
  have : va_up σ.2.2.1 a (upd (σ.2.2.1 a) k (nF σ a k)) = σ.2.2.1 := by
    funext c i
    unfold va_up upd
    by_cases h1 : c = a <;> by_cases h3 : i = k <;> simp_all
  rw [this]
theorem sI_self {σ : St} {a : Nat} : sI σ a (iA σ a) = σ := by
  unfold sI
  have : va_up σ.1 a (iA σ a) = σ.1 := by
    funext b
    by_cases h : b = a
    · rw [h, va_up_self]
    · rw [va_up_ne _ _ h]
  rw [this]
theorem sJ_self {σ : St} {a : Nat} : sJ σ a (jA σ a) = σ := by
  unfold sJ
  have : va_up σ.2.1 a (jA σ a) = σ.2.1 := by
    funext b
    by_cases h : b = a
    · rw [h, va_up_self]
    · rw [va_up_ne _ _ h]
  rw [this]
theorem ca_parent (w : Wd) (σ : St) (j : Nat) (f : Nat → Int32) : cel w (sI σ (65 + 5 * j) f) (65 + 5 * j) = .inl (w.2.2.2.1, 47, .inl f) := (ce_parent w _ j).trans (by rw [iA_s])
theorem ca_kind (w : Wd) (σ : St) (j : Nat) (f : Nat → Int32) : cel w (sI σ (66 + 5 * j) f) (66 + 5 * j) = .inl (w.2.2.2.1, 47, .inl f) := (ce_kind w _ j).trans (by rw [iA_s])
theorem ca_cluster (w : Wd) (σ : St) (j : Nat) (f : Nat → Int32) : cel w (sI σ (67 + 5 * j) f) (67 + 5 * j) = .inl (w.2.2.2.1, 47, .inl f) := (ce_cluster w _ j).trans (by rw [iA_s])
theorem ca_children (w : Wd) (σ : St) (j : Nat) (f : Nat → Int32) : cel w (sI σ (68 + 5 * j) f) (68 + 5 * j) = .inl (w.2.2.2.1, 47, .inl f) := (ce_children w _ j).trans (by rw [iA_s])
theorem cn_tree_4 (w : Wd) (σ : St) (j : Nat) (v : Int32) : cel w (sN σ (64 + 5 * j) 4 v) (64 + 5 * j) = .inr (7, [.ref (w.1 (65 + 5 * j)), .ref (w.1 (66 + 5 * j)), .ref (w.1 (67 + 5 * j)), .ref (w.1 (68 + 5 * j)), .int v, .int (nF σ (64 + 5 * j) 5)]) := (ce_tree w _ j).trans (by simp [nF, sN, va_up_self, upd])
theorem cn_tree_5 (w : Wd) (σ : St) (j : Nat) (v : Int32) : cel w (sN σ (64 + 5 * j) 5 v) (64 + 5 * j) = .inr (7, [.ref (w.1 (65 + 5 * j)), .ref (w.1 (66 + 5 * j)), .ref (w.1 (67 + 5 * j)), .ref (w.1 (68 + 5 * j)), .int (nF σ (64 + 5 * j) 4), .int v]) := (ce_tree w _ j).trans (by simp [nF, sN, va_up_self, upd])
theorem g_mmin (C : Cx p s m args c w A cc own nL Ts) {pc9 : Nat} (hpc : pc + 3 = pc9) {x y : Int32} {index : Nat} (hdg : decode cc pc = .ok (.invokestatic index, 3)) (hlink : Cond.methodLink own index Lib.Math.min.name ∈ Ts) (hstat : Cond.static Lib.Math.min.name ∈ Ts) (hini : Cond.initialized "java/lang/Math" ∈ Ts) (hcode : Cond.code Lib.Math.min.name Lib.Math.min.code 2 (some .int) ∈ Ts) (hframes : 1 ≤ R.frames) (hlocals : (rest.map fun v => v.category).sum + 13 ≤ R.locals) (hc : cells ≤ R.cells) (hs : slots ≤ R.slots) (k : G p l e R s m args below meth c Q w A nL σ cells slots (pc9) lv (.int (if y < x then y else x) :: rest)) : G p l e R s m args below meth c Q w A nL σ cells slots (pc) lv (.int y :: .int x :: rest) :=
  fun H locs ls hP hD hS hl => by subst hpc; exact va_mmin C.1 C.2.1 (by rw [C.2.2.1, hl.1]) C.2.2.2.1 (C.2.2.2.2.1 _ hlink) (C.2.2.2.2.1 _ hstat) (C.2.2.2.2.1 _ hini) (C.2.2.2.2.1 _ hcode) hframes hlocals hc hs hdg (k H locs ls hP hD hS hl)
theorem g_mmax (C : Cx p s m args c w A cc own nL Ts) {pc9 : Nat} (hpc : pc + 3 = pc9) {x y : Int32} {index : Nat} (hdg : decode cc pc = .ok (.invokestatic index, 3)) (hlink : Cond.methodLink own index Lib.Math.max.name ∈ Ts) (hstat : Cond.static Lib.Math.max.name ∈ Ts) (hini : Cond.initialized "java/lang/Math" ∈ Ts) (hcode : Cond.code Lib.Math.max.name Lib.Math.max.code 2 (some .int) ∈ Ts) (hframes : 1 ≤ R.frames) (hlocals : (rest.map fun v => v.category).sum + 13 ≤ R.locals) (hc : cells ≤ R.cells) (hs : slots ≤ R.slots) (k : G p l e R s m args below meth c Q w A nL σ cells slots (pc9) lv (.int (if x < y then y else x) :: rest)) : G p l e R s m args below meth c Q w A nL σ cells slots (pc) lv (.int y :: .int x :: rest) :=
  fun H locs ls hP hD hS hl => by subst hpc; exact va_mmax C.1 C.2.1 (by rw [C.2.2.1, hl.1]) C.2.2.2.1 (C.2.2.2.2.1 _ hlink) (C.2.2.2.2.1 _ hstat) (C.2.2.2.2.1 _ hini) (C.2.2.2.2.1 _ hcode) hframes hlocals hc hs hdg (k H locs ls hP hD hS hl)
end GR
/-! contracts: a method that makes no cells, over the world in state σ -/
abbrev rmL (n : Nat) : Room := { frames := n, cells := 0, slots := 0, locals := 40 * n }
def aA (w : Wd) (sz : Nat) : Nat → Prop := fun q => (∃ i, i < 109 ∧ q = w.1 i) ∨ sz ≤ q
def Pre (w : Wd) (σ : St) (sz : Nat) (av : List Value) : Array Value → State → Prop := va_Pc av (fun U => U.heap.size = sz ∧ va_P w.2.1 vwCl (wd w σ) U.heap ∧ va_K w.2.1 vwCl (wTys w) U ∧ va_D (fun _ => True) (wd w σ))
def Wl (w : Wd) (A : Nat → Prop) : St → State → Prop := fun σ t => va_P w.2.1 vwCl (wd w σ) t.heap ∧ va_K w.2.1 vwCl (wTys w) t ∧ va_D A (wd w σ)
def WlR (w : Wd) (A : Nat → Prop) : Nat × St → Nat → State → Prop := fun u a t => a = w.1 u.1 ∧ Wl w A u.2 t
def MI (l : Launch) (y : MethodName) (ws : List Cond) (rm : Room) (w : Wd) (av : List Value) (σ : St) (post : Int32 → St → Prop) : Prop := ∀ sz, Met l y ws rm (Pre w σ sz av) (va_Qi post (Wl w (aA w sz)) (aA w sz)) 0 0 (aA w sz)
def ML (l : Launch) (y : MethodName) (ws : List Cond) (rm : Room) (w : Wd) (av : List Value) (σ : St) (post : Int64 → St → Prop) : Prop := ∀ sz, Met l y ws rm (Pre w σ sz av) (va_Ql post (Wl w (aA w sz)) (aA w sz)) 0 0 (aA w sz)
def MV (l : Launch) (y : MethodName) (ws : List Cond) (rm : Room) (w : Wd) (av : List Value) (σ : St) (post : St → Prop) : Prop := ∀ sz, Met l y ws rm (Pre w σ sz av) (va_Qv post (Wl w (aA w sz)) (aA w sz)) 0 0 (aA w sz)
theorem wd_addr {w : Wd} {σ : St} {k : Nat} {q : Nat × va_E} (h : (wd w σ)[k]? = some q) : k < 109 ∧ q.1 = w.1 k := by
  have hk : k < 109 := by
    have := (List.getElem?_eq_some_iff.mp h).1
    rw [wd_len] at this; exact this
  rw [wd_get hk] at h
  cases h
  exact ⟨hk, rfl⟩
theorem wd_DA {w : Wd} {σ σ9 : St} {A : Nat → Prop} (h : va_D A (wd w σ)) : va_D A (wd w σ9) := by
  refine ⟨fun i j a b hi hj hab => ?_, fun k q hk => ?_⟩
  · obtain ⟨h1, h2⟩ := wd_addr hi
    obtain ⟨h3, h4⟩ := wd_addr hj
    exact h.1 i j _ _ (wd_get h1) (wd_get h3) (by rw [← h2, ← h4]; exact hab)
  · obtain ⟨h1, h2⟩ := wd_addr hk
    rw [h2]; exact h.2 k _ (wd_get h1)
theorem wd_self {w : Wd} {σ : St} {A : Nat → Prop} {sz : Nat} (h : va_D A (wd w σ)) : va_D (aA w sz) (wd w σ) :=
  ⟨h.1, fun k q hk => Or.inl ⟨k, (wd_addr hk).1, (wd_addr hk).2⟩⟩
theorem aA_in {w : Wd} {σ : St} {A : Nat → Prop} {s : State} {H : Heap} {locs : List Loc} (hD : va_D A (wd w σ)) (hS : va_S A s.heap H locs) (hA : ∀ q : Nat, s.heap.size ≤ q → A q) : ∀ q, aA w H.size q → A q := by
  intro q h
  rcases h with ⟨i, hi, rfl⟩ | h
  · exact hD.2 i _ (wd_get hi)
  · exact hA q (Nat.le_trans hS.1 h)
theorem Pre_blind {w : Wd} {σ : St} {sz : Nat} {av : List Value} : FrameBlind (Pre w σ sz av) := fun a U g mk q => by
  obtain ⟨q0, q1, qP, qK, qD⟩ := q
  exact ⟨q0, q1, qP, va_K.moved (u := U) (U := U.calling g mk a) (Vm.Alike.refl U.vm) qK, qD⟩
theorem MI_of {l : Launch} {y : MethodName} {cc : ByteArray} {maxL : Nat} {ret : FieldType} {ws ws9 : List Cond} {rm : Room} {w : Wd} {av : List Value} {σ : St} {post : Int32 → St → Prop} (hy : plainName y.cls = true) (hw : ws = Cond.code y cc maxL (some ret) :: ws9) (hav : (lg_sl av).length ≤ maxL)
    (body : ∀ (p : Program) (e : Env) (s : State) (m : MethodId) (args : Array Value) (below : List Frame) (meth : Method) (c : Code) (A : Nat → Prop), Cx p s m args c w A cc y.cls maxL ws → meth.sig.returnType = (some ret) → meth.locks = false → G p l e rm s m args below meth c (MQ below (va_Qi post (Wl w A) A) args s 0 0 A) w A maxL σ 0 0 0 (lv_args 0 av) []) : MI l y ws rm w av σ post := by
  intro sz
  refine Met.ofW (cc := cc) (maxL := maxL) (ret := (some ret)) hy hw ?_
  intro p e s m args below meth c s₁ B hml hv
  obtain ⟨rfl, hsz, hP, hK, hD0⟩ := hv
  subst hsz
  have hl := lv_entry av (n := maxL) hav
  rw [lg_entry_eq]
  exact body p e s m _ below meth c (aA w s.heap.size) ⟨B.exec, B.bytes, hml, findClass_of_methodNamed B.named, atoms_spec (ws := ws) B.pre, hK, fun q h => Or.inr h⟩ B.returns B.notSynchronized s.heap [] _ hP (wd_self hD0) va_S.rf hl
theorem ML_of {l : Launch} {y : MethodName} {cc : ByteArray} {maxL : Nat} {ret : FieldType} {ws ws9 : List Cond} {rm : Room} {w : Wd} {av : List Value} {σ : St} {post : Int64 → St → Prop} (hy : plainName y.cls = true) (hw : ws = Cond.code y cc maxL (some ret) :: ws9) (hav : (lg_sl av).length ≤ maxL)
    (body : ∀ (p : Program) (e : Env) (s : State) (m : MethodId) (args : Array Value) (below : List Frame) (meth : Method) (c : Code) (A : Nat → Prop), Cx p s m args c w A cc y.cls maxL ws → meth.sig.returnType = (some ret) → meth.locks = false → G p l e rm s m args below meth c (MQ below (va_Ql post (Wl w A) A) args s 0 0 A) w A maxL σ 0 0 0 (lv_args 0 av) []) : ML l y ws rm w av σ post := by
  intro sz
  refine Met.ofW (cc := cc) (maxL := maxL) (ret := (some ret)) hy hw ?_
  intro p e s m args below meth c s₁ B hml hv
  obtain ⟨rfl, hsz, hP, hK, hD0⟩ := hv
  subst hsz
  have hl := lv_entry av (n := maxL) hav
  rw [lg_entry_eq]
  exact body p e s m _ below meth c (aA w s.heap.size) ⟨B.exec, B.bytes, hml, findClass_of_methodNamed B.named, atoms_spec (ws := ws) B.pre, hK, fun q h => Or.inr h⟩ B.returns B.notSynchronized s.heap [] _ hP (wd_self hD0) va_S.rf hl
theorem MV_of {l : Launch} {y : MethodName} {cc : ByteArray} {maxL : Nat} {ws ws9 : List Cond} {rm : Room} {w : Wd} {av : List Value} {σ : St} {post : St → Prop} (hy : plainName y.cls = true) (hw : ws = Cond.code y cc maxL none :: ws9) (hav : (lg_sl av).length ≤ maxL)
    (body : ∀ (p : Program) (e : Env) (s : State) (m : MethodId) (args : Array Value) (below : List Frame) (meth : Method) (c : Code) (A : Nat → Prop), Cx p s m args c w A cc y.cls maxL ws → meth.sig.returnType = none → meth.locks = false → G p l e rm s m args below meth c (MQ below (va_Qv post (Wl w A) A) args s 0 0 A) w A maxL σ 0 0 0 (lv_args 0 av) []) : MV l y ws rm w av σ post := by
  intro sz
  refine Met.ofW (cc := cc) (maxL := maxL) (ret := none) hy hw ?_
  intro p e s m args below meth c s₁ B hml hv
  obtain ⟨rfl, hsz, hP, hK, hD0⟩ := hv
  subst hsz
  have hl := lv_entry av (n := maxL) hav
  rw [lg_entry_eq]
  exact body p e s m _ below meth c (aA w s.heap.size) ⟨B.exec, B.bytes, hml, findClass_of_methodNamed B.named, atoms_spec (ws := ws) B.pre, hK, fun q h => Or.inr h⟩ B.returns B.notSynchronized s.heap [] _ hP (wd_self hD0) va_S.rf hl
section GE
variable {p : Program} {l : Launch} {e : Env} {R : Room} {s : State} {m : MethodId} {args : Array Value} {below : List Frame} {meth : Method} {c : Code}
  {w : Wd} {A : Nat → Prop} {cc : ByteArray} {own : String} {nL : Nat} {Ts : List Cond} {σ : St} {cells slots pc : Nat} {lv : List (Nat × Value)} {rest : List Value}
theorem g_ireturn (C : Cx p s m args c w A cc own nL Ts) (hr : meth.sig.returnType = some .int) (hlk : meth.locks = false) {v : Int32} {post : Int32 → St → Prop} (hdg : decode cc pc = .ok (.ireturn, 1)) (hp : post v σ) : G p l e R s m args below meth c (MQ below (va_Qi post (Wl w A) A) args s cells slots A) w A nL σ cells slots pc lv [.int v] :=
  fun H locs ls hP hD hS hl => W.iret C.1 C.2.1 hr (fun t ht hW => ⟨⟨v, σ, rfl, hp, by rw [ht]; exact hP, va_K.moved hW.alike C.2.2.2.2.2.1, hD⟩, hS.F ht⟩) hS.2.2 hdg hlk
theorem g_zreturn (C : Cx p s m args c w A cc own nL Ts) (hr : meth.sig.returnType = some .boolean) (hlk : meth.locks = false) {v : Int32} {post : Int32 → St → Prop} (hdg : decode cc pc = .ok (.ireturn, 1)) (hn : v = 0 ∨ v = 1) (hp : post v σ) : G p l e R s m args below meth c (MQ below (va_Qi post (Wl w A) A) args s cells slots A) w A nL σ cells slots pc lv [.int v] :=
  fun H locs ls hP hD hS hl => W.zret C.1 C.2.1 hr (by rcases hn with rfl | rfl <;> rfl) (fun t ht hW => ⟨⟨v, σ, rfl, hp, by rw [ht]; exact hP, va_K.moved hW.alike C.2.2.2.2.2.1, hD⟩, hS.F ht⟩) hS.2.2 hdg hlk
theorem g_lreturn (C : Cx p s m args c w A cc own nL Ts) (hr : meth.sig.returnType = some .long) (hlk : meth.locks = false) {v : Int64} {post : Int64 → St → Prop} (hdg : decode cc pc = .ok (.lreturn, 1)) (hp : post v σ) : G p l e R s m args below meth c (MQ below (va_Ql post (Wl w A) A) args s cells slots A) w A nL σ cells slots pc lv [.long v] :=
  fun H locs ls hP hD hS hl => W.lret C.1 C.2.1 hr (fun t ht hW => ⟨⟨v, σ, rfl, hp, by rw [ht]; exact hP, va_K.moved hW.alike C.2.2.2.2.2.1, hD⟩, hS.F ht⟩) hS.2.2 hdg hlk
theorem g_return (C : Cx p s m args c w A cc own nL Ts) (hr : meth.sig.returnType = none) (hlk : meth.locks = false) {post : St → Prop} (hdg : decode cc pc = .ok (.return_, 1)) (hp : post σ) : G p l e R s m args below meth c (MQ below (va_Qv post (Wl w A) A) args s cells slots A) w A nL σ cells slots pc lv [] :=
  fun H locs ls hP hD hS hl => W.vret C.1 C.2.1 hr (fun t ht hW => ⟨⟨σ, rfl, hp, by rw [ht]; exact hP, va_K.moved hW.alike C.2.2.2.2.2.1, hD⟩, hS.F ht⟩) hS.2.2 hdg hlk
theorem g_callVi {Q : State → Prop} (C : Cx p s m args c w A cc own nL Ts) {pc9 : Nat} (hpc : pc + 3 = pc9) (b : Nat) {ci : Nat} {fs : List Value} {q : vw_C} (As : List Value) {nn : Nat} (hnn : As.length = nn) {st : List Value} {index : Nat} {y : MethodName} {bytes : ByteArray} {maxL : Nat} {ret : Option FieldType} {ws ws9 : List Cond} {rm : Room} {post : Int32 → St → Prop} (hdg : decode cc pc = .ok (.invokevirtual index, 3)) (hM : MI l y ws rm w (.ref (w.1 b) :: As) σ post) (hg : GoodIn Ts (wsV own index y.cls y ws)) (hb : b < 109) (hc : cel w σ b = .inr (ci, fs)) (hq : vwCl[ci]? = some q) (hq9 : q.1 = y.cls) (hw : ws = Cond.code y bytes maxL ret :: ws9) (hrc : rm.cells = 0) (hrs : rm.slots = 0) (hd : y.cls ≠ "java/lang/invoke/MethodHandle" ∧ y.cls ≠ "java/lang/invoke/VarHandle" ∧ (parseMethodDescriptor y.desc).map (fun d => d.parameters.length) = some nn) (hR : rm.frames + 1 ≤ R.frames ∧ 8 + (maxL + 11) + rm.locals ≤ R.locals) (hst : st = (As.reverse ++ .ref (w.1 b) :: rest)) (hcat : (rest.map fun v => v.category).sum ≤ 8) (hcr : cells + 0 ≤ R.cells ∧ slots + 0 ≤ R.slots) (k9 : ∀ (r : Int32) (σ9 : St), post r σ9 → G p l e R s m args below meth c Q w A nL σ9 cells slots pc9 lv (.int r :: rest)) : G p l e R s m args below meth c Q w A nL σ cells slots pc lv st :=
  fun H locs ls hP hD hS hl => by
    subst hpc
    have hF := aA_in hD hS C.2.2.2.2.2.2
    refine va_calli (va_runV (C := y.cls) (As := As) (rest := rest) ⟨C.1, C.2.1, C.2.2.1, C.2.2.2.1, C.2.2.2.2.1⟩ (hM H.size) (cwV nn C.2.2.2.2.1 hg hw hrc hrs ⟨rfl, hd⟩ hR) ⟨Pre_blind, hq9 ▸ va_recv C.2.2.2.2.2.1 hP hq (by rw [wd_get hb, hc]), fun U hU hW => ⟨rfl, by rw [hU], by rw [hU]; exact hP, va_K.moved hW.alike C.2.2.2.2.2.1, hD.weaken (fun _ _ _ _ => trivial)⟩⟩ rfl hnn hl.1 hst (lv_room hcat) hdg ⟨hcr.1, hcr.2⟩) hS (fun q _ h => hF q h) hF (fun r σ9 t H1 locs1 ht hvm hw9 hB hz1 hk1 hS1 => ?_)
    obtain ⟨hP1, hK1, hD1⟩ := hB
    rw [ht] at hP1
    exact k9 r σ9 hw9 H1 locs1 ls hP1 (wd_DA hD) hS1 hl
theorem g_callSi {Q : State → Prop} (C : Cx p s m args c w A cc own nL Ts) {pc9 : Nat} (hpc : pc + 3 = pc9) (As : List Value) {nn : Nat} (hnn : As.length = nn) {st : List Value} {index : Nat} {y : MethodName} {bytes : ByteArray} {maxL : Nat} {ret : Option FieldType} {ws ws9 : List Cond} {rm : Room} {post : Int32 → St → Prop} (hdg : decode cc pc = .ok (.invokestatic index, 3)) (hM : MI l y ws rm w As σ post) (hg : GoodIn Ts (va_wsS own index y ws)) (hw : ws = Cond.code y bytes maxL ret :: ws9) (hrc : rm.cells = 0) (hrs : rm.slots = 0) (hd : y.cls ≠ "java/lang/invoke/MethodHandle" ∧ y.cls ≠ "java/lang/invoke/VarHandle" ∧ (parseMethodDescriptor y.desc).map (fun d => d.parameters.length) = some nn) (hR : rm.frames + 1 ≤ R.frames ∧ 8 + (maxL + 11) + rm.locals ≤ R.locals) (hst : st = (As.reverse ++ rest)) (hcat : (rest.map fun v => v.category).sum ≤ 8) (hcr : cells + 0 ≤ R.cells ∧ slots + 0 ≤ R.slots) (k9 : ∀ (r : Int32) (σ9 : St), post r σ9 → G p l e R s m args below meth c Q w A nL σ9 cells slots pc9 lv (.int r :: rest)) : G p l e R s m args below meth c Q w A nL σ cells slots pc lv st :=
  fun H locs ls hP hD hS hl => by
    subst hpc
    have hF := aA_in hD hS C.2.2.2.2.2.2
    refine va_calli (va_runS (As := As) (rest := rest) ⟨C.1, C.2.1, C.2.2.1, C.2.2.2.1, C.2.2.2.2.1⟩ (hM H.size) (va_cwS nn C.2.2.2.2.1 hg hw hrc hrs hd hR) ⟨Pre_blind, fun U hU hW => ⟨rfl, by rw [hU], by rw [hU]; exact hP, va_K.moved hW.alike C.2.2.2.2.2.1, hD.weaken (fun _ _ _ _ => trivial)⟩⟩ rfl hnn hl.1 hst (lv_room hcat) hdg ⟨hcr.1, hcr.2⟩) hS (fun q _ h => hF q h) hF (fun r σ9 t H1 locs1 ht hvm hw9 hB hz1 hk1 hS1 => ?_)
    obtain ⟨hP1, hK1, hD1⟩ := hB
    rw [ht] at hP1
    exact k9 r σ9 hw9 H1 locs1 ls hP1 (wd_DA hD) hS1 hl
theorem g_callVl {Q : State → Prop} (C : Cx p s m args c w A cc own nL Ts) {pc9 : Nat} (hpc : pc + 3 = pc9) (b : Nat) {ci : Nat} {fs : List Value} {q : vw_C} (As : List Value) {nn : Nat} (hnn : As.length = nn) {st : List Value} {index : Nat} {y : MethodName} {bytes : ByteArray} {maxL : Nat} {ret : Option FieldType} {ws ws9 : List Cond} {rm : Room} {post : Int64 → St → Prop} (hdg : decode cc pc = .ok (.invokevirtual index, 3)) (hM : ML l y ws rm w (.ref (w.1 b) :: As) σ post) (hg : GoodIn Ts (wsV own index y.cls y ws)) (hb : b < 109) (hc : cel w σ b = .inr (ci, fs)) (hq : vwCl[ci]? = some q) (hq9 : q.1 = y.cls) (hw : ws = Cond.code y bytes maxL ret :: ws9) (hrc : rm.cells = 0) (hrs : rm.slots = 0) (hd : y.cls ≠ "java/lang/invoke/MethodHandle" ∧ y.cls ≠ "java/lang/invoke/VarHandle" ∧ (parseMethodDescriptor y.desc).map (fun d => d.parameters.length) = some nn) (hR : rm.frames + 1 ≤ R.frames ∧ 8 + (maxL + 11) + rm.locals ≤ R.locals) (hst : st = (As.reverse ++ .ref (w.1 b) :: rest)) (hcat : (rest.map fun v => v.category).sum ≤ 8) (hcr : cells + 0 ≤ R.cells ∧ slots + 0 ≤ R.slots) (k9 : ∀ (r : Int64) (σ9 : St), post r σ9 → G p l e R s m args below meth c Q w A nL σ9 cells slots pc9 lv (.long r :: rest)) : G p l e R s m args below meth c Q w A nL σ cells slots pc lv st :=
  fun H locs ls hP hD hS hl => by
    subst hpc
    have hF := aA_in hD hS C.2.2.2.2.2.2
    refine va_calll (va_runV (C := y.cls) (As := As) (rest := rest) ⟨C.1, C.2.1, C.2.2.1, C.2.2.2.1, C.2.2.2.2.1⟩ (hM H.size) (cwV nn C.2.2.2.2.1 hg hw hrc hrs ⟨rfl, hd⟩ hR) ⟨Pre_blind, hq9 ▸ va_recv C.2.2.2.2.2.1 hP hq (by rw [wd_get hb, hc]), fun U hU hW => ⟨rfl, by rw [hU], by rw [hU]; exact hP, va_K.moved hW.alike C.2.2.2.2.2.1, hD.weaken (fun _ _ _ _ => trivial)⟩⟩ rfl hnn hl.1 hst (lv_room hcat) hdg ⟨hcr.1, hcr.2⟩) hS (fun q _ h => hF q h) hF (fun r σ9 t H1 locs1 ht hvm hw9 hB hz1 hk1 hS1 => ?_)
    obtain ⟨hP1, hK1, hD1⟩ := hB
    rw [ht] at hP1
    exact k9 r σ9 hw9 H1 locs1 ls hP1 (wd_DA hD) hS1 hl
theorem g_callSl {Q : State → Prop} (C : Cx p s m args c w A cc own nL Ts) {pc9 : Nat} (hpc : pc + 3 = pc9) (As : List Value) {nn : Nat} (hnn : As.length = nn) {st : List Value} {index : Nat} {y : MethodName} {bytes : ByteArray} {maxL : Nat} {ret : Option FieldType} {ws ws9 : List Cond} {rm : Room} {post : Int64 → St → Prop} (hdg : decode cc pc = .ok (.invokestatic index, 3)) (hM : ML l y ws rm w As σ post) (hg : GoodIn Ts (va_wsS own index y ws)) (hw : ws = Cond.code y bytes maxL ret :: ws9) (hrc : rm.cells = 0) (hrs : rm.slots = 0) (hd : y.cls ≠ "java/lang/invoke/MethodHandle" ∧ y.cls ≠ "java/lang/invoke/VarHandle" ∧ (parseMethodDescriptor y.desc).map (fun d => d.parameters.length) = some nn) (hR : rm.frames + 1 ≤ R.frames ∧ 8 + (maxL + 11) + rm.locals ≤ R.locals) (hst : st = (As.reverse ++ rest)) (hcat : (rest.map fun v => v.category).sum ≤ 8) (hcr : cells + 0 ≤ R.cells ∧ slots + 0 ≤ R.slots) (k9 : ∀ (r : Int64) (σ9 : St), post r σ9 → G p l e R s m args below meth c Q w A nL σ9 cells slots pc9 lv (.long r :: rest)) : G p l e R s m args below meth c Q w A nL σ cells slots pc lv st :=
  fun H locs ls hP hD hS hl => by
    subst hpc
    have hF := aA_in hD hS C.2.2.2.2.2.2
    refine va_calll (va_runS (As := As) (rest := rest) ⟨C.1, C.2.1, C.2.2.1, C.2.2.2.1, C.2.2.2.2.1⟩ (hM H.size) (va_cwS nn C.2.2.2.2.1 hg hw hrc hrs hd hR) ⟨Pre_blind, fun U hU hW => ⟨rfl, by rw [hU], by rw [hU]; exact hP, va_K.moved hW.alike C.2.2.2.2.2.1, hD.weaken (fun _ _ _ _ => trivial)⟩⟩ rfl hnn hl.1 hst (lv_room hcat) hdg ⟨hcr.1, hcr.2⟩) hS (fun q _ h => hF q h) hF (fun r σ9 t H1 locs1 ht hvm hw9 hB hz1 hk1 hS1 => ?_)
    obtain ⟨hP1, hK1, hD1⟩ := hB
    rw [ht] at hP1
    exact k9 r σ9 hw9 H1 locs1 ls hP1 (wd_DA hD) hS1 hl
theorem g_callVv {Q : State → Prop} (C : Cx p s m args c w A cc own nL Ts) {pc9 : Nat} (hpc : pc + 3 = pc9) (b : Nat) {ci : Nat} {fs : List Value} {q : vw_C} (As : List Value) {nn : Nat} (hnn : As.length = nn) {st : List Value} {index : Nat} {y : MethodName} {bytes : ByteArray} {maxL : Nat} {ret : Option FieldType} {ws ws9 : List Cond} {rm : Room} {post : St → Prop} (hdg : decode cc pc = .ok (.invokevirtual index, 3)) (hM : MV l y ws rm w (.ref (w.1 b) :: As) σ post) (hg : GoodIn Ts (wsV own index y.cls y ws)) (hb : b < 109) (hc : cel w σ b = .inr (ci, fs)) (hq : vwCl[ci]? = some q) (hq9 : q.1 = y.cls) (hw : ws = Cond.code y bytes maxL ret :: ws9) (hrc : rm.cells = 0) (hrs : rm.slots = 0) (hd : y.cls ≠ "java/lang/invoke/MethodHandle" ∧ y.cls ≠ "java/lang/invoke/VarHandle" ∧ (parseMethodDescriptor y.desc).map (fun d => d.parameters.length) = some nn) (hR : rm.frames + 1 ≤ R.frames ∧ 8 + (maxL + 11) + rm.locals ≤ R.locals) (hst : st = (As.reverse ++ .ref (w.1 b) :: rest)) (hcat : (rest.map fun v => v.category).sum ≤ 8) (hcr : cells + 0 ≤ R.cells ∧ slots + 0 ≤ R.slots) (k9 : ∀ (σ9 : St), post σ9 → G p l e R s m args below meth c Q w A nL σ9 cells slots pc9 lv (rest)) : G p l e R s m args below meth c Q w A nL σ cells slots pc lv st :=
  fun H locs ls hP hD hS hl => by
    subst hpc
    have hF := aA_in hD hS C.2.2.2.2.2.2
    refine va_callv (va_runV (C := y.cls) (As := As) (rest := rest) ⟨C.1, C.2.1, C.2.2.1, C.2.2.2.1, C.2.2.2.2.1⟩ (hM H.size) (cwV nn C.2.2.2.2.1 hg hw hrc hrs ⟨rfl, hd⟩ hR) ⟨Pre_blind, hq9 ▸ va_recv C.2.2.2.2.2.1 hP hq (by rw [wd_get hb, hc]), fun U hU hW => ⟨rfl, by rw [hU], by rw [hU]; exact hP, va_K.moved hW.alike C.2.2.2.2.2.1, hD.weaken (fun _ _ _ _ => trivial)⟩⟩ rfl hnn hl.1 hst (lv_room hcat) hdg ⟨hcr.1, hcr.2⟩) hS (fun q _ h => hF q h) hF (fun σ9 t H1 locs1 ht hvm hw9 hB hz1 hk1 hS1 => ?_)
    obtain ⟨hP1, hK1, hD1⟩ := hB
    rw [ht] at hP1
    exact k9 σ9 hw9 H1 locs1 ls hP1 (wd_DA hD) hS1 hl
theorem g_callSv {Q : State → Prop} (C : Cx p s m args c w A cc own nL Ts) {pc9 : Nat} (hpc : pc + 3 = pc9) (As : List Value) {nn : Nat} (hnn : As.length = nn) {st : List Value} {index : Nat} {y : MethodName} {bytes : ByteArray} {maxL : Nat} {ret : Option FieldType} {ws ws9 : List Cond} {rm : Room} {post : St → Prop} (hdg : decode cc pc = .ok (.invokestatic index, 3)) (hM : MV l y ws rm w As σ post) (hg : GoodIn Ts (va_wsS own index y ws)) (hw : ws = Cond.code y bytes maxL ret :: ws9) (hrc : rm.cells = 0) (hrs : rm.slots = 0) (hd : y.cls ≠ "java/lang/invoke/MethodHandle" ∧ y.cls ≠ "java/lang/invoke/VarHandle" ∧ (parseMethodDescriptor y.desc).map (fun d => d.parameters.length) = some nn) (hR : rm.frames + 1 ≤ R.frames ∧ 8 + (maxL + 11) + rm.locals ≤ R.locals) (hst : st = (As.reverse ++ rest)) (hcat : (rest.map fun v => v.category).sum ≤ 8) (hcr : cells + 0 ≤ R.cells ∧ slots + 0 ≤ R.slots) (k9 : ∀ (σ9 : St), post σ9 → G p l e R s m args below meth c Q w A nL σ9 cells slots pc9 lv (rest)) : G p l e R s m args below meth c Q w A nL σ cells slots pc lv st :=
  fun H locs ls hP hD hS hl => by
    subst hpc
    have hF := aA_in hD hS C.2.2.2.2.2.2
    refine va_callv (va_runS (As := As) (rest := rest) ⟨C.1, C.2.1, C.2.2.1, C.2.2.2.1, C.2.2.2.2.1⟩ (hM H.size) (va_cwS nn C.2.2.2.2.1 hg hw hrc hrs hd hR) ⟨Pre_blind, fun U hU hW => ⟨rfl, by rw [hU], by rw [hU]; exact hP, va_K.moved hW.alike C.2.2.2.2.2.1, hD.weaken (fun _ _ _ _ => trivial)⟩⟩ rfl hnn hl.1 hst (lv_room hcat) hdg ⟨hcr.1, hcr.2⟩) hS (fun q _ h => hF q h) hF (fun σ9 t H1 locs1 ht hvm hw9 hB hz1 hk1 hS1 => ?_)
    obtain ⟨hP1, hK1, hD1⟩ := hB
    rw [ht] at hP1
    exact k9 σ9 hw9 H1 locs1 ls hP1 (wd_DA hD) hS1 hl
end GE

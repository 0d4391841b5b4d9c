/-! The law's own rows: the script, its ends -/
section LR
variable {p : Program} {l : Launch} {e : Env} {R : Room} {s : State} {m : MethodId} {args : Array Value} {below : List Frame} {meth : Method} {c : Code} {Q : State → Prop}
  {w : Wd} {A : Nat → Prop} {cc : ByteArray} {own : String} {nL : Nat} {Ts : List Cond} {σ : St} {cells slots pc : Nat} {lv : List (Nat × Value)} {rest : List Value} {b L : Nat} {xs : Nat → Int32}
theorem g_scr (C : Cx p s m args c w A cc own nL Ts) {pc9 : Nat} (hpc : pc + 1 = pc9) (hX : va_X b L xs s s.heap) (hbl : b < s.heap.size) (hbA : ¬ A b) {i : Int32} (j : Nat) (hi : i = nI j) (hj : j < L) (hL : L < 2 ^ 31) (hdg : decode cc pc = .ok (.iaload, 1)) (k9 : G p l e R s m args below meth c Q w A nL σ cells slots pc9 lv (.int (xs j) :: rest)) : G p l e R s m args below meth c Q w A nL σ cells slots pc lv (.int i :: .ref b :: rest) :=
  fun H locs ls hP hD hS hl => by
    subst hpc; subst hi
    refine va_sld C.1 C.2.1 hX hbl hbA hS (vp_in_nI hj hL) hdg ?_
    rw [nI_clamp (by omega)]
    exact k9 H locs ls hP hD hS hl
theorem g_slen (C : Cx p s m args c w A cc own nL Ts) {pc9 : Nat} (hpc : pc + 1 = pc9) (hX : va_X b L xs s s.heap) (hbl : b < s.heap.size) (hbA : ¬ A b) (hdg : decode cc pc = .ok (.arraylength, 1)) (k9 : G p l e R s m args below meth c Q w A nL σ cells slots pc9 lv (.int (nI L) :: rest)) : G p l e R s m args below meth c Q w A nL σ cells slots pc lv (.ref b :: rest) :=
  fun H locs ls hP hD hS hl => by
    subst hpc
    exact va_slen C.1 C.2.1 hX hbl hbA hS hdg (k9 H locs ls hP hD hS hl)
theorem g_lawret {b : Nat} (C : Cx p s m #[Value.ref b] c w A cL_law own nL Ts) (hA : ∀ q, A q → s.heap.size ≤ q) (hr : meth.sig.returnType = ret) (hlk : meth.locks = false) (hc : cells ≤ 601024) (hs : slots ≤ 7293034) (hdg : decode code pc = .ok (.ireturn, 1)) : G p l e room_1 s m #[Value.ref b] below meth c (lw_Z below #[Value.ref b] s) w A nL σ cells slots pc lv [.int 1] :=
  fun H locs ls hP hD hS hl => va_forget (fun q hq => hA _ (hS.2.2 q hq)) (W.widen hc hs (lw_ret C.1 C.2.1 hr hlk hdg))
end LR
theorem lg_eq {x y : Int64} (h : x = y) : lg_cmp x y = 0 := by
  subst h
  unfold lg_cmp
  simp

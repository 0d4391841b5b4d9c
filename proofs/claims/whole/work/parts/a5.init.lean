/-! The start: both sides alike, the launch, the classes -/
theorem lw_hst {l : Launch} (h : l.flags = flags0) : l.stackTraces = false := by
  show (!l.flags.contains noTraceFlag) = false
  rw [h]
  decide +kernel
def σ0 : St := (fun _ _ => 0, fun _ _ => 0, fun a k => if a = 0 then (if k = 4 then -1 else if k = 16 then 12 else 0) else if a = 34 then (if k = 5 then -1 else 0) else if a = 53 then (if k = 0 then 12 else 0) else 0, fun i => i)
theorem σ0_N (j k : Nat) : nF σ0 (64 + 5 * j) k = 0 := by
  show (if 64 + 5 * j = 0 then _ else if 64 + 5 * j = 34 then _ else if 64 + 5 * j = 53 then _ else (0 : Int32)) = 0
  rw [if_neg (by omega), if_neg (by omega), if_neg (by omega)]
theorem σ0_n (j : Nat) : nn σ0 j = 0 := by
  show (nF σ0 (64 + 5 * j) 4).toNatClampNeg = 0
  rw [σ0_N]
  rfl
theorem σ0_m (i : Nat) : mN σ0 i = 0 := rfl
theorem σ0_tr (j : Nat) : trOk σ0 j := by
  refine ⟨?_, ?_, ?_, ?_, ?_⟩
  · rw [σ0_n]; exact σ0_N j 4
  · rw [σ0_n]; omega
  · intro v _ h; rw [σ0_n] at h; omega
  · intro h; rw [σ0_n] at h; omega
  · intro v h; rw [σ0_n] at h; omega
theorem RX_0 : RX σ0 σ0 := by
  refine ⟨⟨0, by omega, rfl, rfl, fun k _ => ⟨by show (0 : Int32) = 0 &&& nI 255; decide, by show (0 : Int32).toInt8.toInt32 = 0; decide⟩⟩, ⟨rfl, rfl⟩, ⟨⟨0, by omega, rfl, rfl, fun k h => absurd h (by omega)⟩, fun u _ => ?_, fun u _ => ?_⟩, ⟨0, by omega, rfl, rfl, fun t h => absurd h (by omega)⟩, ⟨0, by omega, rfl, rfl, fun t h => absurd h (by omega)⟩, fun k _ => rfl, ⟨12, by omega, by omega, rfl, rfl, ⟨0, by omega, rfl⟩, ⟨0, by omega, rfl⟩, fun k _ => rfl, ⟨fun i j _ _ => rfl, fun i _ => rfl, fun i j _ _ => ?_⟩, fun i j _ _ => ?_⟩, ⟨fun i h => h, fun j _ => σ0_tr j⟩, fun i k _ _ h => h, fun i hi => ⟨⟨σ0_tr i, ?_, ?_, ?_⟩, ?_, ?_, id, id, ?_⟩⟩
  · show ix 47 (0 : Int32); exact Or.inr ⟨0, by omega, rfl⟩
  · show ix 47 (0 : Int32); exact Or.inr ⟨0, by omega, rfl⟩
  · show (0 : Int32) ≤ 0; decide
  · show (0 : Int32) ≤ 100000; decide
  · intro h; rw [show nn σ0 (tS σ0 i) = 0 from σ0_n i] at h; omega
  · intro v h; rw [show nn σ0 (tS σ0 i) = 0 from σ0_n i] at h; omega
  · show nF σ0 (64 + 5 * i) 5 = nI (cntU _ (nn σ0 i))
    rw [σ0_n, σ0_N]; rfl
  · refine ⟨rfl, by rw [σ0_m]; omega, ?_, ?_, ?_⟩
    · intro v _ h; rw [σ0_m] at h; omega
    · intro h; rw [σ0_m] at h; omega
    · intro v h; rw [σ0_m] at h; omega
  · rw [σ0_m]; exact (σ0_n i).symm
  · have e : nn σ0 (tS σ0 i) = 0 := σ0_n i
    refine ⟨?_, rfl, ?_, ?_⟩
    · intro v h; rw [e] at h; omega
    · intro v h; rw [e] at h; omega
    · intro v _ h; rw [e] at h; omega
/-- what the tables say of the classes and the arrays -/
theorem lw_K {s : State} {args : Array Value} (hts : ∀ u ∈ lw_tbl, u.before args s = true) : ∃ (D : va_G) (cs : ClassId × ClassId × ClassId × ClassId × ClassId), va_K D vwCl (wTys (fun _ => 0, D, cs)) s := by
  obtain ⟨c0, i0, h0⟩ := u_known (C := RX0) (T := TX0) (N := 7) (n := 7) hts inX0 (hts (.instantiable RX0 7) (by decide +kernel))
  obtain ⟨c1, i1, h1⟩ := u_known (C := RX1) (T := TX1) (N := 2) (n := 2) hts inX1 (hts (.instantiable RX1 2) (by decide +kernel))
  obtain ⟨c2, i2, h2⟩ := u_known (C := RX2) (T := TX2) (N := 5) (n := 5) hts inX2 (hts (.instantiable RX2 5) (by decide +kernel))
  obtain ⟨c3, i3, h3⟩ := u_known (C := RX3) (T := TX3) (N := 6) (n := 6) hts inX3 (hts (.instantiable RX3 6) (by decide +kernel))
  obtain ⟨c4, i4, h4⟩ := u_known (C := RX4) (T := TX4) (N := 2) (n := 2) hts inX4 (hts (.instantiable RX4 2) (by decide +kernel))
  obtain ⟨c5, i5, h5⟩ := u_known (C := RX5) (T := TX5) (N := 3) (n := 3) hts inX5 (hts (.instantiable RX5 3) (by decide +kernel))
  obtain ⟨c6, i6, h6⟩ := u_known (C := RX6) (T := TX6) (N := 2) (n := 2) hts inX6 (hts (.instantiable RX6 2) (by decide +kernel))
  obtain ⟨c7, i7, h7⟩ := u_known (C := RX7) (T := TX7) (N := 6) (n := 6) hts inX7 (hts (.instantiable RX7 6) (by decide +kernel))
  obtain ⟨c8, i8, h8⟩ := u_known (C := RX8) (T := TX8) (N := 3) (n := 3) hts inX8 (hts (.instantiable RX8 3) (by decide +kernel))
  obtain ⟨c9, i9, h9⟩ := u_known (C := RX9) (T := TX9) (N := 4) (n := 4) hts inX9 (hts (.instantiable RX9 4) (by decide +kernel))
  obtain ⟨ca, ia, ha⟩ := u_known (C := RX10) (T := TX10) (N := 12) (n := 12) hts inX10 (hts (.instantiable RX10 12) (by decide +kernel))
  obtain ⟨cb, ib, hb⟩ := u_known (C := RX11) (T := TX11) (N := 39) (n := 39) hts inX11 (hts (.instantiable RX11 39) (by decide +kernel))
  obtain ⟨aB, kB, mB9, fB, gB, eB⟩ := Cond.arrayClass_spec (hts (.arrayClass .byte) (by decide +kernel))
  obtain ⟨aI, kI, mI9, fI, gI, eI⟩ := Cond.arrayClass_spec (hts (.arrayClass .int) (by decide +kernel))
  obtain ⟨aJ, kJ, mJ9, fJ, gJ, eJ⟩ := Cond.arrayClass_spec (hts (.arrayClass .long) (by decide +kernel))
  obtain ⟨aZ, kZ, mZ9, fZ, gZ, eZ⟩ := Cond.arrayClass_spec (hts (.arrayClass .boolean) (by decide +kernel))
  obtain ⟨mT9, aT, kT, fT, _, gT, eT, nT⟩ := Cond.arrayOver_spec (hts (.arrayOver (.object RX7)) (by decide +kernel))
  refine ⟨(fun k => match k with | 0 => c0 | 1 => c1 | 2 => c2 | 3 => c3 | 4 => c4 | 5 => c5 | 6 => c6 | 7 => c7 | 8 => c8 | 9 => c9 | 10 => ca | _ => cb, fun k => match k with | 0 => i0 | 1 => i1 | 2 => i2 | 3 => i3 | 4 => i4 | 5 => i5 | 6 => i6 | 7 => i7 | 8 => i8 | 9 => i9 | 10 => ia | _ => ib), (aB, aI, aJ, aZ, aT), ?_, ?_⟩
  · intro k q hq
    match k, hq with
    | 0, hq => cases hq; exact h0
    | 1, hq => cases hq; exact h1
    | 2, hq => cases hq; exact h2
    | 3, hq => cases hq; exact h3
    | 4, hq => cases hq; exact h4
    | 5, hq => cases hq; exact h5
    | 6, hq => cases hq; exact h6
    | 7, hq => cases hq; exact h7
    | 8, hq => cases hq; exact h8
    | 9, hq => cases hq; exact h9
    | 10, hq => cases hq; exact ha
    | 11, hq => cases hq; exact hb
    | k + 12, hq => simp [vwCl] at hq
  · intro k q hq
    match k, hq with
    | 0, hq => cases hq; exact ⟨fun n z => ⟨fun k h => (by cases h), kB, gB, mB9, eB⟩, fB⟩
    | 1, hq => cases hq; exact ⟨fun n z => ⟨fun k h => (by cases h), kI, gI, mI9, eI⟩, fI⟩
    | 2, hq => cases hq; exact ⟨fun n z => ⟨fun k h => (by cases h), kJ, gJ, mJ9, eJ⟩, fJ⟩
    | 3, hq => cases hq; exact ⟨fun n z => ⟨fun k h => (by cases h), kZ, gZ, mZ9, eZ⟩, fZ⟩
    | 4, hq => cases hq; exact ⟨fun n z => ⟨fun k h => (by cases h), kT, gT, mT9, eT⟩, kT, mT9, gT, eT, fT, nT⟩
    | k + 5, hq => simp [wTys] at hq

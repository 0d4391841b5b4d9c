/-! The law's loop -/
theorem nI_tI9 {n : Nat} (h : n < 2 ^ 31) : (nI n).toInt = n := by
  show (Int32.ofNat n).toInt = n
  rw [Int32.toInt_ofNat_of_lt (by omega)]
theorem and63 (x : Int32) : ∃ k, k < 64 ∧ x &&& nI 63 = nI k := by
  refine ⟨(x &&& nI 63).toBitVec.toNat, ?_, ?_⟩
  · show (x.toBitVec &&& (nI 63).toBitVec).toNat < 64
    rw [BitVec.toNat_and]
    exact Nat.lt_of_le_of_lt Nat.and_le_right (by decide)
  · refine Int32.toBitVec_inj.mp ?_
    show (x &&& nI 63).toBitVec = BitVec.ofNat 32 (x &&& nI 63).toBitVec.toNat
    rw [BitVec.ofNat_toNat, BitVec.setWidth_eq]
theorem sub_I {L : Nat} (h : L < 2 ^ 30) : (nI L - nI 6).toInt = (L : Int) - 6 := by
  rw [Int32.toInt_sub, nI_tI9 (by omega), nI_tI9 (by decide)]
  exact Int.bmod_eq_of_le (by omega) (by omega)
theorem sub6_gt {L i : Nat} (h : L < i + 6) (hL : i < 2 ^ 30 ∧ L < 2 ^ 30) : nI L - nI 6 < nI i := by
  rw [Int32.lt_iff_toInt_lt, sub_I hL.2, nI_tI9 (by omega)]
  omega
theorem sub6_le {L i : Nat} (h : i + 6 ≤ L) (hL : L < 2 ^ 30) : ¬ nI L - nI 6 < nI i := by
  rw [Int32.lt_iff_toInt_lt, sub_I hL, nI_tI9 (by omega)]
  omega
set_option maxRecDepth 100000 in
set_option maxHeartbeats 4000000 in
/-- one turn, from the switch -/
theorem law_turn {p : Program} {l : Launch} {e : Env} {s : State} {m : MethodId} {below : List Frame} {meth : Method} {c : Code} {Q : State → Prop} {w : Wd} {sA : Nat → Nat} {b L : Nat} {xs : Nat → Int32} {A : Nat → Prop} (hst : l.stackTraces = false) (X : LC p s m meth c w sA b L xs A) (σ : St) (h : RX σ σ) (i : Nat) (hi : i + 6 ≤ L) (cells slots : Nat) (hc : cells + 20 ≤ 601024) (hs : slots + 120 ≤ 7293034) (kont : ∀ σ9, RX σ9 σ9 → G p l e room_1 s m #[Value.ref b] below meth c Q w A 8 σ9 (cells + 20) (slots + 120) 2093 [(4, .int (nI i)), (3, .ref (w.1 30)), (2, .ref (w.1 0)), (1, .ref (w.1 31)), (0, .ref b)] []) : G p l e room_1 s m #[Value.ref b] below meth c Q w A 8 σ cells slots 33 [(4, .int (nI i)), (3, .ref (w.1 30)), (2, .ref (w.1 0)), (1, .ref (w.1 31)), (0, .ref b)] [] := by
  obtain ⟨C, hXF, hN, hX, hbl, hbA, hA9, hr9, hlk9, hL⟩ := id X
  refine g_aload_n (pc9 := 34) C rfl 4 dL_law_33 rfl rfl ?_
  refine g_iload (pc9 := 36) C rfl 0 dL_law_34 rfl ?_
  refine g_scr (pc9 := 37) C rfl hX hbl hbA i rfl (by omega) (by omega) dL_law_36 ?_
  refine g_bipush (pc9 := 39) C rfl (nI 63) dL_law_37 rfl ?_
  refine g_iand (pc9 := 40) C rfl dL_law_39 ?_
  obtain ⟨k, hk, ek⟩ := and63 (xs i)
  rw [ek]
  by_cases h35 : k < 35
  · have q35 : k = 0 ∨ k = 1 ∨ k = 2 ∨ k = 3 ∨ k = 4 ∨ k = 5 ∨ k = 6 ∨ k = 7 ∨ k = 8 ∨ k = 9 ∨ k = 10 ∨ k = 11 ∨ k = 12 ∨ k = 13 ∨ k = 14 ∨ k = 15 ∨ k = 16 ∨ k = 17 ∨ k = 18 ∨ k = 19 ∨ k = 20 ∨ k = 21 ∨ k = 22 ∨ k = 23 ∨ k = 24 ∨ k = 25 ∨ k = 26 ∨ k = 27 ∨ k = 28 ∨ k = 29 ∨ k = 30 ∨ k = 31 ∨ k = 32 ∨ k = 33 ∨ k = 34 := by omega
    rcases q35 with rfl | rfl | rfl | rfl | rfl | rfl | rfl | rfl | rfl | rfl | rfl | rfl | rfl | rfl | rfl | rfl | rfl | rfl | rfl | rfl | rfl | rfl | rfl | rfl | rfl | rfl | rfl | rfl | rfl | rfl | rfl | rfl | rfl | rfl | rfl
    · refine g_tableIn C 196 (off := 156) dL_law_40 (by decide) (by decide) (by decide) rfl ?_
      exact lc_feed hst X σ h i hi cells slots hc hs kont
    · refine g_tableIn C 269 (off := 229) dL_law_40 (by decide) (by decide) (by decide) rfl ?_
      exact lc_end hst X σ h i hi cells slots hc hs kont
    · refine g_tableIn C 294 (off := 254) dL_law_40 (by decide) (by decide) (by decide) rfl ?_
      exact lc_read hst X σ h i hi cells slots hc hs kont
    · refine g_tableIn C 350 (off := 310) dL_law_40 (by decide) (by decide) (by decide) rfl ?_
      exact lc_fault hst X σ h i hi cells slots hc hs kont
    · refine g_tableIn C 375 (off := 335) dL_law_40 (by decide) (by decide) (by decide) rfl ?_
      exact lc_write hst X σ h i hi cells slots hc hs kont
    · refine g_tableIn C 431 (off := 391) dL_law_40 (by decide) (by decide) (by decide) rfl ?_
      exact lc_written hst X σ h i hi cells slots hc hs kont
    · refine g_tableIn C 456 (off := 416) dL_law_40 (by decide) (by decide) (by decide) rfl ?_
      exact lc_again hst X σ h i hi cells slots hc hs kont
    · refine g_tableIn C 469 (off := 429) dL_law_40 (by decide) (by decide) (by decide) rfl ?_
      exact lc_clear hst X σ h i hi cells slots hc hs kont
    · refine g_tableIn C 532 (off := 492) dL_law_40 (by decide) (by decide) (by decide) rfl ?_
      exact lc_look hst X σ h i hi cells slots hc hs kont
    · refine g_tableIn C 600 (off := 560) dL_law_40 (by decide) (by decide) (by decide) rfl ?_
      exact lc_has hst X σ h i hi cells slots hc hs kont
    · refine g_tableIn C 675 (off := 635) dL_law_40 (by decide) (by decide) (by decide) rfl ?_
      exact lc_least hst X σ h i hi cells slots hc hs kont
    · refine g_tableIn C 743 (off := 703) dL_law_40 (by decide) (by decide) (by decide) rfl ?_
      exact lc_nearer hst X σ h i hi cells slots hc hs kont
    · refine g_tableIn C 835 (off := 795) dL_law_40 (by decide) (by decide) (by decide) rfl ?_
      exact lc_unlike hst X σ h i hi cells slots hc hs kont
    · refine g_tableIn C 903 (off := 863) dL_law_40 (by decide) (by decide) (by decide) rfl ?_
      exact lc_alike hst X σ h i hi cells slots hc hs kont
    · refine g_tableIn C 971 (off := 931) dL_law_40 (by decide) (by decide) (by decide) rfl ?_
      exact lc_cut hst X σ h i hi cells slots hc hs kont
    · refine g_tableIn C 1051 (off := 1011) dL_law_40 (by decide) (by decide) (by decide) rfl ?_
      exact lc_strict hst X σ h i hi cells slots hc hs kont
    · refine g_tableIn C 1119 (off := 1079) dL_law_40 (by decide) (by decide) (by decide) rfl ?_
      exact lc_most hst X σ h i hi cells slots hc hs kont
    · refine g_tableIn C 1187 (off := 1147) dL_law_40 (by decide) (by decide) (by decide) rfl ?_
      exact lc_triple hst X σ h i hi cells slots hc hs kont
    · refine g_tableIn C 1267 (off := 1227) dL_law_40 (by decide) (by decide) (by decide) rfl ?_
      exact lc_untriple hst X σ h i hi cells slots hc hs kont
    · refine g_tableIn C 1280 (off := 1240) dL_law_40 (by decide) (by decide) (by decide) rfl ?_
      exact lc_build hst X σ h i hi cells slots hc hs kont
    · refine g_tableIn C 1348 (off := 1308) dL_law_40 (by decide) (by decide) (by decide) rfl ?_
      exact lc_shown hst X σ h i hi cells slots hc hs kont
    · refine g_tableIn C 1404 (off := 1364) dL_law_40 (by decide) (by decide) (by decide) rfl ?_
      exact lc_sign hst X σ h i hi cells slots hc hs kont
    · refine g_tableIn C 1460 (off := 1420) dL_law_40 (by decide) (by decide) (by decide) rfl ?_
      exact lc_unsign hst X σ h i hi cells slots hc hs kont
    · refine g_tableIn C 1473 (off := 1433) dL_law_40 (by decide) (by decide) (by decide) rfl ?_
      exact lc_perfect hst X σ h i hi cells slots hc hs kont
    · refine g_tableIn C 1541 (off := 1501) dL_law_40 (by decide) (by decide) (by decide) rfl ?_
      exact lc_state hst X σ h i hi cells slots hc hs kont
    · refine g_tableIn C 1601 (off := 1561) dL_law_40 (by decide) (by decide) (by decide) rfl ?_
      exact lc_changes hst X σ h i hi cells slots hc hs kont
    · refine g_tableIn C 1669 (off := 1629) dL_law_40 (by decide) (by decide) (by decide) rfl ?_
      exact lc_kinds hst X σ h i hi cells slots hc hs kont
    · refine g_tableIn C 1705 (off := 1665) dL_law_40 (by decide) (by decide) (by decide) rfl ?_
      exact lc_distance hst X σ h i hi cells slots hc hs kont
    · refine g_tableIn C 1765 (off := 1725) dL_law_40 (by decide) (by decide) (by decide) rfl ?_
      exact lc_fourPoints hst X σ h i hi cells slots hc hs kont
    · refine g_tableIn C 1778 (off := 1738) dL_law_40 (by decide) (by decide) (by decide) rfl ?_
      exact lc_clock hst X σ h i hi cells slots hc hs kont
    · refine g_tableIn C 1841 (off := 1801) dL_law_40 (by decide) (by decide) (by decide) rfl ?_
      exact lc_nearest hst X σ h i hi cells slots hc hs kont
    · refine g_tableIn C 1877 (off := 1837) dL_law_40 (by decide) (by decide) (by decide) rfl ?_
      exact lc_doublings hst X σ h i hi cells slots hc hs kont
    · refine g_tableIn C 1945 (off := 1905) dL_law_40 (by decide) (by decide) (by decide) rfl ?_
      exact lc_losses hst X σ h i hi cells slots hc hs kont
    · refine g_tableIn C 2013 (off := 1973) dL_law_40 (by decide) (by decide) (by decide) rfl ?_
      exact lc_orders hst X σ h i hi cells slots hc hs kont
    · refine g_tableIn C 2068 (off := 2028) dL_law_40 (by decide) (by decide) (by decide) rfl ?_
      exact lc_count hst X σ h i hi cells slots hc hs kont
  · refine g_tableOut C 2093 dL_law_40 (Or.inr (by rw [nI_tI9 (by omega)]; omega)) rfl ?_
    exact g_wid (by omega) (by omega) (kont σ h)
set_option maxRecDepth 100000 in
set_option maxHeartbeats 4000000 in
/-- the loop -/
theorem law_loop {p : Program} {l : Launch} {e : Env} {s : State} {m : MethodId} {below : List Frame} {meth : Method} {c : Code} {w : Wd} {sA : Nat → Nat} {b L : Nat} {xs : Nat → Int32} {A : Nat → Prop} (hst : l.stackTraces = false) (X : LC p s m meth c w sA b L xs A) : ∀ n i (σ : St) cells slots, RX σ σ → L ≤ i + 6 * n → i ≤ L → cells + 20 * n ≤ 601024 → slots + 120 * n ≤ 7293034 → G p l e room_1 s m #[Value.ref b] below meth c (lw_Z below #[Value.ref b] s) w A 8 σ cells slots 23 [(4, .int (nI i)), (3, .ref (w.1 30)), (2, .ref (w.1 0)), (1, .ref (w.1 31)), (0, .ref b)] []
  | 0, i, σ, cells, slots, h, h1, h2, hc, hs => by
    obtain ⟨C, hXF, hN, hX, hbl, hbA, hA9, hr9, hlk9, hL⟩ := id X
    refine g_iload (pc9 := 25) C rfl 0 dL_law_23 rfl ?_
    refine g_aload_n (pc9 := 26) C rfl 4 dL_law_25 rfl rfl ?_
    refine g_slen (pc9 := 27) C rfl hX hbl hbA dL_law_26 ?_
    refine g_bipush (pc9 := 29) C rfl (nI 6) dL_law_27 rfl ?_
    refine g_isub (pc9 := 30) C rfl dL_law_29 ?_
    refine g_icmp_gt (pc9 := 33) C rfl 2099 dL_law_30 rfl (fun _ => ?_) (fun z => absurd (sub6_gt (by omega) (by omega)) z)
    refine g_iconst (pc9 := 2100) C rfl 1 dL_law_2099 rfl ?_
    exact g_lawret C hA9 hr9 hlk9 (by omega) (by omega) dL_law_2100
  | n + 1, i, σ, cells, slots, h, h1, h2, hc, hs => by
    obtain ⟨C, hXF, hN, hX, hbl, hbA, hA9, hr9, hlk9, hL⟩ := id X
    refine g_iload (pc9 := 25) C rfl 0 dL_law_23 rfl ?_
    refine g_aload_n (pc9 := 26) C rfl 4 dL_law_25 rfl rfl ?_
    refine g_slen (pc9 := 27) C rfl hX hbl hbA dL_law_26 ?_
    refine g_bipush (pc9 := 29) C rfl (nI 6) dL_law_27 rfl ?_
    refine g_isub (pc9 := 30) C rfl dL_law_29 ?_
    by_cases hi : i + 6 ≤ L
    · refine g_icmp_gt (pc9 := 33) C rfl 2099 dL_law_30 rfl (fun z => absurd z (sub6_le hi (by omega))) (fun _ => ?_)
      refine law_turn hst X σ h i hi cells slots (by omega) (by omega) (fun σ9 h9 => ?_)
      refine g_iinc (pc9 := 2096) C rfl [(4, .int (nI (i + 6))), (3, .ref (w.1 30)), (2, .ref (w.1 0)), (1, .ref (w.1 31)), (0, .ref b)] 0 (nI (i + 6)) dL_law_2093 rfl (nI_add i 6) (by decide) rfl ?_
      refine g_goto C 23 dL_law_2096 rfl ?_
      exact law_loop hst X n (i + 6) σ9 (cells + 20) (slots + 120) h9 (by omega) hi (by omega) (by omega)
    · refine g_icmp_gt (pc9 := 33) C rfl 2099 dL_law_30 rfl (fun _ => ?_) (fun z => absurd (sub6_gt (by omega) (by omega)) z)
      refine g_iconst (pc9 := 2100) C rfl 1 dL_law_2099 rfl ?_
      exact g_lawret C hA9 hr9 hlk9 (by omega) (by omega) dL_law_2100

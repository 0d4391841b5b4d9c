/-! Calls that are alike on both sides: the tape, faults, triples, signs, states, distances -/
theorem RX.tape {σ τ : St} (h : RX σ τ) : rTape σ τ := h.1
theorem RX.fau {σ τ : St} (h : RX σ τ) : rFau σ τ := h.2.1
theorem RX.wri {σ τ : St} (h : RX σ τ) : rWri σ τ := h.2.2.1
theorem RX.tri {σ τ : St} (h : RX σ τ) : rTri σ τ := h.2.2.2.1
theorem RX.sig {σ τ : St} (h : RX σ τ) : rSig σ τ := h.2.2.2.2.1
theorem RX.sta {σ τ : St} (h : RX σ τ) : rSta σ τ := h.2.2.2.2.2.1
theorem RX.dis {σ τ : St} (h : RX σ τ) : rDis σ τ := h.2.2.2.2.2.2.1
theorem RX.tre {σ τ : St} (h : RX σ τ) : rTre σ τ := h.2.2.2.2.2.2.2
theorem s_fault {σ τ : St} (h : RX σ τ) (x : Int32) : SN (fun r σ9 => σ9 = σ ∧ r = if x = nI 0 then nF σ 34 4 else if x = nI 1 then nF σ 34 5 else -1) (fun r σ9 => σ9 = mT τ 0 ∧ r = if x = nI 0 then nF τ 0 3 else if x = nI 1 then nF τ 0 4 else -1) σ τ := by
  rintro r σ8 ⟨rfl, rfl⟩
  refine ⟨mAg.rf, ?_⟩
  rintro b τ9 ⟨rfl, rfl⟩
  refine ⟨cAg_t, ?_, RX_t h⟩
  rw [h.fau.1, h.fau.2]
theorem s_untriple {σ τ : St} (h : RX σ τ) : SN (fun r σ9 => σ9 = sN σ 43 2 (nI 0) ∧ r = nF σ 43 2) (fun r σ9 => σ9 = sN (mT τ 0) 0 11 (nI 0) ∧ r = nF τ 0 11) σ τ := by
  rintro r σ8 ⟨rfl, rfl⟩
  refine ⟨mAg.rf.N (by omega), ?_⟩
  rintro b τ9 ⟨rfl, rfl⟩
  refine ⟨cAg_t.N (by omega), ?_, h.tape, h.fau, h.wri, ⟨0, by omega, nF_s, nF_s, fun t ht => absurd ht (by omega)⟩, h.sig, h.sta, h.dis, rTre_c (tAg.rf.N (by omega)) (rTre_m rfl rfl rfl h.tre)⟩
  obtain ⟨z, _, e1, e2, _⟩ := h.tri
  rw [e1, e2]
theorem s_unsign {σ τ : St} (h : RX σ τ) : SN (fun r σ9 => σ9 = sN σ 46 1 (nI 0) ∧ r = nF σ 46 1) (fun r σ9 => σ9 = sN (mT τ 0) 0 13 (nI 0) ∧ r = nF τ 0 13) σ τ := by
  rintro r σ8 ⟨rfl, rfl⟩
  refine ⟨mAg.rf.N (by omega), ?_⟩
  rintro b τ9 ⟨rfl, rfl⟩
  refine ⟨cAg_t.N (by omega), ?_, h.tape, h.fau, h.wri, h.tri, ⟨0, by omega, nF_s, nF_s, fun t ht => absurd ht (by omega)⟩, h.sta, h.dis, rTre_c (tAg.rf.N (by omega)) (rTre_m rfl rfl rfl h.tre)⟩
  obtain ⟨z, _, e1, e2, _⟩ := h.sig
  rw [e1, e2]
theorem s_end {σ τ : St} (h : RX σ τ) (L : Nat) (hL : nF σ 32 1 = nI L) (h4 : L ≤ 400) (x : Int32) : SN (enR σ L x) (menR τ L x) σ τ := by
  intro r σ8 h1
  unfold enR at h1
  split at h1
  · rename_i hc
    obtain ⟨rfl, rfl⟩ := h1
    refine ⟨mAg.rf.N (by omega), ?_⟩
    intro b τ9 h2
    unfold menR at h2
    rw [if_pos hc] at h2
    obtain ⟨rfl, rfl⟩ := h2
    obtain ⟨n, hn, rfl⟩ := okI_le (n := L) (by omega) (Int32.not_lt.mpr hc.1) hc.2
    obtain ⟨m, hm, e1, e2, e3⟩ := h.tape
    exact ⟨cAg_t.N (by omega), rfl, ⟨n, by omega, nF_s, nF_s, e3⟩, h.fau, h.wri, h.tri, h.sig, h.sta, h.dis, rTre_c (tAg.rf.N (by omega)) (rTre_m rfl rfl rfl h.tre)⟩
  · rename_i hc
    obtain ⟨rfl, rfl⟩ := h1
    refine ⟨mAg.rf, ?_⟩
    intro b τ9 h2
    unfold menR at h2
    rw [if_neg hc] at h2
    obtain ⟨rfl, rfl⟩ := h2
    exact ⟨cAg_t, rfl, RX_t h⟩
theorem s_written {σ τ : St} (h : RX σ τ) (M : Nat) (hM : nF σ 36 1 = nI M) (hM4 : M ≤ 94) (x : Int32) : SN (fun r σ9 => σ9 = σ ∧ r = wrR σ M x) (fun r σ9 => σ9 = mT τ 0 ∧ r = mwrR τ M x) σ τ := by
  rintro r σ8 ⟨rfl, rfl⟩
  refine ⟨mAg.rf, ?_⟩
  rintro b τ9 ⟨rfl, rfl⟩
  refine ⟨cAg_t, ?_, RX_t h⟩
  unfold wrR mwrR
  split
  · rename_i hc
    obtain ⟨n, hn, rfl⟩ := okI_of (n := M) (by omega) (Int32.not_lt.mpr hc.1) hc.2
    obtain ⟨⟨m, hm, e1, e2, e3⟩, _⟩ := h.wri
    have : m = M := (nI_eq (by omega) (by omega)).mp (by rw [← e1, hM])
    subst this
    rw [nI_clamp (by omega)]
    exact ((e3 n hn).1).symm
  · rfl
/-! bytes -/
theorem In_255 {k : Nat} : In k (nI 255) ↔ k < 8 := by
  have e : ∀ k : Fin 32, ((nI 255).toBitVec.getLsbD k.val = true ↔ k.val < 8) := by decide +kernel
  constructor
  · intro h
    exact (e ⟨k, In_32 h⟩).mp h
  · intro h
    exact (e ⟨k, by omega⟩).mpr h
theorem sh_A {x : Int32} {s k : Nat} (hs : s < 32) (hk : s + k < 32) : In k (x >>> nI s) ↔ In (s + k) x := by
  have e2 : ∀ s : Fin 32, ((nI s.val).toBitVec.smod 32).toNat = s.val := by decide +kernel
  have e1 : (x >>> nI s).toBitVec = x.toBitVec.sshiftRight s := by
    show x.toBitVec.sshiftRight' ((nI s).toBitVec.smod 32) = _
    rw [BitVec.sshiftRight', e2 ⟨s, hs⟩]
  unfold In
  rw [e1, BitVec.getLsbD_sshiftRight, if_pos hk, decide_eq_false (by omega)]
  simp
theorem sh_U {x : Int32} {s k : Nat} (hs : s < 32) : In k ((x.toUInt32 >>> ((nI s).toUInt32 &&& Int32.toUInt32 31)).toInt32) ↔ In (s + k) x := by
  have e2 : ∀ s : Fin 32, (((nI s.val).toUInt32 &&& Int32.toUInt32 31).toBitVec % 32#32).toNat = s.val := by decide +kernel
  have e1 : ((x.toUInt32 >>> ((nI s).toUInt32 &&& Int32.toUInt32 31)).toInt32).toBitVec = x.toBitVec >>> s := by
    show x.toBitVec >>> (((nI s).toUInt32 &&& Int32.toUInt32 31).toBitVec % 32#32) = _
    rw [BitVec.ushiftRight_eq', e2 ⟨s, hs⟩]
  unfold In
  rw [e1, BitVec.getLsbD_ushiftRight]
theorem In_b8 {y : Int32} {k : Nat} (hk : k < 8) : In k (y.toInt8.toInt32) ↔ In k y := by
  unfold In
  rw [Int8.toBitVec_toInt32, Int32.toBitVec_toInt8, BitVec.getLsbD_signExtend, BitVec.getLsbD_signExtend]
  simp [hk, show k < 32 by omega]
/-- the class's byte and the reference's -/
theorem by_eq {y z : Int32} (h : ∀ k, k < 8 → (In k z ↔ In k y)) : z &&& nI 255 = (y.toInt8.toInt32) &&& nI 255 := by
  refine In_ext (fun k _ => ?_)
  rw [In_and, In_and, In_255]
  constructor
  · intro ⟨a, b⟩
    exact ⟨(In_b8 b).mpr ((h k b).mp a), b⟩
  · intro ⟨a, b⟩
    exact ⟨(h k b).mpr ((In_b8 b).mp a), b⟩
def cby (x : Int32) (q : Nat) : Int32 := if q = 0 then (x.toUInt32 >>> ((nI 24).toUInt32 &&& Int32.toUInt32 31)).toInt32 &&& nI 255 else if q = 1 then (x.toUInt32 >>> ((nI 16).toUInt32 &&& Int32.toUInt32 31)).toInt32 &&& nI 255 else if q = 2 then (x.toUInt32 >>> ((nI 8).toUInt32 &&& Int32.toUInt32 31)).toInt32 &&& nI 255 else x &&& nI 255
def mby (x : Int32) (q : Nat) : Int32 := vp_nar .byte ((x >>> ((nI 24 - nI 8 * nI q) &&& 31)).toInt8.toInt32)
theorem cm_by (x : Int32) {q : Nat} (hq : q < 4) : cby x q = mby x q &&& nI 255 ∧ (mby x q).toInt8.toInt32 = mby x q := by
  have e : ∀ q : Fin 4, (nI 24 - nI 8 * nI q.val) &&& 31 = nI (24 - 8 * q.val) := by decide +kernel
  have e1 : mby x q = (x >>> nI (24 - 8 * q)).toInt8.toInt32 := by
    unfold mby
    rw [pk_vb, e ⟨q, hq⟩]
  rw [e1]
  refine ⟨?_, by rw [Int8.toInt8_toInt32]⟩
  rcases (show q = 0 ∨ q = 1 ∨ q = 2 ∨ q = 3 by omega) with rfl | rfl | rfl | rfl
  · exact by_eq (fun k hk => (sh_U (by omega)).trans (sh_A (by omega) (by omega)).symm)
  · exact by_eq (fun k hk => (sh_U (by omega)).trans (sh_A (by omega) (by omega)).symm)
  · exact by_eq (fun k hk => (sh_U (by omega)).trans (sh_A (by omega) (by omega)).symm)
  · exact by_eq (fun k hk => by rw [sh_A (by omega) (by omega)]; simp)
def w4 (f : Nat → Int32) (L : Nat) (x : Int32) : Nat → Int32 := upd (upd (upd (upd f L (cby x 0)) (L + 1) (cby x 1)) (L + 2) (cby x 2)) (L + 3) (cby x 3)
theorem w4_o {f : Nat → Int32} {L k : Nat} {x : Int32} (h : k < L ∨ L + 4 ≤ k) : w4 f L x k = f k := by
  unfold w4
  rw [pk_un (by omega), pk_un (by omega), pk_un (by omega), pk_un (by omega)]
theorem w4_i {f : Nat → Int32} {L q : Nat} {x : Int32} (h : q < 4) : w4 f L x (L + q) = cby x q := by
  unfold w4
  rcases (show q = 0 ∨ q = 1 ∨ q = 2 ∨ q = 3 by omega) with rfl | rfl | rfl | rfl
  · rw [pk_un (by omega), pk_un (by omega), pk_un (by omega)]; exact pk_us
  · rw [pk_un (by omega), pk_un (by omega), pk_us]
  · rw [pk_un (by omega), pk_us]
  · rw [pk_us]
theorem tW_33 {σ : St} {L : Nat} {x : Int32} : iA (tW σ L x) 33 = w4 (iA σ 33) L x := by
  unfold tW tB w4
  simp only [iA_N, iA_s]
  rfl
theorem tW_N {σ : St} {L : Nat} {x : Int32} : nF (tW σ L x) 32 1 = nI (L + 4) := by
  unfold tW tB
  exact nF_s
theorem tW_m {σ σ8 : St} {L : Nat} {x : Int32} (h : mAg σ σ8) : mAg σ (tW σ8 L x) := by
  unfold tW tB
  exact (((((((h.I (by omega)).N (by omega)).I (by omega)).N (by omega)).I (by omega)).N (by omega)).I (by omega)).N (by omega)
theorem tW_t {σ σ8 : St} {L : Nat} {x : Int32} (h : tAg σ σ8) : tAg σ (tW σ8 L x) := by
  unfold tW tB
  exact (((((((h.I (by omega)).N (by omega)).I (by omega)).N (by omega)).I (by omega)).N (by omega)).I (by omega)).N (by omega)
/-- a state with another tape -/
theorem tW_R {σ : St} {L : Nat} {x : Int32} {τ : St} (h : rFau σ τ ∧ rWri σ τ ∧ rTri σ τ ∧ rSig σ τ ∧ rSta σ τ ∧ rDis σ τ) : rFau (tW σ L x) τ ∧ rWri (tW σ L x) τ ∧ rTri (tW σ L x) τ ∧ rSig (tW σ L x) τ ∧ rSta (tW σ L x) τ ∧ rDis (tW σ L x) τ := h
theorem s_feed {σ τ : St} (h : RX σ τ) (L : Nat) (hL : nF σ 32 1 = nI L) (h4 : L ≤ 400) (a1 a2 a3 a4 a5 : Int32) : SN (fdR σ L a1 a2 a3 a4 a5) (mfdR τ L a1 a2 a3 a4 a5) σ τ := by
  intro r σ8 h1
  unfold fdR at h1
  by_cases hc : L + 20 ≤ 400
  · rw [if_pos hc] at h1
    obtain ⟨rfl, rfl⟩ := h1
    refine ⟨tW_m (tW_m (tW_m (tW_m (tW_m mAg.rf)))), ?_⟩
    intro b τ9 h2
    unfold mfdR at h2
    rw [if_pos hc] at h2
    obtain ⟨rfl, rfl⟩ := h2
    have hR := tW_R (L := L + 16) (x := a5) (tW_R (L := L + 12) (x := a4) (tW_R (L := L + 8) (x := a3) (tW_R (L := L + 4) (x := a2) (tW_R (L := L) (x := a1) ⟨h.fau, h.wri, h.tri, h.sig, h.sta, h.dis⟩))))
    refine ⟨(((cAg_t.I (by omega)).I (by omega)).N (by omega)), rfl, ⟨L + 20, hc, tW_N, nF_s, ?_⟩, hR.1, hR.2.1, hR.2.2.1, hR.2.2.2.1, hR.2.2.2.2.1, hR.2.2.2.2.2, rTre_c (tW_t (tW_t (tW_t (tW_t (tW_t tAg.rf))))) (rTre_m rfl rfl rfl h.tre)⟩
    intro k hk
    obtain ⟨m, hm, e1, e2, e3⟩ := h.tape
    rw [tW_33, tW_33, tW_33, tW_33, tW_33]
    have eT : iA (sN (sI (sI (mT τ 0) 19 (fiv a1 a2 a3 a4 a5 (iA τ 19))) 1 (apB (fdB (fiv a1 a2 a3 a4 a5 (iA τ 19))) (iA τ 1) L 20)) 0 2 (nI (L + 20))) 1 k = if L ≤ k ∧ k < L + 20 then fdB (fiv a1 a2 a3 a4 a5 (iA τ 19)) (k - L) else iA τ 1 k := rfl
    rw [eT]
    by_cases hr : L ≤ k ∧ k < L + 20
    · rw [if_pos hr]
      have hq4 : (k - L) % 4 < 4 := Nat.mod_lt _ (by omega)
      have key : ∀ m (a : Int32), (k - L) / 4 = m → fiv a1 a2 a3 a4 a5 (iA τ 19) m = a → fdB (fiv a1 a2 a3 a4 a5 (iA τ 19)) (k - L) = mby a ((k - L) % 4) := by
        intro m a e1 e2
        show vp_nar .byte ((fiv a1 a2 a3 a4 a5 (iA τ 19) ((k - L) / 4) >>> _).toInt8.toInt32) = _
        rw [e1, e2]
        rfl
      rcases (show (k - L) / 4 = 0 ∨ (k - L) / 4 = 1 ∨ (k - L) / 4 = 2 ∨ (k - L) / 4 = 3 ∨ (k - L) / 4 = 4 by omega) with e | e | e | e | e
      · rw [key 0 a1 e rfl, w4_o (by omega), w4_o (by omega), w4_o (by omega), w4_o (by omega), show k = L + (k - L) % 4 by omega, w4_i (by omega)]
        rw [show (L + (k - L) % 4 - L) % 4 = (k - L) % 4 by omega]
        exact cm_by a1 hq4
      · rw [key 1 a2 e rfl, w4_o (by omega), w4_o (by omega), w4_o (by omega), show k = L + 4 + (k - L) % 4 by omega, w4_i (by omega)]
        rw [show (L + 4 + (k - L) % 4 - L) % 4 = (k - L) % 4 by omega]
        exact cm_by a2 hq4
      · rw [key 2 a3 e rfl, w4_o (by omega), w4_o (by omega), show k = L + 8 + (k - L) % 4 by omega, w4_i (by omega)]
        rw [show (L + 8 + (k - L) % 4 - L) % 4 = (k - L) % 4 by omega]
        exact cm_by a3 hq4
      · rw [key 3 a4 e rfl, w4_o (by omega), show k = L + 12 + (k - L) % 4 by omega, w4_i (by omega)]
        rw [show (L + 12 + (k - L) % 4 - L) % 4 = (k - L) % 4 by omega]
        exact cm_by a4 hq4
      · rw [key 4 a5 e rfl, show k = L + 16 + (k - L) % 4 by omega, w4_i (by omega)]
        rw [show (L + 16 + (k - L) % 4 - L) % 4 = (k - L) % 4 by omega]
        exact cm_by a5 hq4
    · rw [if_neg hr, w4_o (by omega), w4_o (by omega), w4_o (by omega), w4_o (by omega), w4_o (by omega)]
      exact e3 k hk
  · rw [if_neg hc] at h1
    obtain ⟨rfl, rfl⟩ := h1
    refine ⟨mAg.rf, ?_⟩
    intro b τ9 h2
    unfold mfdR at h2
    rw [if_neg hc] at h2
    obtain ⟨rfl, rfl⟩ := h2
    exact ⟨cAg_t, rfl, RX_t h⟩
/-! again -/
theorem tB_R {σ : St} {L : Nat} {x : Int32} {τ : St} (h : rFau σ τ ∧ rWri σ τ ∧ rTri σ τ ∧ rSig σ τ ∧ rSta σ τ ∧ rDis σ τ) : rFau (tB σ L x) τ ∧ rWri (tB σ L x) τ ∧ rTri (tB σ L x) τ ∧ rSig (tB σ L x) τ ∧ rSta (tB σ L x) τ ∧ rDis (tB σ L x) τ := h
theorem agB_R {σ : St} {L : Nat} {τ : St} (h : rFau σ τ ∧ rWri σ τ ∧ rTri σ τ ∧ rSig σ τ ∧ rSta σ τ ∧ rDis σ τ) : ∀ k, rFau (agB σ L k) τ ∧ rWri (agB σ L k) τ ∧ rTri (agB σ L k) τ ∧ rSig (agB σ L k) τ ∧ rSta (agB σ L k) τ ∧ rDis (agB σ L k) τ
  | 0 => h
  | k + 1 => tB_R (agB_R h k)
theorem agB_m {σ : St} {L : Nat} : ∀ k, mAg σ (agB σ L k) ∧ tAg σ (agB σ L k)
  | 0 => ⟨mAg.rf, tAg.rf⟩
  | k + 1 => ⟨((agB_m k).1.I (by omega)).N (by omega), ((agB_m k).2.I (by omega)).N (by omega)⟩
theorem agB_33 {σ : St} {L : Nat} : ∀ k q, iA (agB σ L k) 33 q = if L ≤ q ∧ q < L + k then iA σ 37 (q - L) &&& nI 255 else iA σ 33 q
  | 0, q => by rw [if_neg (by omega)]; rfl
  | k + 1, q => by
    have e : iA (agB σ L (k + 1)) 33 q = upd (iA (agB σ L k) 33) (L + k) (iA σ 37 k &&& nI 255) q := rfl
    rw [e]
    by_cases hq : q = L + k
    · rw [hq, pk_us, if_pos ⟨by omega, by omega⟩, show L + k - L = k by omega]
    · rw [pk_un hq, agB_33 k q]
      by_cases hr : L ≤ q ∧ q < L + k
      · rw [if_pos hr, if_pos ⟨hr.1, by omega⟩]
      · rw [if_neg hr, if_neg (by omega)]
theorem b128 : ∀ m : Fin 128, nI m.val &&& nI 255 = nI m.val ∧ vp_nar .byte (nI m.val) = nI m.val := by decide +kernel
theorem s_again {σ τ : St} (h : RX σ τ) (L : Nat) (hL : nF σ 32 1 = nI L) (h4 : L ≤ 400) (M : Nat) (hM : nF σ 36 1 = nI M) (hM4 : M ≤ 94) : SN (aiR σ L M) (maiR τ L M) σ τ := by
  intro r σ8 h1
  unfold aiR at h1
  by_cases hc : L + M ≤ 400
  · rw [if_pos hc] at h1
    obtain ⟨rfl, rfl⟩ := h1
    refine ⟨(agB_m M).1, ?_⟩
    intro b τ9 h2
    unfold maiR at h2
    rw [if_pos hc] at h2
    obtain ⟨rfl, rfl⟩ := h2
    have hR := agB_R (L := L) ⟨h.fau, h.wri, h.tri, h.sig, h.sta, h.dis⟩ M
    refine ⟨((cAg_t.I (by omega)).N (by omega)), rfl, ⟨L + M, hc, agB_L hL M, nF_s, ?_⟩, hR.1, hR.2.1, hR.2.2.1, hR.2.2.2.1, hR.2.2.2.2.1, hR.2.2.2.2.2, rTre_c (agB_m M).2 (rTre_m rfl rfl rfl h.tre)⟩
    intro k hk
    obtain ⟨m, hm, e1, e2, e3⟩ := h.tape
    obtain ⟨⟨n, hn, f1, f2, f3⟩, _⟩ := h.wri
    have : n = M := (nI_eq (by omega) (by omega)).mp (by rw [← f1, hM])
    subst this
    have eT : iA (sN (sI (mT τ 0) 1 (apB (fun k => wB (iA τ 11 k)) (iA τ 1) L n)) 0 2 (nI (L + n))) 1 k = if L ≤ k ∧ k < L + n then wB (iA τ 11 (k - L)) else iA τ 1 k := rfl
    rw [eT, agB_33]
    by_cases hr : L ≤ k ∧ k < L + n
    · rw [if_pos hr, if_pos hr]
      obtain ⟨g1, x, hx, g2⟩ := f3 (k - L) (by omega)
      rw [← g1, g2]
      have hb := b128 ⟨x, hx⟩
      show _ = vp_nar .byte (nI x) &&& nI 255 ∧ (vp_nar .byte (nI x)).toInt8.toInt32 = vp_nar .byte (nI x)
      rw [hb.2]
      exact ⟨rfl, hb.2⟩
    · rw [if_neg hr, if_neg hr]
      exact e3 k hk
  · rw [if_neg hc] at h1
    obtain ⟨rfl, rfl⟩ := h1
    refine ⟨mAg.rf, ?_⟩
    intro b τ9 h2
    unfold maiR at h2
    rw [if_neg hc] at h2
    obtain ⟨rfl, rfl⟩ := h2
    exact ⟨cAg_t, rfl, RX_t h⟩

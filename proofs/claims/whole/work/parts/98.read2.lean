/-! read: the call -/
theorem exF_m1 {f : Nat → Int32} {L : Nat} : ∀ k i r, (exF f L k i r).1 = 0 → (exF f L k i r).2.1 = -1
  | 0, i, r, h => by
    unfold exF at h ⊢
    by_cases e : r.2.2.1 = 2
    · rw [if_pos e]
    · rw [if_neg e] at h
      exact absurd (show nI 1 = 0 from h) (by decide)
  | k + 1, i, r, h => by
    unfold exF at h ⊢
    by_cases e : (rdR (f i) r).1 = 0
    · rw [if_pos e] at h ⊢
      exact exF_m1 k (i + 1) _ h
    · rw [if_neg e] at h
      exact absurd h e
theorem put47_8 {h g : Nat → Int32} {n i v : Nat} (hi : i < 8) (hv : v < 47) : put47 h g 8 n (47 * i + v) = g (47 * i + v) := by
  unfold put47
  rw [if_neg (by omega)]
theorem rS2_m {σ : St} {L : Nat} : mAg σ (rS2 σ L) := ((((((mAg.rf.N (by omega)).I (by omega)).N (by omega)).N (by omega)).N (by omega)).N (by omega)).N (by omega)
theorem rS2_t {σ : St} {L : Nat} : tAg σ (rS2 σ L) := ((((((tAg.rf.N (by omega)).I (by omega)).N (by omega)).N (by omega)).N (by omega)).N (by omega)).N (by omega)
theorem rS2_R {σ τ τ9 : St} {L : Nat} (h : RX σ τ) (h2 : nF τ9 0 2 = nI 0) (h3 : nF τ9 0 3 = (rX σ L).1) (h4 : nF τ9 0 4 = (rX σ L).2.1) (hT : iA τ9 1 = iA τ 1) (hW : nF τ9 0 18 = nF τ 0 18 ∧ iA τ9 11 = iA τ 11) (hR : nF τ9 0 11 = nF τ 0 11 ∧ iA τ9 5 = iA τ 5 ∧ iA τ9 6 = iA τ 6 ∧ iA τ9 7 = iA τ 7) (hS : nF τ9 0 13 = nF τ 0 13 ∧ iA τ9 8 = iA τ 8) (hs : iA τ9 9 = iA τ 9) (hD : nF τ9 0 16 = nF τ 0 16 ∧ iA τ9 10 = iA τ 10) : R7 (rS2 σ L) τ9 := by
  obtain ⟨n, hn, e1, e2, e3⟩ := h.tape
  refine ⟨⟨0, by omega, rfl, h2, by rw [hT]; exact e3⟩, ⟨h3.symm, h4.symm⟩, ?_, ?_, ?_, ?_, ?_⟩
  · unfold rWri; rw [hW.1, hW.2]; exact h.wri
  · unfold rTri; rw [hR.1, hR.2.1, hR.2.2.1, hR.2.2.2]; exact h.tri
  · unfold rSig; rw [hS.1, hS.2]; exact h.sig
  · unfold rSta; rw [hs]; exact h.sta
  · unfold rDis; rw [hD.1, hD.2]; exact h.dis
theorem rS4_R {σ τ9 : St} {L i : Nat} (h : R7 (rS2 σ L) τ9) : R7 (rS4 σ L i) τ9 := by
  refine R7_c (σ := rS2 σ L) (fun a q1 q2 q3 q4 => ⟨?_, ?_⟩) h
  · show iA (rS3 σ L) a = _
    exact (iA_n (by omega)).trans (iA_N.trans (iA_N.trans ((iA_n (by omega)).trans ((iA_n (by omega)).trans ((iA_n (by omega)).trans (iA_n (by omega)))))))
  · show nF (rS3 σ L) a = _
    exact (nF_fn (by omega)).trans (nF_fn (by omega))
theorem rS4_m {σ : St} {L i : Nat} : mAg σ (rS4 σ L i) := ((la_m rS2_m).T).T
/-- the tree that is read lies on both shelves -/
theorem rd_tre {σ τ : St} (h : RX σ τ) {L : Nat} (hL : L ≤ 400) (hF : (rX σ L).1 = 0) {i : Nat} (hi : i < 8) {op c : Nat → Int32} {a : Nat} : rTre (rS4 σ L i) (mcpS (rdT (mR2 τ) (gwU (iA τ 1) gz L) op c a) i (gwU (iA τ 1) gz L).1) ∧ tL (rS4 σ L i) (tS (rS4 σ L i) i) = nI (rdU (iA τ 1) (0, 0, 0, iA τ 15) L).2.1 := by
  have hnF : noF (iA σ 33) (0, 0, 0, iA σ 35) L := exF_noF hF
  have h0 : (gq0 (rS2 σ L) (tS σ 8)).1 = 0 ∧ (gq0 (rS2 σ L) (tS σ 8)).2.1 = -1 ∧ (gq0 (rS2 σ L) (tS σ 8)).2.2.1 = 0 := ⟨rfl, rfl, rfl⟩
  obtain ⟨t1, t2, t3, t4⟩ := gT_TV hL h0 hnF
  have hw := wq_U (g := iA τ 1) (q9 := gz) hL h0 hnF (fun j hj => rTape_cq h j (by omega)) ⟨rfl, rfl, fun v hv => absurd (show v < 0 from hv) (by omega)⟩ L (Nat.le_refl _)
  have hr := rq_U (f := iA σ 33) (g := iA τ 1) (rd0_rq (c := iA σ 35) (c9 := iA τ 15)) L (fun j hj => rTape_cq h j (by omega))
  generalize hq : gwU (iA σ 33) (gq0 (rS2 σ L) (tS σ 8)) L = q at t1 t2 t3 t4 hw
  generalize hq9 : gwU (iA τ 1) gz L = q9 at hw ⊢
  obtain ⟨w1, w2, w3⟩ := hw
  obtain ⟨c1, c2, c3⟩ := la_cTr (σ := rS2 σ L) (j := tS σ 8) (n := q.1) (D := q.2.2) (c9 := gath (grP q.2.2) (q.1 - 1) q.2.2.2.2.2.1) (P := grP q.2.2) t3 t1 t2.2.2.1 (fun _ => t2) (fun v _ _ => rfl) (fun v _ => rfl)
  have hG : rS3 σ L = laid (rS2 σ L) (tS σ 8) q.1 q.2.2 (gath (grP q.2.2) (q.1 - 1) q.2.2.2.2.2.1) := by unfold rS3; rw [hq]; rfl
  have hs4 : rS4 σ L i = sT (sT (laid (rS2 σ L) (tS σ 8) q.1 q.2.2 (gath (grP q.2.2) (q.1 - 1) q.2.2.2.2.2.1)) i (tS σ 8)) 8 (tS σ i) := by unfold rS4; rw [hG]
  have r2 : iA (mcpS (rdT (mR2 τ) q9 op c a) i q9.1) 2 = upd (upd (iA τ 2) 8 (nI q9.1)) i (nI q9.1) := rfl
  have r3 : iA (mcpS (rdT (mR2 τ) q9 op c a) i q9.1) 3 = put47 (fun u => put47 q9.2.2.2.1 (iA τ 3) 8 q9.1 (47 * 8 + u)) (put47 q9.2.2.2.1 (iA τ 3) 8 q9.1) i q9.1 := rfl
  have r4 : iA (mcpS (rdT (mR2 τ) q9 op c a) i q9.1) 4 = put47 (fun u => put47 q9.2.2.2.2.1 (iA τ 4) 8 q9.1 (47 * 8 + u)) (put47 q9.2.2.2.2.1 (iA τ 4) 8 q9.1) i q9.1 := rfl
  have m2 : iA (mcpS (rdT (mR2 τ) q9 op c a) i q9.1) 2 i = nI q9.1 := by rw [r2, pk_us]
  have m3 : ∀ v, v < q.1 → iA (mcpS (rdT (mR2 τ) q9 op c a) i q9.1) 3 (47 * i + v) = q.2.2.2.1 v := fun v hv => by
    rw [r3, put47_i (by omega), put47_i (by omega), (w3 v hv).1]
  have m4 : ∀ v, v < q.1 → iA (mcpS (rdT (mR2 τ) q9 op c a) i q9.1) 4 (47 * i + v) = q.2.2.2.2.1 v := fun v hv => by
    rw [r4, put47_i (by omega), put47_i (by omega), (w3 v hv).2]
  have mn : mN (mcpS (rdT (mR2 τ) q9 op c a) i q9.1) i = q.1 := by
    show (iA (mcpS (rdT (mR2 τ) q9 op c a) i q9.1) 2 i).toNatClampNeg = q.1
    rw [m2, ← w1]; exact nI_clamp (by omega)
  have mpe : ∀ v, v < q.1 → mp (mcpS (rdT (mR2 τ) q9 op c a) i q9.1) i v = tdP q.2.2 v := fun v hv => by
    show (iA (mcpS (rdT (mR2 τ) q9 op c a) i q9.1) 3 (47 * i + v)).toNatClampNeg = _
    rw [m3 v hv]
  constructor
  · rw [hs4]
    refine rTre_set (σ := rS2 σ L) (τ := τ) (rTre_c rS2_t h.tre) hi (fun j hj => la_o hj) rfl c1 (fun k hk hne => ⟨?_, fun v hv => ?_, fun v hv => ?_⟩) ⟨?_, ?_, fun v h0 hv => ?_, fun h0 => ?_, fun v hv => ?_⟩ ?_ ?_
    · rw [r2, pk_un hne, pk_un (by omega)]
    · rw [r3, put47_o (by omega) hne hv, put47_8 hk hv]
    · rw [r4, put47_o (by omega) hne hv, put47_8 hk hv]
    · rw [mn, m2, w1]
    · rw [mn]; exact t3
    · rw [mn] at hv
      rw [mpe v hv]
      obtain ⟨u, hu, e⟩ := t1.2.2.2.2 v h0 hv
      have e2 : tdP q.2.2 v = u := by show (q.2.2.2.1 v).toNatClampNeg = u; rw [e]; exact nI_clamp (by omega)
      rw [e2]
      exact ⟨(m3 v hv).trans e, hu⟩
    · rw [mn] at h0
      exact (m3 0 h0).trans (t1.2.2.2.1 h0)
    · rw [mn] at hv
      have e := m4 v hv
      have := t2.2.2.1 v hv
      rw [← e] at this
      exact this
    · exact mn.trans c2.symm
    · rw [show tS (rS2 σ L) 8 = tS σ 8 from rfl, c2, c3, la_K]
      exact ⟨id, id, Iso_r (Iso_id _ _ _) mpe m4⟩
  · have s4 : tS (rS4 σ L i) i = tS σ 8 := rS4_t hi
    rw [s4, hs4]
    show tL (laid (rS2 σ L) (tS σ 8) q.1 q.2.2 (gath (grP q.2.2) (q.1 - 1) q.2.2.2.2.2.1)) (tS σ 8) = _
    rw [la_L, t4, hr.2.1]
theorem s_read {σ τ : St} (h : RX σ τ) (L : Nat) (hL : L ≤ 400) (x : Int32) : SX exState (fun r σ9 => ∃ i, i < 8 ∧ x = nI i ∧ (rX σ L).1 = 0 ∧ σ9 = rS4 σ L i ∧ r = tL σ9 (tS σ9 i)) (fun E σ9 => rdX σ L x E σ9) (mrdP τ L x) σ τ := by
  have hX := rX_eq h hL
  constructor
  · rintro r σ8 ⟨i, hi, rfl, hF, rfl, rfl⟩
    refine ⟨rS4_m, ?_⟩
    rintro b τ9 (⟨hn, -⟩ | ⟨k, hk, e, (⟨hn, -⟩ | ⟨-, rfl, op, c, a, rfl⟩)⟩)
    · exact absurd ⟨i, hi, rfl⟩ hn
    · exact absurd (by rw [← hX.1]; exact hF) hn
    · have := (nI8 hi hk).mp e
      subst this
      obtain ⟨t1, t2⟩ := rd_tre h hL hF hi (op := op) (c := c) (a := a)
      refine ⟨?_, rfl, t2.symm, RX_of7 (rS4_R (rS2_R h rfl ?_ ?_ rfl ⟨rfl, rfl⟩ ⟨rfl, rfl, rfl, rfl⟩ ⟨rfl, rfl⟩ rfl ⟨rfl, rfl⟩)) t1⟩
      · exact ((((((((((((cAg_t.N (by omega)).N (by omega)).N (by omega)).I (by omega)).I (by omega)).I (by omega)).I (by omega)).I (by omega)).N (by omega)).I (by omega)).I (by omega)).I (by omega))
      · rw [hF]; rfl
      · rw [show (rX σ L).2.1 = -1 from exF_m1 _ _ _ hF]; rfl
  · rintro E σ8 (⟨rfl, hn, rfl⟩ | ⟨rfl, ⟨i, hi, rfl⟩, hF, rfl⟩)
    · refine ⟨1, by decide, mAg.rf.N (by omega), ?_⟩
      rintro b τ9 (⟨-, rfl⟩ | ⟨k, hk, e, -⟩)
      · obtain ⟨n, hn4, e1, e2, e3⟩ := h.tape
        exact ⟨cAg_t.N (by omega), rfl, ⟨0, by omega, nF_s, nF_s, e3⟩, h.fau, h.wri, h.tri, h.sig, h.sta, h.dis, rTre_c (tAg.rf.N (by omega)) (rTre_m rfl rfl rfl h.tre)⟩
      · exact absurd ⟨k, hk, e⟩ hn
    · refine ⟨2, by decide, rS2_m, ?_⟩
      rintro b τ9 (⟨hn, -⟩ | ⟨k, hk, e, (⟨-, n, hh, kk, op, c, a, rfl⟩ | ⟨hn, -⟩)⟩)
      · exact absurd ⟨i, hi, rfl⟩ hn
      · refine ⟨?_, rfl, RX_of7 (rS2_R h rfl hX.1.symm hX.2.symm rfl ⟨rfl, rfl⟩ ⟨rfl, rfl, rfl, rfl⟩ ⟨rfl, rfl⟩ rfl ⟨rfl, rfl⟩) (rTre_c rS2_t ⟨h.tre.1, h.tre.2.1, fun k hk => rSh_m ?_ (fun v hv => ?_) (fun v hv => ?_) (h.tre.2.2 k hk)⟩)⟩
        · exact ((((((((((((cAg_t.N (by omega)).N (by omega)).N (by omega)).I (by omega)).I (by omega)).I (by omega)).I (by omega)).I (by omega)).N (by omega)).N (by omega)).N (by omega)).N (by omega))
        · show upd (iA τ 2) 8 (nI n) k = iA τ 2 k
          exact pk_un (by omega)
        · show put47 hh (iA τ 3) 8 n (47 * k + v) = _
          exact put47_8 hk hv
        · show put47 kk (iA τ 4) 8 n (47 * k + v) = _
          exact put47_8 hk hv
      · exact absurd (by rw [hX.1]; exact hn) hF

/-! The law's cases -/
set_option maxRecDepth 100000 in
set_option maxHeartbeats 4000000 in
theorem lc_nearest {p : Program} {l : Launch} {e : Env} {s : State} {m : MethodId} {below : List Frame} {meth : Method} {c : Code} {Q : State → Prop} {w : Wd} {sA : Nat → Nat} {b L : Nat} {xs : Nat → Int32} {A : Nat → Prop} (hst : l.stackTraces = false) (X : LC p s m meth c w sA b L xs A) (σ : St) (h : RX σ σ) (i : Nat) (hi : i + 6 ≤ L) (cells slots : Nat) (hc : cells + 20 ≤ 601024) (hs : slots + 120 ≤ 7293034) (kont : ∀ σ9, RX σ9 σ9 → G p l e room_1 s m #[Value.ref b] below meth c Q w A 8 σ9 (cells + 20) (slots + 120) 2093 [(4, .int (nI i)), (3, .ref (w.1 30)), (2, .ref (w.1 0)), (1, .ref (w.1 31)), (0, .ref b)] []) : G p l e room_1 s m #[Value.ref b] below meth c Q w A 8 σ cells slots 1841 [(4, .int (nI i)), (3, .ref (w.1 30)), (2, .ref (w.1 0)), (1, .ref (w.1 31)), (0, .ref b)] [] := by
  obtain ⟨C, hXF, hN, hX, hbl, hbA, _, _, _, hL⟩ := X
  obtain ⟨P, hM, hk⟩ := k_nearest l hst w sA σ h (xs (i + 1))
  refine g_aload_n (pc9 := 1842) C rfl 3 dL_law_1841 rfl rfl ?_
  refine g_aload_n (pc9 := 1843) C rfl 4 dL_law_1842 rfl rfl ?_
  refine g_iload (pc9 := 1845) C rfl 0 dL_law_1843 rfl ?_
  refine g_iconst (pc9 := 1846) C rfl (nI 1) dL_law_1845 rfl ?_
  refine g_iaddN (pc9 := 1847) C rfl dL_law_1846 ?_
  refine g_scr (pc9 := 1848) C rfl hX hbl hbA (i + 1) rfl (by omega) (by omega) dL_law_1847 ?_
  refine w_callSi (rest := []) C hXF hN (pc9 := 1851) rfl [.ref (w.1 31), .int (xs (i + 1))] (nn := 2) rfl dL_law_1848 hM gL_law_L_nearest rfl (by decide +kernel) ⟨by decide, by decide⟩ rfl (Nat.le_of_ble_eq_true rfl) ⟨by show _ ≤ 601024; omega, by show _ ≤ 7293034; omega⟩ (fun r_1 σ_1 q_1 => ?_)
  obtain ⟨PM, hM9, hk9⟩ := hk r_1 σ_1 q_1
  refine g_istore (pc9 := 1853) C rfl [(5, .int r_1), (4, .int (nI i)), (3, .ref (w.1 30)), (2, .ref (w.1 0)), (1, .ref (w.1 31)), (0, .ref b)] dL_law_1851 (by decide) rfl ?_
  refine g_aload_n (pc9 := 1854) C rfl 3 dL_law_1853 rfl rfl ?_
  refine g_aload_n (pc9 := 1855) C rfl 5 dL_law_1854 rfl rfl ?_
  refine g_iload (pc9 := 1857) C rfl 1 dL_law_1855 rfl ?_
  refine g_iconst (pc9 := 1858) C rfl (nI 1) dL_law_1857 rfl ?_
  refine g_iaddN (pc9 := 1859) C rfl dL_law_1858 ?_
  refine g_scr (pc9 := 1860) C rfl hX hbl hbA (i + 1) rfl (by omega) (by omega) dL_law_1859 ?_
  refine g_callVv (nn := 1) (rest := []) (pc9 := 1863) C rfl 0 [.int (xs (i + 1))] rfl dL_law_1860 hM9 gL_law_X11_nearest (by decide) (ce_0 w σ_1) rfl rfl rfl rfl rfl (by decide +kernel) ⟨by decide, by decide⟩ rfl (Nat.le_of_ble_eq_true rfl) ⟨by show _ ≤ 601024; omega, by show _ ≤ 7293034; omega⟩ (fun σ_2 q_2 => ?_)
  obtain ⟨t1, t3⟩ := hk9 σ_2 q_2
  refine g_aload_n (pc9 := 1864) C rfl 3 dL_law_1863 rfl rfl ?_
  refine g_callVi (nn := 0) (rest := []) (pc9 := 1867) C rfl 0 [] rfl dL_law_1864 (m_X11_thrown l w σ_2) gL_law_X11_thrown (by decide) (ce_0 w σ_2) rfl rfl rfl rfl rfl (by decide +kernel) ⟨by decide, by decide⟩ rfl (Nat.le_of_ble_eq_true rfl) ⟨by show _ ≤ 601024; omega, by show _ ≤ 7293034; omega⟩ (fun r_3 σ_3 q_3 => ?_)
  obtain ⟨qs_3, qr_3⟩ := q_3
  rw [qs_3, qr_3, t1]
  refine g_iload (pc9 := 1869) C rfl 0 dL_law_1867 rfl ?_
  refine g_icmp_eq (pc9 := 1872) C rfl 1874 dL_law_1869 rfl (fun _ => ?_) (fun z => absurd rfl z)
  refine g_goto C 2093 dL_law_1874 rfl ?_
  exact g_wid (by omega) (by omega) (g_sub [1, 2, 3, 4, 5] [(4, .int (nI i)), (3, .ref (w.1 30)), (2, .ref (w.1 0)), (1, .ref (w.1 31)), (0, .ref b)] rfl (kont σ_2 t3))
set_option maxRecDepth 100000 in
set_option maxHeartbeats 4000000 in
theorem lc_doublings {p : Program} {l : Launch} {e : Env} {s : State} {m : MethodId} {below : List Frame} {meth : Method} {c : Code} {Q : State → Prop} {w : Wd} {sA : Nat → Nat} {b L : Nat} {xs : Nat → Int32} {A : Nat → Prop} (hst : l.stackTraces = false) (X : LC p s m meth c w sA b L xs A) (σ : St) (h : RX σ σ) (i : Nat) (hi : i + 6 ≤ L) (cells slots : Nat) (hc : cells + 20 ≤ 601024) (hs : slots + 120 ≤ 7293034) (kont : ∀ σ9, RX σ9 σ9 → G p l e room_1 s m #[Value.ref b] below meth c Q w A 8 σ9 (cells + 20) (slots + 120) 2093 [(4, .int (nI i)), (3, .ref (w.1 30)), (2, .ref (w.1 0)), (1, .ref (w.1 31)), (0, .ref b)] []) : G p l e room_1 s m #[Value.ref b] below meth c Q w A 8 σ cells slots 1877 [(4, .int (nI i)), (3, .ref (w.1 30)), (2, .ref (w.1 0)), (1, .ref (w.1 31)), (0, .ref b)] [] := by
  obtain ⟨C, hXF, hN, hX, hbl, hbA, _, _, _, hL⟩ := X
  obtain ⟨P, hM, hk⟩ := k_doublings l hst w sA σ h (xs (i + 1)) (xs (i + 2))
  refine g_aload_n (pc9 := 1878) C rfl 3 dL_law_1877 rfl rfl ?_
  refine g_aload_n (pc9 := 1879) C rfl 4 dL_law_1878 rfl rfl ?_
  refine g_iload (pc9 := 1881) C rfl 0 dL_law_1879 rfl ?_
  refine g_iconst (pc9 := 1882) C rfl (nI 1) dL_law_1881 rfl ?_
  refine g_iaddN (pc9 := 1883) C rfl dL_law_1882 ?_
  refine g_scr (pc9 := 1884) C rfl hX hbl hbA (i + 1) rfl (by omega) (by omega) dL_law_1883 ?_
  refine g_aload_n (pc9 := 1885) C rfl 4 dL_law_1884 rfl rfl ?_
  refine g_iload (pc9 := 1887) C rfl 0 dL_law_1885 rfl ?_
  refine g_iconst (pc9 := 1888) C rfl (nI 2) dL_law_1887 rfl ?_
  refine g_iaddN (pc9 := 1889) C rfl dL_law_1888 ?_
  refine g_scr (pc9 := 1890) C rfl hX hbl hbA (i + 2) rfl (by omega) (by omega) dL_law_1889 ?_
  refine g_aload_n (pc9 := 1891) C rfl 1 dL_law_1890 rfl rfl ?_
  refine w_callSi (rest := []) C hXF hN (pc9 := 1894) rfl [.ref (w.1 31), .int (xs (i + 1)), .int (xs (i + 2)), .ref (w.1 30)] (nn := 4) rfl dL_law_1891 hM gL_law_L_doublings rfl (by decide +kernel) ⟨by decide, by decide⟩ rfl (Nat.le_of_ble_eq_true rfl) ⟨by show _ ≤ 601024; omega, by show _ ≤ 7293034; omega⟩ (fun r_1 σ_1 q_1 => ?_)
  obtain ⟨PM, hM9, hk9⟩ := hk r_1 σ_1 q_1
  refine g_istore (pc9 := 1896) C rfl [(5, .int r_1), (4, .int (nI i)), (3, .ref (w.1 30)), (2, .ref (w.1 0)), (1, .ref (w.1 31)), (0, .ref b)] dL_law_1894 (by decide) rfl ?_
  refine g_aload_n (pc9 := 1897) C rfl 3 dL_law_1896 rfl rfl ?_
  refine g_aload_n (pc9 := 1898) C rfl 5 dL_law_1897 rfl rfl ?_
  refine g_iload (pc9 := 1900) C rfl 1 dL_law_1898 rfl ?_
  refine g_iconst (pc9 := 1901) C rfl (nI 1) dL_law_1900 rfl ?_
  refine g_iaddN (pc9 := 1902) C rfl dL_law_1901 ?_
  refine g_scr (pc9 := 1903) C rfl hX hbl hbA (i + 1) rfl (by omega) (by omega) dL_law_1902 ?_
  refine g_aload_n (pc9 := 1904) C rfl 5 dL_law_1903 rfl rfl ?_
  refine g_iload (pc9 := 1906) C rfl 1 dL_law_1904 rfl ?_
  refine g_iconst (pc9 := 1907) C rfl (nI 2) dL_law_1906 rfl ?_
  refine g_iaddN (pc9 := 1908) C rfl dL_law_1907 ?_
  refine g_scr (pc9 := 1909) C rfl hX hbl hbA (i + 2) rfl (by omega) (by omega) dL_law_1908 ?_
  refine g_callVi (nn := 2) (rest := []) (pc9 := 1912) C rfl 0 [.int (xs (i + 1)), .int (xs (i + 2))] rfl dL_law_1909 hM9 gL_law_X11_doublings (by decide) (ce_0 w σ_1) rfl rfl rfl rfl rfl (by decide +kernel) ⟨by decide, by decide⟩ rfl (Nat.le_of_ble_eq_true rfl) ⟨by show _ ≤ 601024; omega, by show _ ≤ 7293034; omega⟩ (fun r_2 σ_2 q_2 => ?_)
  obtain ⟨t1, t2, t3⟩ := hk9 r_2 σ_2 q_2
  refine g_istore (pc9 := 1914) C rfl [(6, .int r_2), (5, .int r_1), (4, .int (nI i)), (3, .ref (w.1 30)), (2, .ref (w.1 0)), (1, .ref (w.1 31)), (0, .ref b)] dL_law_1912 (by decide) rfl ?_
  refine g_aload_n (pc9 := 1915) C rfl 4 dL_law_1914 rfl rfl ?_
  refine g_callVi (nn := 0) (rest := []) (pc9 := 1918) C rfl 0 [] rfl dL_law_1915 (m_X11_thrown l w σ_2) gL_law_X11_thrown (by decide) (ce_0 w σ_2) rfl rfl rfl rfl rfl (by decide +kernel) ⟨by decide, by decide⟩ rfl (Nat.le_of_ble_eq_true rfl) ⟨by show _ ≤ 601024; omega, by show _ ≤ 7293034; omega⟩ (fun r_3 σ_3 q_3 => ?_)
  obtain ⟨qs_3, qr_3⟩ := q_3
  rw [qs_3, qr_3, t1]
  refine g_iload (pc9 := 1920) C rfl 1 dL_law_1918 rfl ?_
  refine g_icmp_eq (pc9 := 1923) C rfl 1925 dL_law_1920 rfl (fun _ => ?_) (fun z => absurd rfl z)
  refine g_iload (pc9 := 1927) C rfl 1 dL_law_1925 rfl ?_
  refine g_if_ne (pc9 := 1930) C rfl 1942 dL_law_1927 rfl (fun _ => ?_) (fun c_1 => ?_)
  · refine g_goto C 2093 dL_law_1942 rfl ?_
    exact g_wid (by omega) (by omega) (g_sub [2, 3, 4, 5, 6] [(4, .int (nI i)), (3, .ref (w.1 30)), (2, .ref (w.1 0)), (1, .ref (w.1 31)), (0, .ref b)] rfl (kont σ_2 t3))
  · have e2 := t2 c_1
    refine g_aload_n (pc9 := 1931) C rfl 3 dL_law_1930 rfl rfl ?_
    refine g_iconst (pc9 := 1932) C rfl (nI 0) dL_law_1931 rfl ?_
    refine g_lald (pc9 := 1933) C rfl 30 0 (n := 1) (x := jA σ_2 30 0) dL_law_1932 (by decide) (ce_30 w σ_2) rfl (by decide) (by decide) rfl ?_
    refine g_iload (pc9 := 1935) C rfl 0 dL_law_1933 rfl ?_
    refine g_i2l (pc9 := 1936) C rfl dL_law_1935 ?_
    refine g_lcmp (pc9 := 1937) C rfl dL_law_1936 ?_
    refine g_if_eq (pc9 := 1940) C rfl 1942 dL_law_1937 rfl (fun _ => ?_) (fun z => absurd (lg_eq (e2)) z)
    refine g_goto C 2093 dL_law_1942 rfl ?_
    exact g_wid (by omega) (by omega) (g_sub [2, 3, 4, 5, 6] [(4, .int (nI i)), (3, .ref (w.1 30)), (2, .ref (w.1 0)), (1, .ref (w.1 31)), (0, .ref b)] rfl (kont σ_2 t3))
set_option maxRecDepth 100000 in
set_option maxHeartbeats 4000000 in
theorem lc_losses {p : Program} {l : Launch} {e : Env} {s : State} {m : MethodId} {below : List Frame} {meth : Method} {c : Code} {Q : State → Prop} {w : Wd} {sA : Nat → Nat} {b L : Nat} {xs : Nat → Int32} {A : Nat → Prop} (hst : l.stackTraces = false) (X : LC p s m meth c w sA b L xs A) (σ : St) (h : RX σ σ) (i : Nat) (hi : i + 6 ≤ L) (cells slots : Nat) (hc : cells + 20 ≤ 601024) (hs : slots + 120 ≤ 7293034) (kont : ∀ σ9, RX σ9 σ9 → G p l e room_1 s m #[Value.ref b] below meth c Q w A 8 σ9 (cells + 20) (slots + 120) 2093 [(4, .int (nI i)), (3, .ref (w.1 30)), (2, .ref (w.1 0)), (1, .ref (w.1 31)), (0, .ref b)] []) : G p l e room_1 s m #[Value.ref b] below meth c Q w A 8 σ cells slots 1945 [(4, .int (nI i)), (3, .ref (w.1 30)), (2, .ref (w.1 0)), (1, .ref (w.1 31)), (0, .ref b)] [] := by
  obtain ⟨C, hXF, hN, hX, hbl, hbA, _, _, _, hL⟩ := X
  obtain ⟨P, hM, hk⟩ := k_losses l hst w sA σ h (xs (i + 1)) (xs (i + 2))
  refine g_aload_n (pc9 := 1946) C rfl 3 dL_law_1945 rfl rfl ?_
  refine g_aload_n (pc9 := 1947) C rfl 4 dL_law_1946 rfl rfl ?_
  refine g_iload (pc9 := 1949) C rfl 0 dL_law_1947 rfl ?_
  refine g_iconst (pc9 := 1950) C rfl (nI 1) dL_law_1949 rfl ?_
  refine g_iaddN (pc9 := 1951) C rfl dL_law_1950 ?_
  refine g_scr (pc9 := 1952) C rfl hX hbl hbA (i + 1) rfl (by omega) (by omega) dL_law_1951 ?_
  refine g_aload_n (pc9 := 1953) C rfl 4 dL_law_1952 rfl rfl ?_
  refine g_iload (pc9 := 1955) C rfl 0 dL_law_1953 rfl ?_
  refine g_iconst (pc9 := 1956) C rfl (nI 2) dL_law_1955 rfl ?_
  refine g_iaddN (pc9 := 1957) C rfl dL_law_1956 ?_
  refine g_scr (pc9 := 1958) C rfl hX hbl hbA (i + 2) rfl (by omega) (by omega) dL_law_1957 ?_
  refine g_aload_n (pc9 := 1959) C rfl 1 dL_law_1958 rfl rfl ?_
  refine w_callSi (rest := []) C hXF hN (pc9 := 1962) rfl [.ref (w.1 31), .int (xs (i + 1)), .int (xs (i + 2)), .ref (w.1 30)] (nn := 4) rfl dL_law_1959 hM gL_law_L_losses rfl (by decide +kernel) ⟨by decide, by decide⟩ rfl (Nat.le_of_ble_eq_true rfl) ⟨by show _ ≤ 601024; omega, by show _ ≤ 7293034; omega⟩ (fun r_1 σ_1 q_1 => ?_)
  obtain ⟨PM, hM9, hk9⟩ := hk r_1 σ_1 q_1
  refine g_istore (pc9 := 1964) C rfl [(5, .int r_1), (4, .int (nI i)), (3, .ref (w.1 30)), (2, .ref (w.1 0)), (1, .ref (w.1 31)), (0, .ref b)] dL_law_1962 (by decide) rfl ?_
  refine g_aload_n (pc9 := 1965) C rfl 3 dL_law_1964 rfl rfl ?_
  refine g_aload_n (pc9 := 1966) C rfl 5 dL_law_1965 rfl rfl ?_
  refine g_iload (pc9 := 1968) C rfl 1 dL_law_1966 rfl ?_
  refine g_iconst (pc9 := 1969) C rfl (nI 1) dL_law_1968 rfl ?_
  refine g_iaddN (pc9 := 1970) C rfl dL_law_1969 ?_
  refine g_scr (pc9 := 1971) C rfl hX hbl hbA (i + 1) rfl (by omega) (by omega) dL_law_1970 ?_
  refine g_aload_n (pc9 := 1972) C rfl 5 dL_law_1971 rfl rfl ?_
  refine g_iload (pc9 := 1974) C rfl 1 dL_law_1972 rfl ?_
  refine g_iconst (pc9 := 1975) C rfl (nI 2) dL_law_1974 rfl ?_
  refine g_iaddN (pc9 := 1976) C rfl dL_law_1975 ?_
  refine g_scr (pc9 := 1977) C rfl hX hbl hbA (i + 2) rfl (by omega) (by omega) dL_law_1976 ?_
  refine g_callVi (nn := 2) (rest := []) (pc9 := 1980) C rfl 0 [.int (xs (i + 1)), .int (xs (i + 2))] rfl dL_law_1977 hM9 gL_law_X11_losses (by decide) (ce_0 w σ_1) rfl rfl rfl rfl rfl (by decide +kernel) ⟨by decide, by decide⟩ rfl (Nat.le_of_ble_eq_true rfl) ⟨by show _ ≤ 601024; omega, by show _ ≤ 7293034; omega⟩ (fun r_2 σ_2 q_2 => ?_)
  obtain ⟨t1, t2, t3⟩ := hk9 r_2 σ_2 q_2
  refine g_istore (pc9 := 1982) C rfl [(6, .int r_2), (5, .int r_1), (4, .int (nI i)), (3, .ref (w.1 30)), (2, .ref (w.1 0)), (1, .ref (w.1 31)), (0, .ref b)] dL_law_1980 (by decide) rfl ?_
  refine g_aload_n (pc9 := 1983) C rfl 4 dL_law_1982 rfl rfl ?_
  refine g_callVi (nn := 0) (rest := []) (pc9 := 1986) C rfl 0 [] rfl dL_law_1983 (m_X11_thrown l w σ_2) gL_law_X11_thrown (by decide) (ce_0 w σ_2) rfl rfl rfl rfl rfl (by decide +kernel) ⟨by decide, by decide⟩ rfl (Nat.le_of_ble_eq_true rfl) ⟨by show _ ≤ 601024; omega, by show _ ≤ 7293034; omega⟩ (fun r_3 σ_3 q_3 => ?_)
  obtain ⟨qs_3, qr_3⟩ := q_3
  rw [qs_3, qr_3, t1]
  refine g_iload (pc9 := 1988) C rfl 1 dL_law_1986 rfl ?_
  refine g_icmp_eq (pc9 := 1991) C rfl 1993 dL_law_1988 rfl (fun _ => ?_) (fun z => absurd rfl z)
  refine g_iload (pc9 := 1995) C rfl 1 dL_law_1993 rfl ?_
  refine g_if_ne (pc9 := 1998) C rfl 2010 dL_law_1995 rfl (fun _ => ?_) (fun c_1 => ?_)
  · refine g_goto C 2093 dL_law_2010 rfl ?_
    exact g_wid (by omega) (by omega) (g_sub [2, 3, 4, 5, 6] [(4, .int (nI i)), (3, .ref (w.1 30)), (2, .ref (w.1 0)), (1, .ref (w.1 31)), (0, .ref b)] rfl (kont σ_2 t3))
  · have e2 := t2 c_1
    refine g_aload_n (pc9 := 1999) C rfl 3 dL_law_1998 rfl rfl ?_
    refine g_iconst (pc9 := 2000) C rfl (nI 0) dL_law_1999 rfl ?_
    refine g_lald (pc9 := 2001) C rfl 30 0 (n := 1) (x := jA σ_2 30 0) dL_law_2000 (by decide) (ce_30 w σ_2) rfl (by decide) (by decide) rfl ?_
    refine g_iload (pc9 := 2003) C rfl 0 dL_law_2001 rfl ?_
    refine g_i2l (pc9 := 2004) C rfl dL_law_2003 ?_
    refine g_lcmp (pc9 := 2005) C rfl dL_law_2004 ?_
    refine g_if_eq (pc9 := 2008) C rfl 2010 dL_law_2005 rfl (fun _ => ?_) (fun z => absurd (lg_eq (e2)) z)
    refine g_goto C 2093 dL_law_2010 rfl ?_
    exact g_wid (by omega) (by omega) (g_sub [2, 3, 4, 5, 6] [(4, .int (nI i)), (3, .ref (w.1 30)), (2, .ref (w.1 0)), (1, .ref (w.1 31)), (0, .ref b)] rfl (kont σ_2 t3))
set_option maxRecDepth 100000 in
set_option maxHeartbeats 4000000 in
theorem lc_orders {p : Program} {l : Launch} {e : Env} {s : State} {m : MethodId} {below : List Frame} {meth : Method} {c : Code} {Q : State → Prop} {w : Wd} {sA : Nat → Nat} {b L : Nat} {xs : Nat → Int32} {A : Nat → Prop} (hst : l.stackTraces = false) (X : LC p s m meth c w sA b L xs A) (σ : St) (h : RX σ σ) (i : Nat) (hi : i + 6 ≤ L) (cells slots : Nat) (hc : cells + 20 ≤ 601024) (hs : slots + 120 ≤ 7293034) (kont : ∀ σ9, RX σ9 σ9 → G p l e room_1 s m #[Value.ref b] below meth c Q w A 8 σ9 (cells + 20) (slots + 120) 2093 [(4, .int (nI i)), (3, .ref (w.1 30)), (2, .ref (w.1 0)), (1, .ref (w.1 31)), (0, .ref b)] []) : G p l e room_1 s m #[Value.ref b] below meth c Q w A 8 σ cells slots 2013 [(4, .int (nI i)), (3, .ref (w.1 30)), (2, .ref (w.1 0)), (1, .ref (w.1 31)), (0, .ref b)] [] := by
  obtain ⟨C, hXF, hN, hX, hbl, hbA, _, _, _, hL⟩ := X
  obtain ⟨P, hM, hk⟩ := k_orders l hst w sA σ h (xs (i + 1))
  refine g_aload_n (pc9 := 2014) C rfl 3 dL_law_2013 rfl rfl ?_
  refine g_aload_n (pc9 := 2015) C rfl 4 dL_law_2014 rfl rfl ?_
  refine g_iload (pc9 := 2017) C rfl 0 dL_law_2015 rfl ?_
  refine g_iconst (pc9 := 2018) C rfl (nI 1) dL_law_2017 rfl ?_
  refine g_iaddN (pc9 := 2019) C rfl dL_law_2018 ?_
  refine g_scr (pc9 := 2020) C rfl hX hbl hbA (i + 1) rfl (by omega) (by omega) dL_law_2019 ?_
  refine g_aload_n (pc9 := 2021) C rfl 1 dL_law_2020 rfl rfl ?_
  refine w_callSi (rest := []) C hXF hN (pc9 := 2024) rfl [.ref (w.1 31), .int (xs (i + 1)), .ref (w.1 30)] (nn := 3) rfl dL_law_2021 hM gL_law_L_orders rfl (by decide +kernel) ⟨by decide, by decide⟩ rfl (Nat.le_of_ble_eq_true rfl) ⟨by show _ ≤ 601024; omega, by show _ ≤ 7293034; omega⟩ (fun r_1 σ_1 q_1 => ?_)
  obtain ⟨PM, hM9, hk9⟩ := hk r_1 σ_1 q_1
  refine g_istore (pc9 := 2026) C rfl [(5, .int r_1), (4, .int (nI i)), (3, .ref (w.1 30)), (2, .ref (w.1 0)), (1, .ref (w.1 31)), (0, .ref b)] dL_law_2024 (by decide) rfl ?_
  refine g_aload_n (pc9 := 2027) C rfl 3 dL_law_2026 rfl rfl ?_
  refine g_aload_n (pc9 := 2028) C rfl 5 dL_law_2027 rfl rfl ?_
  refine g_iload (pc9 := 2030) C rfl 1 dL_law_2028 rfl ?_
  refine g_iconst (pc9 := 2031) C rfl (nI 1) dL_law_2030 rfl ?_
  refine g_iaddN (pc9 := 2032) C rfl dL_law_2031 ?_
  refine g_scr (pc9 := 2033) C rfl hX hbl hbA (i + 1) rfl (by omega) (by omega) dL_law_2032 ?_
  refine g_callVl (nn := 1) (rest := []) (pc9 := 2036) C rfl 0 [.int (xs (i + 1))] rfl dL_law_2033 hM9 gL_law_X11_orders (by decide) (ce_0 w σ_1) rfl rfl rfl rfl rfl (by decide +kernel) ⟨by decide, by decide⟩ rfl (Nat.le_of_ble_eq_true rfl) ⟨by show _ ≤ 601024; omega, by show _ ≤ 7293034; omega⟩ (fun r_2 σ_2 q_2 => ?_)
  obtain ⟨t1, t2, t3⟩ := hk9 r_2 σ_2 q_2
  refine g_lstore (pc9 := 2038) C rfl [(6, .long r_2), (5, .int r_1), (4, .int (nI i)), (3, .ref (w.1 30)), (2, .ref (w.1 0)), (1, .ref (w.1 31)), (0, .ref b)] dL_law_2036 (by decide) rfl ?_
  refine g_aload_n (pc9 := 2039) C rfl 4 dL_law_2038 rfl rfl ?_
  refine g_callVi (nn := 0) (rest := []) (pc9 := 2042) C rfl 0 [] rfl dL_law_2039 (m_X11_thrown l w σ_2) gL_law_X11_thrown (by decide) (ce_0 w σ_2) rfl rfl rfl rfl rfl (by decide +kernel) ⟨by decide, by decide⟩ rfl (Nat.le_of_ble_eq_true rfl) ⟨by show _ ≤ 601024; omega, by show _ ≤ 7293034; omega⟩ (fun r_3 σ_3 q_3 => ?_)
  obtain ⟨qs_3, qr_3⟩ := q_3
  rw [qs_3, qr_3, t1]
  refine g_iload (pc9 := 2044) C rfl 1 dL_law_2042 rfl ?_
  refine g_icmp_eq (pc9 := 2047) C rfl 2049 dL_law_2044 rfl (fun _ => ?_) (fun z => absurd rfl z)
  refine g_iload (pc9 := 2051) C rfl 1 dL_law_2049 rfl ?_
  refine g_if_ne (pc9 := 2054) C rfl 2065 dL_law_2051 rfl (fun _ => ?_) (fun c_1 => ?_)
  · refine g_goto C 2093 dL_law_2065 rfl ?_
    exact g_wid (by omega) (by omega) (g_sub [2, 3, 4, 5, 6] [(4, .int (nI i)), (3, .ref (w.1 30)), (2, .ref (w.1 0)), (1, .ref (w.1 31)), (0, .ref b)] rfl (kont σ_2 t3))
  · have e2 := t2 c_1
    refine g_aload_n (pc9 := 2055) C rfl 3 dL_law_2054 rfl rfl ?_
    refine g_iconst (pc9 := 2056) C rfl (nI 0) dL_law_2055 rfl ?_
    refine g_lald (pc9 := 2057) C rfl 30 0 (n := 1) (x := jA σ_2 30 0) dL_law_2056 (by decide) (ce_30 w σ_2) rfl (by decide) (by decide) rfl ?_
    refine g_lload (pc9 := 2059) C rfl 0 dL_law_2057 rfl ?_
    refine g_lcmp (pc9 := 2060) C rfl dL_law_2059 ?_
    refine g_if_eq (pc9 := 2063) C rfl 2065 dL_law_2060 rfl (fun _ => ?_) (fun z => absurd (lg_eq (e2)) z)
    refine g_goto C 2093 dL_law_2065 rfl ?_
    exact g_wid (by omega) (by omega) (g_sub [2, 3, 4, 5, 6] [(4, .int (nI i)), (3, .ref (w.1 30)), (2, .ref (w.1 0)), (1, .ref (w.1 31)), (0, .ref b)] rfl (kont σ_2 t3))
set_option maxRecDepth 100000 in
set_option maxHeartbeats 4000000 in
theorem lc_count {p : Program} {l : Launch} {e : Env} {s : State} {m : MethodId} {below : List Frame} {meth : Method} {c : Code} {Q : State → Prop} {w : Wd} {sA : Nat → Nat} {b L : Nat} {xs : Nat → Int32} {A : Nat → Prop} (hst : l.stackTraces = false) (X : LC p s m meth c w sA b L xs A) (σ : St) (h : RX σ σ) (i : Nat) (hi : i + 6 ≤ L) (cells slots : Nat) (hc : cells + 20 ≤ 601024) (hs : slots + 120 ≤ 7293034) (kont : ∀ σ9, RX σ9 σ9 → G p l e room_1 s m #[Value.ref b] below meth c Q w A 8 σ9 (cells + 20) (slots + 120) 2093 [(4, .int (nI i)), (3, .ref (w.1 30)), (2, .ref (w.1 0)), (1, .ref (w.1 31)), (0, .ref b)] []) : G p l e room_1 s m #[Value.ref b] below meth c Q w A 8 σ cells slots 2068 [(4, .int (nI i)), (3, .ref (w.1 30)), (2, .ref (w.1 0)), (1, .ref (w.1 31)), (0, .ref b)] [] := by
  obtain ⟨C, hXF, hN, hX, hbl, hbA, _, _, _, hL⟩ := X
  obtain ⟨P, hM, hk⟩ := k_count l w σ h (xs (i + 1))
  refine g_aload_n (pc9 := 2069) C rfl 3 dL_law_2068 rfl rfl ?_
  refine g_aload_n (pc9 := 2070) C rfl 4 dL_law_2069 rfl rfl ?_
  refine g_iload (pc9 := 2072) C rfl 0 dL_law_2070 rfl ?_
  refine g_iconst (pc9 := 2073) C rfl (nI 1) dL_law_2072 rfl ?_
  refine g_iaddN (pc9 := 2074) C rfl dL_law_2073 ?_
  refine g_scr (pc9 := 2075) C rfl hX hbl hbA (i + 1) rfl (by omega) (by omega) dL_law_2074 ?_
  refine g_callVi (nn := 1) (rest := []) (pc9 := 2078) C rfl 31 [.int (xs (i + 1))] rfl dL_law_2075 hM gL_law_X10_count (by decide) (ce_31 w σ) rfl rfl rfl rfl rfl (by decide +kernel) ⟨by decide, by decide⟩ rfl (Nat.le_of_ble_eq_true rfl) ⟨by show _ ≤ 601024; omega, by show _ ≤ 7293034; omega⟩ (fun r_1 σ_1 q_1 => ?_)
  obtain ⟨PM, hM9, hk9⟩ := hk r_1 σ_1 q_1
  refine g_aload_n (pc9 := 2079) C rfl 2 dL_law_2078 rfl rfl ?_
  refine g_aload_n (pc9 := 2080) C rfl 4 dL_law_2079 rfl rfl ?_
  refine g_iload (pc9 := 2082) C rfl 0 dL_law_2080 rfl ?_
  refine g_iconst (pc9 := 2083) C rfl (nI 1) dL_law_2082 rfl ?_
  refine g_iaddN (pc9 := 2084) C rfl dL_law_2083 ?_
  refine g_scr (pc9 := 2085) C rfl hX hbl hbA (i + 1) rfl (by omega) (by omega) dL_law_2084 ?_
  refine g_callVi (nn := 1) (rest := [.int r_1]) (pc9 := 2088) C rfl 0 [.int (xs (i + 1))] rfl dL_law_2085 hM9 gL_law_X11_count (by decide) (ce_0 w σ_1) rfl rfl rfl rfl rfl (by decide +kernel) ⟨by decide, by decide⟩ rfl (Nat.le_of_ble_eq_true rfl) ⟨by show _ ≤ 601024; omega, by show _ ≤ 7293034; omega⟩ (fun r_2 σ_2 q_2 => ?_)
  obtain ⟨t1, t2⟩ := hk9 r_2 σ_2 q_2
  refine g_icmp_eq (pc9 := 2091) C rfl 2093 dL_law_2088 rfl (fun _ => ?_) (fun z => absurd t1.symm z)
  exact g_wid (by omega) (by omega) (g_sub [0, 1, 2, 3, 4] [(4, .int (nI i)), (3, .ref (w.1 30)), (2, .ref (w.1 0)), (1, .ref (w.1 31)), (0, .ref b)] rfl (kont σ_2 t2))

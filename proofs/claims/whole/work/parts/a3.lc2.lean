/-! The law's cases -/
set_option maxRecDepth 100000 in
set_option maxHeartbeats 4000000 in
theorem lc_unlike {p : Program} {l : Launch} {e : Env} {s : State} {m : MethodId} {below : List Frame} {meth : Method} {c : Code} {Q : State → Prop} {w : Wd} {sA : Nat → Nat} {b L : Nat} {xs : Nat → Int32} {A : Nat → Prop} (hst : l.stackTraces = false) (X : LC p s m meth c w sA b L xs A) (σ : St) (h : RX σ σ) (i : Nat) (hi : i + 6 ≤ L) (cells slots : Nat) (hc : cells + 20 ≤ 601024) (hs : slots + 120 ≤ 7293034) (kont : ∀ σ9, RX σ9 σ9 → G p l e room_1 s m #[Value.ref b] below meth c Q w A 8 σ9 (cells + 20) (slots + 120) 2093 [(4, .int (nI i)), (3, .ref (w.1 30)), (2, .ref (w.1 0)), (1, .ref (w.1 31)), (0, .ref b)] []) : G p l e room_1 s m #[Value.ref b] below meth c Q w A 8 σ cells slots 835 [(4, .int (nI i)), (3, .ref (w.1 30)), (2, .ref (w.1 0)), (1, .ref (w.1 31)), (0, .ref b)] [] := by
  obtain ⟨C, hXF, hN, hX, hbl, hbA, _, _, _, hL⟩ := X
  obtain ⟨P, hM, hk⟩ := k_unlike l hst w sA σ h (xs (i + 1)) (xs (i + 2))
  refine g_aload_n (pc9 := 836) C rfl 3 dL_law_835 rfl rfl ?_
  refine g_aload_n (pc9 := 837) C rfl 4 dL_law_836 rfl rfl ?_
  refine g_iload (pc9 := 839) C rfl 0 dL_law_837 rfl ?_
  refine g_iconst (pc9 := 840) C rfl (nI 1) dL_law_839 rfl ?_
  refine g_iaddN (pc9 := 841) C rfl dL_law_840 ?_
  refine g_scr (pc9 := 842) C rfl hX hbl hbA (i + 1) rfl (by omega) (by omega) dL_law_841 ?_
  refine g_aload_n (pc9 := 843) C rfl 4 dL_law_842 rfl rfl ?_
  refine g_iload (pc9 := 845) C rfl 0 dL_law_843 rfl ?_
  refine g_iconst (pc9 := 846) C rfl (nI 2) dL_law_845 rfl ?_
  refine g_iaddN (pc9 := 847) C rfl dL_law_846 ?_
  refine g_scr (pc9 := 848) C rfl hX hbl hbA (i + 2) rfl (by omega) (by omega) dL_law_847 ?_
  refine g_aload_n (pc9 := 849) C rfl 1 dL_law_848 rfl rfl ?_
  refine w_callSi (rest := []) C hXF hN (pc9 := 852) rfl [.ref (w.1 31), .int (xs (i + 1)), .int (xs (i + 2)), .ref (w.1 30)] (nn := 4) rfl dL_law_849 hM gL_law_L_unlike rfl (by decide +kernel) ⟨by decide, by decide⟩ rfl (Nat.le_of_ble_eq_true rfl) ⟨by show _ ≤ 601024; omega, by show _ ≤ 7293034; omega⟩ (fun r_1 σ_1 q_1 => ?_)
  obtain ⟨PM, hM9, hk9⟩ := hk r_1 σ_1 q_1
  refine g_istore (pc9 := 854) C rfl [(5, .int r_1), (4, .int (nI i)), (3, .ref (w.1 30)), (2, .ref (w.1 0)), (1, .ref (w.1 31)), (0, .ref b)] dL_law_852 (by decide) rfl ?_
  refine g_aload_n (pc9 := 855) C rfl 3 dL_law_854 rfl rfl ?_
  refine g_aload_n (pc9 := 856) C rfl 5 dL_law_855 rfl rfl ?_
  refine g_iload (pc9 := 858) C rfl 1 dL_law_856 rfl ?_
  refine g_iconst (pc9 := 859) C rfl (nI 1) dL_law_858 rfl ?_
  refine g_iaddN (pc9 := 860) C rfl dL_law_859 ?_
  refine g_scr (pc9 := 861) C rfl hX hbl hbA (i + 1) rfl (by omega) (by omega) dL_law_860 ?_
  refine g_aload_n (pc9 := 862) C rfl 5 dL_law_861 rfl rfl ?_
  refine g_iload (pc9 := 864) C rfl 1 dL_law_862 rfl ?_
  refine g_iconst (pc9 := 865) C rfl (nI 2) dL_law_864 rfl ?_
  refine g_iaddN (pc9 := 866) C rfl dL_law_865 ?_
  refine g_scr (pc9 := 867) C rfl hX hbl hbA (i + 2) rfl (by omega) (by omega) dL_law_866 ?_
  refine g_callVi (nn := 2) (rest := []) (pc9 := 870) C rfl 0 [.int (xs (i + 1)), .int (xs (i + 2))] rfl dL_law_867 hM9 gL_law_X11_unlike (by decide) (ce_0 w σ_1) rfl rfl rfl rfl rfl (by decide +kernel) ⟨by decide, by decide⟩ rfl (Nat.le_of_ble_eq_true rfl) ⟨by show _ ≤ 601024; omega, by show _ ≤ 7293034; omega⟩ (fun r_2 σ_2 q_2 => ?_)
  obtain ⟨t1, t2, t3⟩ := hk9 r_2 σ_2 q_2
  refine g_istore (pc9 := 872) C rfl [(6, .int r_2), (5, .int r_1), (4, .int (nI i)), (3, .ref (w.1 30)), (2, .ref (w.1 0)), (1, .ref (w.1 31)), (0, .ref b)] dL_law_870 (by decide) rfl ?_
  refine g_aload_n (pc9 := 873) C rfl 4 dL_law_872 rfl rfl ?_
  refine g_callVi (nn := 0) (rest := []) (pc9 := 876) C rfl 0 [] rfl dL_law_873 (m_X11_thrown l w σ_2) gL_law_X11_thrown (by decide) (ce_0 w σ_2) rfl rfl rfl rfl rfl (by decide +kernel) ⟨by decide, by decide⟩ rfl (Nat.le_of_ble_eq_true rfl) ⟨by show _ ≤ 601024; omega, by show _ ≤ 7293034; omega⟩ (fun r_3 σ_3 q_3 => ?_)
  obtain ⟨qs_3, qr_3⟩ := q_3
  rw [qs_3, qr_3, t1]
  refine g_iload (pc9 := 878) C rfl 1 dL_law_876 rfl ?_
  refine g_icmp_eq (pc9 := 881) C rfl 883 dL_law_878 rfl (fun _ => ?_) (fun z => absurd rfl z)
  refine g_iload (pc9 := 885) C rfl 1 dL_law_883 rfl ?_
  refine g_if_ne (pc9 := 888) C rfl 900 dL_law_885 rfl (fun _ => ?_) (fun c_1 => ?_)
  · refine g_goto C 2093 dL_law_900 rfl ?_
    exact g_wid (by omega) (by omega) (g_sub [2, 3, 4, 5, 6] [(4, .int (nI i)), (3, .ref (w.1 30)), (2, .ref (w.1 0)), (1, .ref (w.1 31)), (0, .ref b)] rfl (kont σ_2 t3))
  · have e2 := t2 c_1
    refine g_aload_n (pc9 := 889) C rfl 3 dL_law_888 rfl rfl ?_
    refine g_iconst (pc9 := 890) C rfl (nI 0) dL_law_889 rfl ?_
    refine g_lald (pc9 := 891) C rfl 30 0 (n := 1) (x := jA σ_2 30 0) dL_law_890 (by decide) (ce_30 w σ_2) rfl (by decide) (by decide) rfl ?_
    refine g_iload (pc9 := 893) C rfl 0 dL_law_891 rfl ?_
    refine g_i2l (pc9 := 894) C rfl dL_law_893 ?_
    refine g_lcmp (pc9 := 895) C rfl dL_law_894 ?_
    refine g_if_eq (pc9 := 898) C rfl 900 dL_law_895 rfl (fun _ => ?_) (fun z => absurd (lg_eq (e2)) z)
    refine g_goto C 2093 dL_law_900 rfl ?_
    exact g_wid (by omega) (by omega) (g_sub [2, 3, 4, 5, 6] [(4, .int (nI i)), (3, .ref (w.1 30)), (2, .ref (w.1 0)), (1, .ref (w.1 31)), (0, .ref b)] rfl (kont σ_2 t3))
set_option maxRecDepth 100000 in
set_option maxHeartbeats 4000000 in
theorem lc_alike {p : Program} {l : Launch} {e : Env} {s : State} {m : MethodId} {below : List Frame} {meth : Method} {c : Code} {Q : State → Prop} {w : Wd} {sA : Nat → Nat} {b L : Nat} {xs : Nat → Int32} {A : Nat → Prop} (hst : l.stackTraces = false) (X : LC p s m meth c w sA b L xs A) (σ : St) (h : RX σ σ) (i : Nat) (hi : i + 6 ≤ L) (cells slots : Nat) (hc : cells + 20 ≤ 601024) (hs : slots + 120 ≤ 7293034) (kont : ∀ σ9, RX σ9 σ9 → G p l e room_1 s m #[Value.ref b] below meth c Q w A 8 σ9 (cells + 20) (slots + 120) 2093 [(4, .int (nI i)), (3, .ref (w.1 30)), (2, .ref (w.1 0)), (1, .ref (w.1 31)), (0, .ref b)] []) : G p l e room_1 s m #[Value.ref b] below meth c Q w A 8 σ cells slots 903 [(4, .int (nI i)), (3, .ref (w.1 30)), (2, .ref (w.1 0)), (1, .ref (w.1 31)), (0, .ref b)] [] := by
  obtain ⟨C, hXF, hN, hX, hbl, hbA, _, _, _, hL⟩ := X
  obtain ⟨P, hM, hk⟩ := k_alike l hst w sA σ h (xs (i + 1)) (xs (i + 2))
  refine g_aload_n (pc9 := 904) C rfl 3 dL_law_903 rfl rfl ?_
  refine g_aload_n (pc9 := 905) C rfl 4 dL_law_904 rfl rfl ?_
  refine g_iload (pc9 := 907) C rfl 0 dL_law_905 rfl ?_
  refine g_iconst (pc9 := 908) C rfl (nI 1) dL_law_907 rfl ?_
  refine g_iaddN (pc9 := 909) C rfl dL_law_908 ?_
  refine g_scr (pc9 := 910) C rfl hX hbl hbA (i + 1) rfl (by omega) (by omega) dL_law_909 ?_
  refine g_aload_n (pc9 := 911) C rfl 4 dL_law_910 rfl rfl ?_
  refine g_iload (pc9 := 913) C rfl 0 dL_law_911 rfl ?_
  refine g_iconst (pc9 := 914) C rfl (nI 2) dL_law_913 rfl ?_
  refine g_iaddN (pc9 := 915) C rfl dL_law_914 ?_
  refine g_scr (pc9 := 916) C rfl hX hbl hbA (i + 2) rfl (by omega) (by omega) dL_law_915 ?_
  refine g_aload_n (pc9 := 917) C rfl 1 dL_law_916 rfl rfl ?_
  refine w_callSi (rest := []) C hXF hN (pc9 := 920) rfl [.ref (w.1 31), .int (xs (i + 1)), .int (xs (i + 2)), .ref (w.1 30)] (nn := 4) rfl dL_law_917 hM gL_law_L_alike rfl (by decide +kernel) ⟨by decide, by decide⟩ rfl (Nat.le_of_ble_eq_true rfl) ⟨by show _ ≤ 601024; omega, by show _ ≤ 7293034; omega⟩ (fun r_1 σ_1 q_1 => ?_)
  obtain ⟨PM, hM9, hk9⟩ := hk r_1 σ_1 q_1
  refine g_istore (pc9 := 922) C rfl [(5, .int r_1), (4, .int (nI i)), (3, .ref (w.1 30)), (2, .ref (w.1 0)), (1, .ref (w.1 31)), (0, .ref b)] dL_law_920 (by decide) rfl ?_
  refine g_aload_n (pc9 := 923) C rfl 3 dL_law_922 rfl rfl ?_
  refine g_aload_n (pc9 := 924) C rfl 5 dL_law_923 rfl rfl ?_
  refine g_iload (pc9 := 926) C rfl 1 dL_law_924 rfl ?_
  refine g_iconst (pc9 := 927) C rfl (nI 1) dL_law_926 rfl ?_
  refine g_iaddN (pc9 := 928) C rfl dL_law_927 ?_
  refine g_scr (pc9 := 929) C rfl hX hbl hbA (i + 1) rfl (by omega) (by omega) dL_law_928 ?_
  refine g_aload_n (pc9 := 930) C rfl 5 dL_law_929 rfl rfl ?_
  refine g_iload (pc9 := 932) C rfl 1 dL_law_930 rfl ?_
  refine g_iconst (pc9 := 933) C rfl (nI 2) dL_law_932 rfl ?_
  refine g_iaddN (pc9 := 934) C rfl dL_law_933 ?_
  refine g_scr (pc9 := 935) C rfl hX hbl hbA (i + 2) rfl (by omega) (by omega) dL_law_934 ?_
  refine g_callVi (nn := 2) (rest := []) (pc9 := 938) C rfl 0 [.int (xs (i + 1)), .int (xs (i + 2))] rfl dL_law_935 hM9 gL_law_X11_alike (by decide) (ce_0 w σ_1) rfl rfl rfl rfl rfl (by decide +kernel) ⟨by decide, by decide⟩ rfl (Nat.le_of_ble_eq_true rfl) ⟨by show _ ≤ 601024; omega, by show _ ≤ 7293034; omega⟩ (fun r_2 σ_2 q_2 => ?_)
  obtain ⟨t1, t2, t3⟩ := hk9 r_2 σ_2 q_2
  refine g_istore (pc9 := 940) C rfl [(6, .int r_2), (5, .int r_1), (4, .int (nI i)), (3, .ref (w.1 30)), (2, .ref (w.1 0)), (1, .ref (w.1 31)), (0, .ref b)] dL_law_938 (by decide) rfl ?_
  refine g_aload_n (pc9 := 941) C rfl 4 dL_law_940 rfl rfl ?_
  refine g_callVi (nn := 0) (rest := []) (pc9 := 944) C rfl 0 [] rfl dL_law_941 (m_X11_thrown l w σ_2) gL_law_X11_thrown (by decide) (ce_0 w σ_2) rfl rfl rfl rfl rfl (by decide +kernel) ⟨by decide, by decide⟩ rfl (Nat.le_of_ble_eq_true rfl) ⟨by show _ ≤ 601024; omega, by show _ ≤ 7293034; omega⟩ (fun r_3 σ_3 q_3 => ?_)
  obtain ⟨qs_3, qr_3⟩ := q_3
  rw [qs_3, qr_3, t1]
  refine g_iload (pc9 := 946) C rfl 1 dL_law_944 rfl ?_
  refine g_icmp_eq (pc9 := 949) C rfl 951 dL_law_946 rfl (fun _ => ?_) (fun z => absurd rfl z)
  refine g_iload (pc9 := 953) C rfl 1 dL_law_951 rfl ?_
  refine g_if_ne (pc9 := 956) C rfl 968 dL_law_953 rfl (fun _ => ?_) (fun c_1 => ?_)
  · refine g_goto C 2093 dL_law_968 rfl ?_
    exact g_wid (by omega) (by omega) (g_sub [2, 3, 4, 5, 6] [(4, .int (nI i)), (3, .ref (w.1 30)), (2, .ref (w.1 0)), (1, .ref (w.1 31)), (0, .ref b)] rfl (kont σ_2 t3))
  · have e2 := t2 c_1
    refine g_aload_n (pc9 := 957) C rfl 3 dL_law_956 rfl rfl ?_
    refine g_iconst (pc9 := 958) C rfl (nI 0) dL_law_957 rfl ?_
    refine g_lald (pc9 := 959) C rfl 30 0 (n := 1) (x := jA σ_2 30 0) dL_law_958 (by decide) (ce_30 w σ_2) rfl (by decide) (by decide) rfl ?_
    refine g_iload (pc9 := 961) C rfl 0 dL_law_959 rfl ?_
    refine g_i2l (pc9 := 962) C rfl dL_law_961 ?_
    refine g_lcmp (pc9 := 963) C rfl dL_law_962 ?_
    refine g_if_eq (pc9 := 966) C rfl 968 dL_law_963 rfl (fun _ => ?_) (fun z => absurd (lg_eq (e2)) z)
    refine g_goto C 2093 dL_law_968 rfl ?_
    exact g_wid (by omega) (by omega) (g_sub [2, 3, 4, 5, 6] [(4, .int (nI i)), (3, .ref (w.1 30)), (2, .ref (w.1 0)), (1, .ref (w.1 31)), (0, .ref b)] rfl (kont σ_2 t3))
set_option maxRecDepth 100000 in
set_option maxHeartbeats 4000000 in
theorem lc_cut {p : Program} {l : Launch} {e : Env} {s : State} {m : MethodId} {below : List Frame} {meth : Method} {c : Code} {Q : State → Prop} {w : Wd} {sA : Nat → Nat} {b L : Nat} {xs : Nat → Int32} {A : Nat → Prop} (hst : l.stackTraces = false) (X : LC p s m meth c w sA b L xs A) (σ : St) (h : RX σ σ) (i : Nat) (hi : i + 6 ≤ L) (cells slots : Nat) (hc : cells + 20 ≤ 601024) (hs : slots + 120 ≤ 7293034) (kont : ∀ σ9, RX σ9 σ9 → G p l e room_1 s m #[Value.ref b] below meth c Q w A 8 σ9 (cells + 20) (slots + 120) 2093 [(4, .int (nI i)), (3, .ref (w.1 30)), (2, .ref (w.1 0)), (1, .ref (w.1 31)), (0, .ref b)] []) : G p l e room_1 s m #[Value.ref b] below meth c Q w A 8 σ cells slots 971 [(4, .int (nI i)), (3, .ref (w.1 30)), (2, .ref (w.1 0)), (1, .ref (w.1 31)), (0, .ref b)] [] := by
  obtain ⟨C, hXF, hN, hX, hbl, hbA, _, _, _, hL⟩ := X
  obtain ⟨P, hM, hk⟩ := k_cut l hst w sA σ h (xs (i + 1)) (xs (i + 2)) (xs (i + 3))
  refine g_aload_n (pc9 := 972) C rfl 3 dL_law_971 rfl rfl ?_
  refine g_aload_n (pc9 := 973) C rfl 4 dL_law_972 rfl rfl ?_
  refine g_iload (pc9 := 975) C rfl 0 dL_law_973 rfl ?_
  refine g_iconst (pc9 := 976) C rfl (nI 1) dL_law_975 rfl ?_
  refine g_iaddN (pc9 := 977) C rfl dL_law_976 ?_
  refine g_scr (pc9 := 978) C rfl hX hbl hbA (i + 1) rfl (by omega) (by omega) dL_law_977 ?_
  refine g_aload_n (pc9 := 979) C rfl 4 dL_law_978 rfl rfl ?_
  refine g_iload (pc9 := 981) C rfl 0 dL_law_979 rfl ?_
  refine g_iconst (pc9 := 982) C rfl (nI 2) dL_law_981 rfl ?_
  refine g_iaddN (pc9 := 983) C rfl dL_law_982 ?_
  refine g_scr (pc9 := 984) C rfl hX hbl hbA (i + 2) rfl (by omega) (by omega) dL_law_983 ?_
  refine g_aload_n (pc9 := 985) C rfl 4 dL_law_984 rfl rfl ?_
  refine g_iload (pc9 := 987) C rfl 0 dL_law_985 rfl ?_
  refine g_iconst (pc9 := 988) C rfl (nI 3) dL_law_987 rfl ?_
  refine g_iaddN (pc9 := 989) C rfl dL_law_988 ?_
  refine g_scr (pc9 := 990) C rfl hX hbl hbA (i + 3) rfl (by omega) (by omega) dL_law_989 ?_
  refine g_aload_n (pc9 := 991) C rfl 1 dL_law_990 rfl rfl ?_
  refine w_callSi (rest := []) C hXF hN (pc9 := 994) rfl [.ref (w.1 31), .int (xs (i + 1)), .int (xs (i + 2)), .int (xs (i + 3)), .ref (w.1 30)] (nn := 5) rfl dL_law_991 hM gL_law_L_cut rfl (by decide +kernel) ⟨by decide, by decide⟩ rfl (Nat.le_of_ble_eq_true rfl) ⟨by show _ ≤ 601024; omega, by show _ ≤ 7293034; omega⟩ (fun r_1 σ_1 q_1 => ?_)
  obtain ⟨PM, hM9, hk9⟩ := hk r_1 σ_1 q_1
  refine g_istore (pc9 := 996) C rfl [(5, .int r_1), (4, .int (nI i)), (3, .ref (w.1 30)), (2, .ref (w.1 0)), (1, .ref (w.1 31)), (0, .ref b)] dL_law_994 (by decide) rfl ?_
  refine g_aload_n (pc9 := 997) C rfl 3 dL_law_996 rfl rfl ?_
  refine g_aload_n (pc9 := 998) C rfl 5 dL_law_997 rfl rfl ?_
  refine g_iload (pc9 := 1000) C rfl 1 dL_law_998 rfl ?_
  refine g_iconst (pc9 := 1001) C rfl (nI 1) dL_law_1000 rfl ?_
  refine g_iaddN (pc9 := 1002) C rfl dL_law_1001 ?_
  refine g_scr (pc9 := 1003) C rfl hX hbl hbA (i + 1) rfl (by omega) (by omega) dL_law_1002 ?_
  refine g_aload_n (pc9 := 1004) C rfl 5 dL_law_1003 rfl rfl ?_
  refine g_iload (pc9 := 1006) C rfl 1 dL_law_1004 rfl ?_
  refine g_iconst (pc9 := 1007) C rfl (nI 2) dL_law_1006 rfl ?_
  refine g_iaddN (pc9 := 1008) C rfl dL_law_1007 ?_
  refine g_scr (pc9 := 1009) C rfl hX hbl hbA (i + 2) rfl (by omega) (by omega) dL_law_1008 ?_
  refine g_aload_n (pc9 := 1010) C rfl 5 dL_law_1009 rfl rfl ?_
  refine g_iload (pc9 := 1012) C rfl 1 dL_law_1010 rfl ?_
  refine g_iconst (pc9 := 1013) C rfl (nI 3) dL_law_1012 rfl ?_
  refine g_iaddN (pc9 := 1014) C rfl dL_law_1013 ?_
  refine g_scr (pc9 := 1015) C rfl hX hbl hbA (i + 3) rfl (by omega) (by omega) dL_law_1014 ?_
  refine g_callVi (nn := 3) (rest := []) (pc9 := 1018) C rfl 0 [.int (xs (i + 1)), .int (xs (i + 2)), .int (xs (i + 3))] rfl dL_law_1015 hM9 gL_law_X11_cut (by decide) (ce_0 w σ_1) rfl rfl rfl rfl rfl (by decide +kernel) ⟨by decide, by decide⟩ rfl (Nat.le_of_ble_eq_true rfl) ⟨by show _ ≤ 601024; omega, by show _ ≤ 7293034; omega⟩ (fun r_2 σ_2 q_2 => ?_)
  obtain ⟨t1, t2, t3⟩ := hk9 r_2 σ_2 q_2
  refine g_istore (pc9 := 1020) C rfl [(6, .int r_2), (5, .int r_1), (4, .int (nI i)), (3, .ref (w.1 30)), (2, .ref (w.1 0)), (1, .ref (w.1 31)), (0, .ref b)] dL_law_1018 (by decide) rfl ?_
  refine g_aload_n (pc9 := 1021) C rfl 4 dL_law_1020 rfl rfl ?_
  refine g_callVi (nn := 0) (rest := []) (pc9 := 1024) C rfl 0 [] rfl dL_law_1021 (m_X11_thrown l w σ_2) gL_law_X11_thrown (by decide) (ce_0 w σ_2) rfl rfl rfl rfl rfl (by decide +kernel) ⟨by decide, by decide⟩ rfl (Nat.le_of_ble_eq_true rfl) ⟨by show _ ≤ 601024; omega, by show _ ≤ 7293034; omega⟩ (fun r_3 σ_3 q_3 => ?_)
  obtain ⟨qs_3, qr_3⟩ := q_3
  rw [qs_3, qr_3, t1]
  refine g_iload (pc9 := 1026) C rfl 1 dL_law_1024 rfl ?_
  refine g_icmp_eq (pc9 := 1029) C rfl 1031 dL_law_1026 rfl (fun _ => ?_) (fun z => absurd rfl z)
  refine g_iload (pc9 := 1033) C rfl 1 dL_law_1031 rfl ?_
  refine g_if_ne (pc9 := 1036) C rfl 1048 dL_law_1033 rfl (fun _ => ?_) (fun c_1 => ?_)
  · refine g_goto C 2093 dL_law_1048 rfl ?_
    exact g_wid (by omega) (by omega) (g_sub [2, 3, 4, 5, 6] [(4, .int (nI i)), (3, .ref (w.1 30)), (2, .ref (w.1 0)), (1, .ref (w.1 31)), (0, .ref b)] rfl (kont σ_2 t3))
  · have e2 := t2 c_1
    refine g_aload_n (pc9 := 1037) C rfl 3 dL_law_1036 rfl rfl ?_
    refine g_iconst (pc9 := 1038) C rfl (nI 0) dL_law_1037 rfl ?_
    refine g_lald (pc9 := 1039) C rfl 30 0 (n := 1) (x := jA σ_2 30 0) dL_law_1038 (by decide) (ce_30 w σ_2) rfl (by decide) (by decide) rfl ?_
    refine g_iload (pc9 := 1041) C rfl 0 dL_law_1039 rfl ?_
    refine g_i2l (pc9 := 1042) C rfl dL_law_1041 ?_
    refine g_lcmp (pc9 := 1043) C rfl dL_law_1042 ?_
    refine g_if_eq (pc9 := 1046) C rfl 1048 dL_law_1043 rfl (fun _ => ?_) (fun z => absurd (lg_eq (e2)) z)
    refine g_goto C 2093 dL_law_1048 rfl ?_
    exact g_wid (by omega) (by omega) (g_sub [2, 3, 4, 5, 6] [(4, .int (nI i)), (3, .ref (w.1 30)), (2, .ref (w.1 0)), (1, .ref (w.1 31)), (0, .ref b)] rfl (kont σ_2 t3))
set_option maxRecDepth 100000 in
set_option maxHeartbeats 4000000 in
theorem lc_strict {p : Program} {l : Launch} {e : Env} {s : State} {m : MethodId} {below : List Frame} {meth : Method} {c : Code} {Q : State → Prop} {w : Wd} {sA : Nat → Nat} {b L : Nat} {xs : Nat → Int32} {A : Nat → Prop} (hst : l.stackTraces = false) (X : LC p s m meth c w sA b L xs A) (σ : St) (h : RX σ σ) (i : Nat) (hi : i + 6 ≤ L) (cells slots : Nat) (hc : cells + 20 ≤ 601024) (hs : slots + 120 ≤ 7293034) (kont : ∀ σ9, RX σ9 σ9 → G p l e room_1 s m #[Value.ref b] below meth c Q w A 8 σ9 (cells + 20) (slots + 120) 2093 [(4, .int (nI i)), (3, .ref (w.1 30)), (2, .ref (w.1 0)), (1, .ref (w.1 31)), (0, .ref b)] []) : G p l e room_1 s m #[Value.ref b] below meth c Q w A 8 σ cells slots 1051 [(4, .int (nI i)), (3, .ref (w.1 30)), (2, .ref (w.1 0)), (1, .ref (w.1 31)), (0, .ref b)] [] := by
  obtain ⟨C, hXF, hN, hX, hbl, hbA, _, _, _, hL⟩ := X
  obtain ⟨P, hM, hk⟩ := k_strict l hst w sA σ h (xs (i + 1)) (xs (i + 2))
  refine g_aload_n (pc9 := 1052) C rfl 3 dL_law_1051 rfl rfl ?_
  refine g_aload_n (pc9 := 1053) C rfl 4 dL_law_1052 rfl rfl ?_
  refine g_iload (pc9 := 1055) C rfl 0 dL_law_1053 rfl ?_
  refine g_iconst (pc9 := 1056) C rfl (nI 1) dL_law_1055 rfl ?_
  refine g_iaddN (pc9 := 1057) C rfl dL_law_1056 ?_
  refine g_scr (pc9 := 1058) C rfl hX hbl hbA (i + 1) rfl (by omega) (by omega) dL_law_1057 ?_
  refine g_aload_n (pc9 := 1059) C rfl 4 dL_law_1058 rfl rfl ?_
  refine g_iload (pc9 := 1061) C rfl 0 dL_law_1059 rfl ?_
  refine g_iconst (pc9 := 1062) C rfl (nI 2) dL_law_1061 rfl ?_
  refine g_iaddN (pc9 := 1063) C rfl dL_law_1062 ?_
  refine g_scr (pc9 := 1064) C rfl hX hbl hbA (i + 2) rfl (by omega) (by omega) dL_law_1063 ?_
  refine g_aload_n (pc9 := 1065) C rfl 1 dL_law_1064 rfl rfl ?_
  refine w_callSi (rest := []) C hXF hN (pc9 := 1068) rfl [.ref (w.1 31), .int (xs (i + 1)), .int (xs (i + 2)), .ref (w.1 30)] (nn := 4) rfl dL_law_1065 hM gL_law_L_strict rfl (by decide +kernel) ⟨by decide, by decide⟩ rfl (Nat.le_of_ble_eq_true rfl) ⟨by show _ ≤ 601024; omega, by show _ ≤ 7293034; omega⟩ (fun r_1 σ_1 q_1 => ?_)
  obtain ⟨PM, hM9, hk9⟩ := hk r_1 σ_1 q_1
  refine g_istore (pc9 := 1070) C rfl [(5, .int r_1), (4, .int (nI i)), (3, .ref (w.1 30)), (2, .ref (w.1 0)), (1, .ref (w.1 31)), (0, .ref b)] dL_law_1068 (by decide) rfl ?_
  refine g_aload_n (pc9 := 1071) C rfl 3 dL_law_1070 rfl rfl ?_
  refine g_aload_n (pc9 := 1072) C rfl 5 dL_law_1071 rfl rfl ?_
  refine g_iload (pc9 := 1074) C rfl 1 dL_law_1072 rfl ?_
  refine g_iconst (pc9 := 1075) C rfl (nI 1) dL_law_1074 rfl ?_
  refine g_iaddN (pc9 := 1076) C rfl dL_law_1075 ?_
  refine g_scr (pc9 := 1077) C rfl hX hbl hbA (i + 1) rfl (by omega) (by omega) dL_law_1076 ?_
  refine g_aload_n (pc9 := 1078) C rfl 5 dL_law_1077 rfl rfl ?_
  refine g_iload (pc9 := 1080) C rfl 1 dL_law_1078 rfl ?_
  refine g_iconst (pc9 := 1081) C rfl (nI 2) dL_law_1080 rfl ?_
  refine g_iaddN (pc9 := 1082) C rfl dL_law_1081 ?_
  refine g_scr (pc9 := 1083) C rfl hX hbl hbA (i + 2) rfl (by omega) (by omega) dL_law_1082 ?_
  refine g_callVi (nn := 2) (rest := []) (pc9 := 1086) C rfl 0 [.int (xs (i + 1)), .int (xs (i + 2))] rfl dL_law_1083 hM9 gL_law_X11_strict (by decide) (ce_0 w σ_1) rfl rfl rfl rfl rfl (by decide +kernel) ⟨by decide, by decide⟩ rfl (Nat.le_of_ble_eq_true rfl) ⟨by show _ ≤ 601024; omega, by show _ ≤ 7293034; omega⟩ (fun r_2 σ_2 q_2 => ?_)
  obtain ⟨t1, t2, t3⟩ := hk9 r_2 σ_2 q_2
  refine g_istore (pc9 := 1088) C rfl [(6, .int r_2), (5, .int r_1), (4, .int (nI i)), (3, .ref (w.1 30)), (2, .ref (w.1 0)), (1, .ref (w.1 31)), (0, .ref b)] dL_law_1086 (by decide) rfl ?_
  refine g_aload_n (pc9 := 1089) C rfl 4 dL_law_1088 rfl rfl ?_
  refine g_callVi (nn := 0) (rest := []) (pc9 := 1092) C rfl 0 [] rfl dL_law_1089 (m_X11_thrown l w σ_2) gL_law_X11_thrown (by decide) (ce_0 w σ_2) rfl rfl rfl rfl rfl (by decide +kernel) ⟨by decide, by decide⟩ rfl (Nat.le_of_ble_eq_true rfl) ⟨by show _ ≤ 601024; omega, by show _ ≤ 7293034; omega⟩ (fun r_3 σ_3 q_3 => ?_)
  obtain ⟨qs_3, qr_3⟩ := q_3
  rw [qs_3, qr_3, t1]
  refine g_iload (pc9 := 1094) C rfl 1 dL_law_1092 rfl ?_
  refine g_icmp_eq (pc9 := 1097) C rfl 1099 dL_law_1094 rfl (fun _ => ?_) (fun z => absurd rfl z)
  refine g_iload (pc9 := 1101) C rfl 1 dL_law_1099 rfl ?_
  refine g_if_ne (pc9 := 1104) C rfl 1116 dL_law_1101 rfl (fun _ => ?_) (fun c_1 => ?_)
  · refine g_goto C 2093 dL_law_1116 rfl ?_
    exact g_wid (by omega) (by omega) (g_sub [2, 3, 4, 5, 6] [(4, .int (nI i)), (3, .ref (w.1 30)), (2, .ref (w.1 0)), (1, .ref (w.1 31)), (0, .ref b)] rfl (kont σ_2 t3))
  · have e2 := t2 c_1
    refine g_aload_n (pc9 := 1105) C rfl 3 dL_law_1104 rfl rfl ?_
    refine g_iconst (pc9 := 1106) C rfl (nI 0) dL_law_1105 rfl ?_
    refine g_lald (pc9 := 1107) C rfl 30 0 (n := 1) (x := jA σ_2 30 0) dL_law_1106 (by decide) (ce_30 w σ_2) rfl (by decide) (by decide) rfl ?_
    refine g_iload (pc9 := 1109) C rfl 0 dL_law_1107 rfl ?_
    refine g_i2l (pc9 := 1110) C rfl dL_law_1109 ?_
    refine g_lcmp (pc9 := 1111) C rfl dL_law_1110 ?_
    refine g_if_eq (pc9 := 1114) C rfl 1116 dL_law_1111 rfl (fun _ => ?_) (fun z => absurd (lg_eq (e2)) z)
    refine g_goto C 2093 dL_law_1116 rfl ?_
    exact g_wid (by omega) (by omega) (g_sub [2, 3, 4, 5, 6] [(4, .int (nI i)), (3, .ref (w.1 30)), (2, .ref (w.1 0)), (1, .ref (w.1 31)), (0, .ref b)] rfl (kont σ_2 t3))
set_option maxRecDepth 100000 in
set_option maxHeartbeats 4000000 in
theorem lc_most {p : Program} {l : Launch} {e : Env} {s : State} {m : MethodId} {below : List Frame} {meth : Method} {c : Code} {Q : State → Prop} {w : Wd} {sA : Nat → Nat} {b L : Nat} {xs : Nat → Int32} {A : Nat → Prop} (hst : l.stackTraces = false) (X : LC p s m meth c w sA b L xs A) (σ : St) (h : RX σ σ) (i : Nat) (hi : i + 6 ≤ L) (cells slots : Nat) (hc : cells + 20 ≤ 601024) (hs : slots + 120 ≤ 7293034) (kont : ∀ σ9, RX σ9 σ9 → G p l e room_1 s m #[Value.ref b] below meth c Q w A 8 σ9 (cells + 20) (slots + 120) 2093 [(4, .int (nI i)), (3, .ref (w.1 30)), (2, .ref (w.1 0)), (1, .ref (w.1 31)), (0, .ref b)] []) : G p l e room_1 s m #[Value.ref b] below meth c Q w A 8 σ cells slots 1119 [(4, .int (nI i)), (3, .ref (w.1 30)), (2, .ref (w.1 0)), (1, .ref (w.1 31)), (0, .ref b)] [] := by
  obtain ⟨C, hXF, hN, hX, hbl, hbA, _, _, _, hL⟩ := X
  obtain ⟨P, hM, hk⟩ := k_most l hst w sA σ h (xs (i + 1)) (xs (i + 2))
  refine g_aload_n (pc9 := 1120) C rfl 3 dL_law_1119 rfl rfl ?_
  refine g_aload_n (pc9 := 1121) C rfl 4 dL_law_1120 rfl rfl ?_
  refine g_iload (pc9 := 1123) C rfl 0 dL_law_1121 rfl ?_
  refine g_iconst (pc9 := 1124) C rfl (nI 1) dL_law_1123 rfl ?_
  refine g_iaddN (pc9 := 1125) C rfl dL_law_1124 ?_
  refine g_scr (pc9 := 1126) C rfl hX hbl hbA (i + 1) rfl (by omega) (by omega) dL_law_1125 ?_
  refine g_aload_n (pc9 := 1127) C rfl 4 dL_law_1126 rfl rfl ?_
  refine g_iload (pc9 := 1129) C rfl 0 dL_law_1127 rfl ?_
  refine g_iconst (pc9 := 1130) C rfl (nI 2) dL_law_1129 rfl ?_
  refine g_iaddN (pc9 := 1131) C rfl dL_law_1130 ?_
  refine g_scr (pc9 := 1132) C rfl hX hbl hbA (i + 2) rfl (by omega) (by omega) dL_law_1131 ?_
  refine g_aload_n (pc9 := 1133) C rfl 1 dL_law_1132 rfl rfl ?_
  refine w_callSi (rest := []) C hXF hN (pc9 := 1136) rfl [.ref (w.1 31), .int (xs (i + 1)), .int (xs (i + 2)), .ref (w.1 30)] (nn := 4) rfl dL_law_1133 hM gL_law_L_most rfl (by decide +kernel) ⟨by decide, by decide⟩ rfl (Nat.le_of_ble_eq_true rfl) ⟨by show _ ≤ 601024; omega, by show _ ≤ 7293034; omega⟩ (fun r_1 σ_1 q_1 => ?_)
  obtain ⟨PM, hM9, hk9⟩ := hk r_1 σ_1 q_1
  refine g_istore (pc9 := 1138) C rfl [(5, .int r_1), (4, .int (nI i)), (3, .ref (w.1 30)), (2, .ref (w.1 0)), (1, .ref (w.1 31)), (0, .ref b)] dL_law_1136 (by decide) rfl ?_
  refine g_aload_n (pc9 := 1139) C rfl 3 dL_law_1138 rfl rfl ?_
  refine g_aload_n (pc9 := 1140) C rfl 5 dL_law_1139 rfl rfl ?_
  refine g_iload (pc9 := 1142) C rfl 1 dL_law_1140 rfl ?_
  refine g_iconst (pc9 := 1143) C rfl (nI 1) dL_law_1142 rfl ?_
  refine g_iaddN (pc9 := 1144) C rfl dL_law_1143 ?_
  refine g_scr (pc9 := 1145) C rfl hX hbl hbA (i + 1) rfl (by omega) (by omega) dL_law_1144 ?_
  refine g_aload_n (pc9 := 1146) C rfl 5 dL_law_1145 rfl rfl ?_
  refine g_iload (pc9 := 1148) C rfl 1 dL_law_1146 rfl ?_
  refine g_iconst (pc9 := 1149) C rfl (nI 2) dL_law_1148 rfl ?_
  refine g_iaddN (pc9 := 1150) C rfl dL_law_1149 ?_
  refine g_scr (pc9 := 1151) C rfl hX hbl hbA (i + 2) rfl (by omega) (by omega) dL_law_1150 ?_
  refine g_callVi (nn := 2) (rest := []) (pc9 := 1154) C rfl 0 [.int (xs (i + 1)), .int (xs (i + 2))] rfl dL_law_1151 hM9 gL_law_X11_most (by decide) (ce_0 w σ_1) rfl rfl rfl rfl rfl (by decide +kernel) ⟨by decide, by decide⟩ rfl (Nat.le_of_ble_eq_true rfl) ⟨by show _ ≤ 601024; omega, by show _ ≤ 7293034; omega⟩ (fun r_2 σ_2 q_2 => ?_)
  obtain ⟨t1, t2, t3⟩ := hk9 r_2 σ_2 q_2
  refine g_istore (pc9 := 1156) C rfl [(6, .int r_2), (5, .int r_1), (4, .int (nI i)), (3, .ref (w.1 30)), (2, .ref (w.1 0)), (1, .ref (w.1 31)), (0, .ref b)] dL_law_1154 (by decide) rfl ?_
  refine g_aload_n (pc9 := 1157) C rfl 4 dL_law_1156 rfl rfl ?_
  refine g_callVi (nn := 0) (rest := []) (pc9 := 1160) C rfl 0 [] rfl dL_law_1157 (m_X11_thrown l w σ_2) gL_law_X11_thrown (by decide) (ce_0 w σ_2) rfl rfl rfl rfl rfl (by decide +kernel) ⟨by decide, by decide⟩ rfl (Nat.le_of_ble_eq_true rfl) ⟨by show _ ≤ 601024; omega, by show _ ≤ 7293034; omega⟩ (fun r_3 σ_3 q_3 => ?_)
  obtain ⟨qs_3, qr_3⟩ := q_3
  rw [qs_3, qr_3, t1]
  refine g_iload (pc9 := 1162) C rfl 1 dL_law_1160 rfl ?_
  refine g_icmp_eq (pc9 := 1165) C rfl 1167 dL_law_1162 rfl (fun _ => ?_) (fun z => absurd rfl z)
  refine g_iload (pc9 := 1169) C rfl 1 dL_law_1167 rfl ?_
  refine g_if_ne (pc9 := 1172) C rfl 1184 dL_law_1169 rfl (fun _ => ?_) (fun c_1 => ?_)
  · refine g_goto C 2093 dL_law_1184 rfl ?_
    exact g_wid (by omega) (by omega) (g_sub [2, 3, 4, 5, 6] [(4, .int (nI i)), (3, .ref (w.1 30)), (2, .ref (w.1 0)), (1, .ref (w.1 31)), (0, .ref b)] rfl (kont σ_2 t3))
  · have e2 := t2 c_1
    refine g_aload_n (pc9 := 1173) C rfl 3 dL_law_1172 rfl rfl ?_
    refine g_iconst (pc9 := 1174) C rfl (nI 0) dL_law_1173 rfl ?_
    refine g_lald (pc9 := 1175) C rfl 30 0 (n := 1) (x := jA σ_2 30 0) dL_law_1174 (by decide) (ce_30 w σ_2) rfl (by decide) (by decide) rfl ?_
    refine g_iload (pc9 := 1177) C rfl 0 dL_law_1175 rfl ?_
    refine g_i2l (pc9 := 1178) C rfl dL_law_1177 ?_
    refine g_lcmp (pc9 := 1179) C rfl dL_law_1178 ?_
    refine g_if_eq (pc9 := 1182) C rfl 1184 dL_law_1179 rfl (fun _ => ?_) (fun z => absurd (lg_eq (e2)) z)
    refine g_goto C 2093 dL_law_1184 rfl ?_
    exact g_wid (by omega) (by omega) (g_sub [2, 3, 4, 5, 6] [(4, .int (nI i)), (3, .ref (w.1 30)), (2, .ref (w.1 0)), (1, .ref (w.1 31)), (0, .ref b)] rfl (kont σ_2 t3))
set_option maxRecDepth 100000 in
set_option maxHeartbeats 4000000 in
theorem lc_triple {p : Program} {l : Launch} {e : Env} {s : State} {m : MethodId} {below : List Frame} {meth : Method} {c : Code} {Q : State → Prop} {w : Wd} {sA : Nat → Nat} {b L : Nat} {xs : Nat → Int32} {A : Nat → Prop} (hst : l.stackTraces = false) (X : LC p s m meth c w sA b L xs A) (σ : St) (h : RX σ σ) (i : Nat) (hi : i + 6 ≤ L) (cells slots : Nat) (hc : cells + 20 ≤ 601024) (hs : slots + 120 ≤ 7293034) (kont : ∀ σ9, RX σ9 σ9 → G p l e room_1 s m #[Value.ref b] below meth c Q w A 8 σ9 (cells + 20) (slots + 120) 2093 [(4, .int (nI i)), (3, .ref (w.1 30)), (2, .ref (w.1 0)), (1, .ref (w.1 31)), (0, .ref b)] []) : G p l e room_1 s m #[Value.ref b] below meth c Q w A 8 σ cells slots 1187 [(4, .int (nI i)), (3, .ref (w.1 30)), (2, .ref (w.1 0)), (1, .ref (w.1 31)), (0, .ref b)] [] := by
  obtain ⟨C, hXF, hN, hX, hbl, hbA, _, _, _, hL⟩ := X
  obtain ⟨P, hM, hk⟩ := k_triple l hst w sA σ h (xs (i + 1)) (xs (i + 2)) (xs (i + 3))
  refine g_aload_n (pc9 := 1188) C rfl 3 dL_law_1187 rfl rfl ?_
  refine g_aload_n (pc9 := 1189) C rfl 4 dL_law_1188 rfl rfl ?_
  refine g_iload (pc9 := 1191) C rfl 0 dL_law_1189 rfl ?_
  refine g_iconst (pc9 := 1192) C rfl (nI 1) dL_law_1191 rfl ?_
  refine g_iaddN (pc9 := 1193) C rfl dL_law_1192 ?_
  refine g_scr (pc9 := 1194) C rfl hX hbl hbA (i + 1) rfl (by omega) (by omega) dL_law_1193 ?_
  refine g_aload_n (pc9 := 1195) C rfl 4 dL_law_1194 rfl rfl ?_
  refine g_iload (pc9 := 1197) C rfl 0 dL_law_1195 rfl ?_
  refine g_iconst (pc9 := 1198) C rfl (nI 2) dL_law_1197 rfl ?_
  refine g_iaddN (pc9 := 1199) C rfl dL_law_1198 ?_
  refine g_scr (pc9 := 1200) C rfl hX hbl hbA (i + 2) rfl (by omega) (by omega) dL_law_1199 ?_
  refine g_aload_n (pc9 := 1201) C rfl 4 dL_law_1200 rfl rfl ?_
  refine g_iload (pc9 := 1203) C rfl 0 dL_law_1201 rfl ?_
  refine g_iconst (pc9 := 1204) C rfl (nI 3) dL_law_1203 rfl ?_
  refine g_iaddN (pc9 := 1205) C rfl dL_law_1204 ?_
  refine g_scr (pc9 := 1206) C rfl hX hbl hbA (i + 3) rfl (by omega) (by omega) dL_law_1205 ?_
  refine g_aload_n (pc9 := 1207) C rfl 1 dL_law_1206 rfl rfl ?_
  refine w_callSi (rest := []) C hXF hN (pc9 := 1210) rfl [.ref (w.1 31), .int (xs (i + 1)), .int (xs (i + 2)), .int (xs (i + 3)), .ref (w.1 30)] (nn := 5) rfl dL_law_1207 hM gL_law_L_triple rfl (by decide +kernel) ⟨by decide, by decide⟩ rfl (Nat.le_of_ble_eq_true rfl) ⟨by show _ ≤ 601024; omega, by show _ ≤ 7293034; omega⟩ (fun r_1 σ_1 q_1 => ?_)
  obtain ⟨PM, hM9, hk9⟩ := hk r_1 σ_1 q_1
  refine g_istore (pc9 := 1212) C rfl [(5, .int r_1), (4, .int (nI i)), (3, .ref (w.1 30)), (2, .ref (w.1 0)), (1, .ref (w.1 31)), (0, .ref b)] dL_law_1210 (by decide) rfl ?_
  refine g_aload_n (pc9 := 1213) C rfl 3 dL_law_1212 rfl rfl ?_
  refine g_aload_n (pc9 := 1214) C rfl 5 dL_law_1213 rfl rfl ?_
  refine g_iload (pc9 := 1216) C rfl 1 dL_law_1214 rfl ?_
  refine g_iconst (pc9 := 1217) C rfl (nI 1) dL_law_1216 rfl ?_
  refine g_iaddN (pc9 := 1218) C rfl dL_law_1217 ?_
  refine g_scr (pc9 := 1219) C rfl hX hbl hbA (i + 1) rfl (by omega) (by omega) dL_law_1218 ?_
  refine g_aload_n (pc9 := 1220) C rfl 5 dL_law_1219 rfl rfl ?_
  refine g_iload (pc9 := 1222) C rfl 1 dL_law_1220 rfl ?_
  refine g_iconst (pc9 := 1223) C rfl (nI 2) dL_law_1222 rfl ?_
  refine g_iaddN (pc9 := 1224) C rfl dL_law_1223 ?_
  refine g_scr (pc9 := 1225) C rfl hX hbl hbA (i + 2) rfl (by omega) (by omega) dL_law_1224 ?_
  refine g_aload_n (pc9 := 1226) C rfl 5 dL_law_1225 rfl rfl ?_
  refine g_iload (pc9 := 1228) C rfl 1 dL_law_1226 rfl ?_
  refine g_iconst (pc9 := 1229) C rfl (nI 3) dL_law_1228 rfl ?_
  refine g_iaddN (pc9 := 1230) C rfl dL_law_1229 ?_
  refine g_scr (pc9 := 1231) C rfl hX hbl hbA (i + 3) rfl (by omega) (by omega) dL_law_1230 ?_
  refine g_callVi (nn := 3) (rest := []) (pc9 := 1234) C rfl 0 [.int (xs (i + 1)), .int (xs (i + 2)), .int (xs (i + 3))] rfl dL_law_1231 hM9 gL_law_X11_triple (by decide) (ce_0 w σ_1) rfl rfl rfl rfl rfl (by decide +kernel) ⟨by decide, by decide⟩ rfl (Nat.le_of_ble_eq_true rfl) ⟨by show _ ≤ 601024; omega, by show _ ≤ 7293034; omega⟩ (fun r_2 σ_2 q_2 => ?_)
  obtain ⟨t1, t2, t3⟩ := hk9 r_2 σ_2 q_2
  refine g_istore (pc9 := 1236) C rfl [(6, .int r_2), (5, .int r_1), (4, .int (nI i)), (3, .ref (w.1 30)), (2, .ref (w.1 0)), (1, .ref (w.1 31)), (0, .ref b)] dL_law_1234 (by decide) rfl ?_
  refine g_aload_n (pc9 := 1237) C rfl 4 dL_law_1236 rfl rfl ?_
  refine g_callVi (nn := 0) (rest := []) (pc9 := 1240) C rfl 0 [] rfl dL_law_1237 (m_X11_thrown l w σ_2) gL_law_X11_thrown (by decide) (ce_0 w σ_2) rfl rfl rfl rfl rfl (by decide +kernel) ⟨by decide, by decide⟩ rfl (Nat.le_of_ble_eq_true rfl) ⟨by show _ ≤ 601024; omega, by show _ ≤ 7293034; omega⟩ (fun r_3 σ_3 q_3 => ?_)
  obtain ⟨qs_3, qr_3⟩ := q_3
  rw [qs_3, qr_3, t1]
  refine g_iload (pc9 := 1242) C rfl 1 dL_law_1240 rfl ?_
  refine g_icmp_eq (pc9 := 1245) C rfl 1247 dL_law_1242 rfl (fun _ => ?_) (fun z => absurd rfl z)
  refine g_iload (pc9 := 1249) C rfl 1 dL_law_1247 rfl ?_
  refine g_if_ne (pc9 := 1252) C rfl 1264 dL_law_1249 rfl (fun _ => ?_) (fun c_1 => ?_)
  · refine g_goto C 2093 dL_law_1264 rfl ?_
    exact g_wid (by omega) (by omega) (g_sub [2, 3, 4, 5, 6] [(4, .int (nI i)), (3, .ref (w.1 30)), (2, .ref (w.1 0)), (1, .ref (w.1 31)), (0, .ref b)] rfl (kont σ_2 t3))
  · have e2 := t2 c_1
    refine g_aload_n (pc9 := 1253) C rfl 3 dL_law_1252 rfl rfl ?_
    refine g_iconst (pc9 := 1254) C rfl (nI 0) dL_law_1253 rfl ?_
    refine g_lald (pc9 := 1255) C rfl 30 0 (n := 1) (x := jA σ_2 30 0) dL_law_1254 (by decide) (ce_30 w σ_2) rfl (by decide) (by decide) rfl ?_
    refine g_iload (pc9 := 1257) C rfl 0 dL_law_1255 rfl ?_
    refine g_i2l (pc9 := 1258) C rfl dL_law_1257 ?_
    refine g_lcmp (pc9 := 1259) C rfl dL_law_1258 ?_
    refine g_if_eq (pc9 := 1262) C rfl 1264 dL_law_1259 rfl (fun _ => ?_) (fun z => absurd (lg_eq (e2)) z)
    refine g_goto C 2093 dL_law_1264 rfl ?_
    exact g_wid (by omega) (by omega) (g_sub [2, 3, 4, 5, 6] [(4, .int (nI i)), (3, .ref (w.1 30)), (2, .ref (w.1 0)), (1, .ref (w.1 31)), (0, .ref b)] rfl (kont σ_2 t3))

/-! THE LAW: a case each -/
section CASES
variable {G : zG} {A : zQs} {I : zI} {L : zJ} {Q : zP} {i : Nat}
theorem lc_21 (ho : Ao A) (pc : PicC A I) (pm : PicM A I) (hi : i + 5 ≤ gsL G) (hs : gsL G ≤ 320) (hq : ∀ (A': zQs) (I' : zI) (L' : zJ), Ao A' → PicC A' I' → PicM A' I' → Zp G 229 1504 [some (.ref 1000000), some (.ref 0), some (.ref 93), some (.int (nI i))] [] I' L' Q) : Zp G 229 809 [some (.ref 1000000), some (.ref 0), some (.ref 93), some (.int (nI i))] [] I L Q := by
  obtain ⟨v, A2, ho2, hc, hm⟩ := B_lasts (G := G) (x := gxs G (i + 1)) (y := gxs G (i + 2)) ho
  refine Zp.aload_n k_229_809 rfl ?_
  refine Zp.arg 1 k_229_810 k_229_811 k_229_812 k_229_813 k_229_814 rfl (by decide) (by omega) hs ?_
  refine Zp.arg 2 k_229_815 k_229_816 k_229_817 k_229_818 k_229_819 rfl (by decide) (by omega) hs ?_
  refine Zp.callv2I v_97 k_229_820 m_0 (Nat.le_of_ble_eq_true rfl) (Nat.le_of_ble_eq_true rfl) ?_
  refine Zm.mono (fun r I1 L1 q => ?_) (Zm.int vr_97 (hc I L (fun r I1 L1 => r = some v ∧ PicC A2 I1 ∧ FrC I I1) pc (fun I1 p1 f1 => ⟨rfl, p1, f1⟩)))
  obtain ⟨⟨x, rfl⟩, e, pc2, fc⟩ := q
  have e2 := Option.some.inj e
  subst e2
  refine ⟨x, rfl, ?_⟩
  have pm1 := pm.fc fc
  refine Zp.aload_n k_229_823 rfl ?_
  refine Zp.arg 1 k_229_824 k_229_825 k_229_826 k_229_827 k_229_828 rfl (by decide) (by omega) hs ?_
  refine Zp.arg 2 k_229_829 k_229_830 k_229_831 k_229_832 k_229_833 rfl (by decide) (by omega) hs ?_
  refine Zp.callv2I v_191 k_229_834 m_93 (Nat.le_of_ble_eq_true rfl) (Nat.le_of_ble_eq_true rfl) ?_
  refine Zm.mono (fun r I2 L2 q => ?_) (hm I1 L1 (fun r I2 L2 => r = some (.int x) ∧ PicM A2 I2 ∧ FrM I1 I2) pm1 (fun I2 L2 p2 f2 => ⟨rfl, p2, f2⟩))
  obtain ⟨rfl, pm2, fm⟩ := q
  refine ⟨x, rfl, ?_⟩
  refine Zp.icmp_eq k_229_837 (fun _ => hq A2 I2 L2 ho2 (pc2.fm fm) pm2) (fun z => absurd rfl z)
theorem lc_22 (ho : Ao A) (pc : PicC A I) (pm : PicM A I) (hi : i + 5 ≤ gsL G) (hs : gsL G ≤ 320) (hq : ∀ (A': zQs) (I' : zI) (L' : zJ), Ao A' → PicC A' I' → PicM A' I' → Zp G 229 1504 [some (.ref 1000000), some (.ref 0), some (.ref 93), some (.int (nI i))] [] I' L' Q) : Zp G 229 842 [some (.ref 1000000), some (.ref 0), some (.ref 93), some (.int (nI i))] [] I L Q := by
  obtain ⟨v, A2, ho2, hc, hm⟩ := B_three (G := G) (x := gxs G (i + 1)) (y := gxs G (i + 2)) (z := gxs G (i + 3)) ho
  refine Zp.aload_n k_229_842 rfl ?_
  refine Zp.arg 1 k_229_843 k_229_844 k_229_845 k_229_846 k_229_847 rfl (by decide) (by omega) hs ?_
  refine Zp.arg 2 k_229_848 k_229_849 k_229_850 k_229_851 k_229_852 rfl (by decide) (by omega) hs ?_
  refine Zp.arg 3 k_229_853 k_229_854 k_229_855 k_229_856 k_229_857 rfl (by decide) (by omega) hs ?_
  refine Zp.callv3I v_98 k_229_858 m_0 (Nat.le_of_ble_eq_true rfl) (Nat.le_of_ble_eq_true rfl) ?_
  refine Zm.mono (fun r I1 L1 q => ?_) (Zm.int vr_98 (hc I L (fun r I1 L1 => r = some v ∧ PicC A2 I1 ∧ FrC I I1) pc (fun I1 p1 f1 => ⟨rfl, p1, f1⟩)))
  obtain ⟨⟨x, rfl⟩, e, pc2, fc⟩ := q
  have e2 := Option.some.inj e
  subst e2
  refine ⟨x, rfl, ?_⟩
  have pm1 := pm.fc fc
  refine Zp.aload_n k_229_861 rfl ?_
  refine Zp.arg 1 k_229_862 k_229_863 k_229_864 k_229_865 k_229_866 rfl (by decide) (by omega) hs ?_
  refine Zp.arg 2 k_229_867 k_229_868 k_229_869 k_229_870 k_229_871 rfl (by decide) (by omega) hs ?_
  refine Zp.arg 3 k_229_872 k_229_873 k_229_874 k_229_875 k_229_876 rfl (by decide) (by omega) hs ?_
  refine Zp.callv3I v_192 k_229_877 m_93 (Nat.le_of_ble_eq_true rfl) (Nat.le_of_ble_eq_true rfl) ?_
  refine Zm.mono (fun r I2 L2 q => ?_) (hm I1 L1 (fun r I2 L2 => r = some (.int x) ∧ PicM A2 I2 ∧ FrM I1 I2) pm1 (fun I2 L2 p2 f2 => ⟨rfl, p2, f2⟩))
  obtain ⟨rfl, pm2, fm⟩ := q
  refine ⟨x, rfl, ?_⟩
  refine Zp.icmp_eq k_229_880 (fun _ => hq A2 I2 L2 ho2 (pc2.fm fm) pm2) (fun z => absurd rfl z)
theorem lc_23 (ho : Ao A) (pc : PicC A I) (pm : PicM A I) (hi : i + 5 ≤ gsL G) (hs : gsL G ≤ 320) (hq : ∀ (A': zQs) (I' : zI) (L' : zJ), Ao A' → PicC A' I' → PicM A' I' → Zp G 229 1504 [some (.ref 1000000), some (.ref 0), some (.ref 93), some (.int (nI i))] [] I' L' Q) : Zp G 229 885 [some (.ref 1000000), some (.ref 0), some (.ref 93), some (.int (nI i))] [] I L Q := by
  obtain ⟨v, A2, ho2, hc, hm⟩ := B_best (G := G) (x := gxs G (i + 1)) (y := gxs G (i + 2)) ho
  refine Zp.aload_n k_229_885 rfl ?_
  refine Zp.arg 1 k_229_886 k_229_887 k_229_888 k_229_889 k_229_890 rfl (by decide) (by omega) hs ?_
  refine Zp.arg 2 k_229_891 k_229_892 k_229_893 k_229_894 k_229_895 rfl (by decide) (by omega) hs ?_
  refine Zp.callv2I v_100 k_229_896 m_0 (Nat.le_of_ble_eq_true rfl) (Nat.le_of_ble_eq_true rfl) ?_
  refine Zm.mono (fun r I1 L1 q => ?_) (Zm.int vr_100 (hc I L (fun r I1 L1 => r = some v ∧ PicC A2 I1 ∧ FrC I I1) pc (fun I1 p1 f1 => ⟨rfl, p1, f1⟩)))
  obtain ⟨⟨x, rfl⟩, e, pc2, fc⟩ := q
  have e2 := Option.some.inj e
  subst e2
  refine ⟨x, rfl, ?_⟩
  have pm1 := pm.fc fc
  refine Zp.aload_n k_229_899 rfl ?_
  refine Zp.arg 1 k_229_900 k_229_901 k_229_902 k_229_903 k_229_904 rfl (by decide) (by omega) hs ?_
  refine Zp.arg 2 k_229_905 k_229_906 k_229_907 k_229_908 k_229_909 rfl (by decide) (by omega) hs ?_
  refine Zp.callv2I v_199 k_229_910 m_93 (Nat.le_of_ble_eq_true rfl) (Nat.le_of_ble_eq_true rfl) ?_
  refine Zm.mono (fun r I2 L2 q => ?_) (hm I1 L1 (fun r I2 L2 => r = some (.int x) ∧ PicM A2 I2 ∧ FrM I1 I2) pm1 (fun I2 L2 p2 f2 => ⟨rfl, p2, f2⟩))
  obtain ⟨rfl, pm2, fm⟩ := q
  refine ⟨x, rfl, ?_⟩
  refine Zp.icmp_eq k_229_913 (fun _ => hq A2 I2 L2 ho2 (pc2.fm fm) pm2) (fun z => absurd rfl z)
theorem lc_24 (ho : Ao A) (pc : PicC A I) (pm : PicM A I) (hi : i + 5 ≤ gsL G) (hs : gsL G ≤ 320) (hq : ∀ (A': zQs) (I' : zI) (L' : zJ), Ao A' → PicC A' I' → PicM A' I' → Zp G 229 1504 [some (.ref 1000000), some (.ref 0), some (.ref 93), some (.int (nI i))] [] I' L' Q) : Zp G 229 918 [some (.ref 1000000), some (.ref 0), some (.ref 93), some (.int (nI i))] [] I L Q := by
  obtain ⟨v, A2, ho2, hc, hm⟩ := B_few (G := G) (x := gxs G (i + 1)) ho
  refine Zp.aload_n k_229_918 rfl ?_
  refine Zp.arg 1 k_229_919 k_229_920 k_229_921 k_229_922 k_229_923 rfl (by decide) (by omega) hs ?_
  refine Zp.callv1I v_101 k_229_924 m_0 (Nat.le_of_ble_eq_true rfl) (Nat.le_of_ble_eq_true rfl) ?_
  refine Zm.mono (fun r I1 L1 q => ?_) (Zm.int vr_101 (hc I L (fun r I1 L1 => r = some v ∧ PicC A2 I1 ∧ FrC I I1) pc (fun I1 p1 f1 => ⟨rfl, p1, f1⟩)))
  obtain ⟨⟨x, rfl⟩, e, pc2, fc⟩ := q
  have e2 := Option.some.inj e
  subst e2
  refine ⟨x, rfl, ?_⟩
  have pm1 := pm.fc fc
  refine Zp.aload_n k_229_927 rfl ?_
  refine Zp.arg 1 k_229_928 k_229_929 k_229_930 k_229_931 k_229_932 rfl (by decide) (by omega) hs ?_
  refine Zp.callv1I v_200 k_229_933 m_93 (Nat.le_of_ble_eq_true rfl) (Nat.le_of_ble_eq_true rfl) ?_
  refine Zm.mono (fun r I2 L2 q => ?_) (hm I1 L1 (fun r I2 L2 => r = some (.int x) ∧ PicM A2 I2 ∧ FrM I1 I2) pm1 (fun I2 L2 p2 f2 => ⟨rfl, p2, f2⟩))
  obtain ⟨rfl, pm2, fm⟩ := q
  refine ⟨x, rfl, ?_⟩
  refine Zp.icmp_eq k_229_936 (fun _ => hq A2 I2 L2 ho2 (pc2.fm fm) pm2) (fun z => absurd rfl z)
theorem lc_25 (ho : Ao A) (pc : PicC A I) (pm : PicM A I) (hi : i + 5 ≤ gsL G) (hs : gsL G ≤ 320) (hq : ∀ (A': zQs) (I' : zI) (L' : zJ), Ao A' → PicC A' I' → PicM A' I' → Zp G 229 1504 [some (.ref 1000000), some (.ref 0), some (.ref 93), some (.int (nI i))] [] I' L' Q) : Zp G 229 941 [some (.ref 1000000), some (.ref 0), some (.ref 93), some (.int (nI i))] [] I L Q := by
  obtain ⟨v, A2, ho2, hc, hm⟩ := B_slips (G := G) (x := gxs G (i + 1)) ho
  refine Zp.aload_n k_229_941 rfl ?_
  refine Zp.arg 1 k_229_942 k_229_943 k_229_944 k_229_945 k_229_946 rfl (by decide) (by omega) hs ?_
  refine Zp.callv1I v_103 k_229_947 m_0 (Nat.le_of_ble_eq_true rfl) (Nat.le_of_ble_eq_true rfl) ?_
  refine Zm.mono (fun r I1 L1 q => ?_) (Zm.int vr_103 (hc I L (fun r I1 L1 => r = some v ∧ PicC A2 I1 ∧ FrC I I1) pc (fun I1 p1 f1 => ⟨rfl, p1, f1⟩)))
  obtain ⟨⟨x, rfl⟩, e, pc2, fc⟩ := q
  have e2 := Option.some.inj e
  subst e2
  refine ⟨x, rfl, ?_⟩
  have pm1 := pm.fc fc
  refine Zp.aload_n k_229_950 rfl ?_
  refine Zp.arg 1 k_229_951 k_229_952 k_229_953 k_229_954 k_229_955 rfl (by decide) (by omega) hs ?_
  refine Zp.callv1I v_202 k_229_956 m_93 (Nat.le_of_ble_eq_true rfl) (Nat.le_of_ble_eq_true rfl) ?_
  refine Zm.mono (fun r I2 L2 q => ?_) (hm I1 L1 (fun r I2 L2 => r = some (.int x) ∧ PicM A2 I2 ∧ FrM I1 I2) pm1 (fun I2 L2 p2 f2 => ⟨rfl, p2, f2⟩))
  obtain ⟨rfl, pm2, fm⟩ := q
  refine ⟨x, rfl, ?_⟩
  refine Zp.icmp_eq k_229_959 (fun _ => hq A2 I2 L2 ho2 (pc2.fm fm) pm2) (fun z => absurd rfl z)
theorem lc_26 (ho : Ao A) (pc : PicC A I) (pm : PicM A I) (hi : i + 5 ≤ gsL G) (hs : gsL G ≤ 320) (hq : ∀ (A': zQs) (I' : zI) (L' : zJ), Ao A' → PicC A' I' → PicM A' I' → Zp G 229 1504 [some (.ref 1000000), some (.ref 0), some (.ref 93), some (.int (nI i))] [] I' L' Q) : Zp G 229 964 [some (.ref 1000000), some (.ref 0), some (.ref 93), some (.int (nI i))] [] I L Q := by
  obtain ⟨v, A2, ho2, hc, hm⟩ := B_mate (G := G) (x := gxs G (i + 1)) ho
  refine Zp.aload_n k_229_964 rfl ?_
  refine Zp.arg 1 k_229_965 k_229_966 k_229_967 k_229_968 k_229_969 rfl (by decide) (by omega) hs ?_
  refine Zp.callv1I v_106 k_229_970 m_0 (Nat.le_of_ble_eq_true rfl) (Nat.le_of_ble_eq_true rfl) ?_
  refine Zm.mono (fun r I1 L1 q => ?_) (Zm.int vr_106 (hc I L (fun r I1 L1 => r = some v ∧ PicC A2 I1 ∧ FrC I I1) pc (fun I1 p1 f1 => ⟨rfl, p1, f1⟩)))
  obtain ⟨⟨x, rfl⟩, e, pc2, fc⟩ := q
  have e2 := Option.some.inj e
  subst e2
  refine ⟨x, rfl, ?_⟩
  have pm1 := pm.fc fc
  refine Zp.aload_n k_229_973 rfl ?_
  refine Zp.arg 1 k_229_974 k_229_975 k_229_976 k_229_977 k_229_978 rfl (by decide) (by omega) hs ?_
  refine Zp.callv1I v_203 k_229_979 m_93 (Nat.le_of_ble_eq_true rfl) (Nat.le_of_ble_eq_true rfl) ?_
  refine Zm.mono (fun r I2 L2 q => ?_) (hm I1 L1 (fun r I2 L2 => r = some (.int x) ∧ PicM A2 I2 ∧ FrM I1 I2) pm1 (fun I2 L2 p2 f2 => ⟨rfl, p2, f2⟩))
  obtain ⟨rfl, pm2, fm⟩ := q
  refine ⟨x, rfl, ?_⟩
  refine Zp.icmp_eq k_229_982 (fun _ => hq A2 I2 L2 ho2 (pc2.fm fm) pm2) (fun z => absurd rfl z)
theorem lc_27 (ho : Ao A) (pc : PicC A I) (pm : PicM A I) (hi : i + 5 ≤ gsL G) (hs : gsL G ≤ 320) (hq : ∀ (A': zQs) (I' : zI) (L' : zJ), Ao A' → PicC A' I' → PicM A' I' → Zp G 229 1504 [some (.ref 1000000), some (.ref 0), some (.ref 93), some (.int (nI i))] [] I' L' Q) : Zp G 229 987 [some (.ref 1000000), some (.ref 0), some (.ref 93), some (.int (nI i))] [] I L Q := by
  obtain ⟨v, A2, ho2, hc, hm⟩ := B_match (G := G) (x := gxs G (i + 1)) ho
  refine Zp.aload_n k_229_987 rfl ?_
  refine Zp.arg 1 k_229_988 k_229_989 k_229_990 k_229_991 k_229_992 rfl (by decide) (by omega) hs ?_
  refine Zp.callv1I v_107 k_229_993 m_0 (Nat.le_of_ble_eq_true rfl) (Nat.le_of_ble_eq_true rfl) ?_
  refine Zm.mono (fun r I1 L1 q => ?_) (Zm.int vr_107 (hc I L (fun r I1 L1 => r = some v ∧ PicC A2 I1 ∧ FrC I I1) pc (fun I1 p1 f1 => ⟨rfl, p1, f1⟩)))
  obtain ⟨⟨x, rfl⟩, e, pc2, fc⟩ := q
  have e2 := Option.some.inj e
  subst e2
  refine ⟨x, rfl, ?_⟩
  have pm1 := pm.fc fc
  refine Zp.aload_n k_229_996 rfl ?_
  refine Zp.arg 1 k_229_997 k_229_998 k_229_999 k_229_1000 k_229_1001 rfl (by decide) (by omega) hs ?_
  refine Zp.callv1I v_207 k_229_1002 m_93 (Nat.le_of_ble_eq_true rfl) (Nat.le_of_ble_eq_true rfl) ?_
  refine Zm.mono (fun r I2 L2 q => ?_) (hm I1 L1 (fun r I2 L2 => r = some (.int x) ∧ PicM A2 I2 ∧ FrM I1 I2) pm1 (fun I2 L2 p2 f2 => ⟨rfl, p2, f2⟩))
  obtain ⟨rfl, pm2, fm⟩ := q
  refine ⟨x, rfl, ?_⟩
  refine Zp.icmp_eq k_229_1005 (fun _ => hq A2 I2 L2 ho2 (pc2.fm fm) pm2) (fun z => absurd rfl z)
theorem lc_28 (ho : Ao A) (pc : PicC A I) (pm : PicM A I) (hi : i + 5 ≤ gsL G) (hs : gsL G ≤ 320) (hq : ∀ (A': zQs) (I' : zI) (L' : zJ), Ao A' → PicC A' I' → PicM A' I' → Zp G 229 1504 [some (.ref 1000000), some (.ref 0), some (.ref 93), some (.int (nI i))] [] I' L' Q) : Zp G 229 1010 [some (.ref 1000000), some (.ref 0), some (.ref 93), some (.int (nI i))] [] I L Q := by
  obtain ⟨v, A2, ho2, hc, hm⟩ := B_see (G := G) (x := gxs G (i + 1)) (y := gxs G (i + 2)) ho
  refine Zp.aload_n k_229_1010 rfl ?_
  refine Zp.arg 1 k_229_1011 k_229_1012 k_229_1013 k_229_1014 k_229_1015 rfl (by decide) (by omega) hs ?_
  refine Zp.arg 2 k_229_1016 k_229_1017 k_229_1018 k_229_1019 k_229_1020 rfl (by decide) (by omega) hs ?_
  refine Zp.callv2I v_108 k_229_1021 m_0 (Nat.le_of_ble_eq_true rfl) (Nat.le_of_ble_eq_true rfl) ?_
  refine Zm.mono (fun r I1 L1 q => ?_) (Zm.int vr_108 (hc I L (fun r I1 L1 => r = some v ∧ PicC A2 I1 ∧ FrC I I1) pc (fun I1 p1 f1 => ⟨rfl, p1, f1⟩)))
  obtain ⟨⟨x, rfl⟩, e, pc2, fc⟩ := q
  have e2 := Option.some.inj e
  subst e2
  refine ⟨x, rfl, ?_⟩
  have pm1 := pm.fc fc
  refine Zp.aload_n k_229_1024 rfl ?_
  refine Zp.arg 1 k_229_1025 k_229_1026 k_229_1027 k_229_1028 k_229_1029 rfl (by decide) (by omega) hs ?_
  refine Zp.arg 2 k_229_1030 k_229_1031 k_229_1032 k_229_1033 k_229_1034 rfl (by decide) (by omega) hs ?_
  refine Zp.callv2I v_208 k_229_1035 m_93 (Nat.le_of_ble_eq_true rfl) (Nat.le_of_ble_eq_true rfl) ?_
  refine Zm.mono (fun r I2 L2 q => ?_) (hm I1 L1 (fun r I2 L2 => r = some (.int x) ∧ PicM A2 I2 ∧ FrM I1 I2) pm1 (fun I2 L2 p2 f2 => ⟨rfl, p2, f2⟩))
  obtain ⟨rfl, pm2, fm⟩ := q
  refine ⟨x, rfl, ?_⟩
  refine Zp.icmp_eq k_229_1038 (fun _ => hq A2 I2 L2 ho2 (pc2.fm fm) pm2) (fun z => absurd rfl z)
theorem lc_29 (ho : Ao A) (pc : PicC A I) (pm : PicM A I) (hi : i + 5 ≤ gsL G) (hs : gsL G ≤ 320) (hq : ∀ (A': zQs) (I' : zI) (L' : zJ), Ao A' → PicC A' I' → PicM A' I' → Zp G 229 1504 [some (.ref 1000000), some (.ref 0), some (.ref 93), some (.int (nI i))] [] I' L' Q) : Zp G 229 1043 [some (.ref 1000000), some (.ref 0), some (.ref 93), some (.int (nI i))] [] I L Q := by
  obtain ⟨v, A2, ho2, hc, hm⟩ := B_forget (G := G) (x := gxs G (i + 1)) ho
  refine Zp.aload_n k_229_1043 rfl ?_
  refine Zp.arg 1 k_229_1044 k_229_1045 k_229_1046 k_229_1047 k_229_1048 rfl (by decide) (by omega) hs ?_
  refine Zp.callv1I v_109 k_229_1049 m_0 (Nat.le_of_ble_eq_true rfl) (Nat.le_of_ble_eq_true rfl) ?_
  refine Zm.mono (fun r I1 L1 q => ?_) (Zm.int vr_109 (hc I L (fun r I1 L1 => r = some v ∧ PicC A2 I1 ∧ FrC I I1) pc (fun I1 p1 f1 => ⟨rfl, p1, f1⟩)))
  obtain ⟨⟨x, rfl⟩, e, pc2, fc⟩ := q
  have e2 := Option.some.inj e
  subst e2
  refine ⟨x, rfl, ?_⟩
  have pm1 := pm.fc fc
  refine Zp.aload_n k_229_1052 rfl ?_
  refine Zp.arg 1 k_229_1053 k_229_1054 k_229_1055 k_229_1056 k_229_1057 rfl (by decide) (by omega) hs ?_
  refine Zp.callv1I v_209 k_229_1058 m_93 (Nat.le_of_ble_eq_true rfl) (Nat.le_of_ble_eq_true rfl) ?_
  refine Zm.mono (fun r I2 L2 q => ?_) (hm I1 L1 (fun r I2 L2 => r = some (.int x) ∧ PicM A2 I2 ∧ FrM I1 I2) pm1 (fun I2 L2 p2 f2 => ⟨rfl, p2, f2⟩))
  obtain ⟨rfl, pm2, fm⟩ := q
  refine ⟨x, rfl, ?_⟩
  refine Zp.icmp_eq k_229_1061 (fun _ => hq A2 I2 L2 ho2 (pc2.fm fm) pm2) (fun z => absurd rfl z)
theorem lc_30 (ho : Ao A) (pc : PicC A I) (pm : PicM A I) (hi : i + 5 ≤ gsL G) (hs : gsL G ≤ 320) (hq : ∀ (A': zQs) (I' : zI) (L' : zJ), Ao A' → PicC A' I' → PicM A' I' → Zp G 229 1504 [some (.ref 1000000), some (.ref 0), some (.ref 93), some (.int (nI i))] [] I' L' Q) : Zp G 229 1066 [some (.ref 1000000), some (.ref 0), some (.ref 93), some (.int (nI i))] [] I L Q := by
  obtain ⟨v, A2, ho2, hc, hm⟩ := B_fits (G := G) (x := gxs G (i + 1)) (y := gxs G (i + 2)) (z := gxs G (i + 3)) ho
  refine Zp.aload_n k_229_1066 rfl ?_
  refine Zp.arg 1 k_229_1067 k_229_1068 k_229_1069 k_229_1070 k_229_1071 rfl (by decide) (by omega) hs ?_
  refine Zp.arg 2 k_229_1072 k_229_1073 k_229_1074 k_229_1075 k_229_1076 rfl (by decide) (by omega) hs ?_
  refine Zp.arg 3 k_229_1077 k_229_1078 k_229_1079 k_229_1080 k_229_1081 rfl (by decide) (by omega) hs ?_
  refine Zp.callv3I v_110 k_229_1082 m_0 (Nat.le_of_ble_eq_true rfl) (Nat.le_of_ble_eq_true rfl) ?_
  refine Zm.mono (fun r I1 L1 q => ?_) (Zm.int vr_110 (hc I L (fun r I1 L1 => r = some v ∧ PicC A2 I1 ∧ FrC I I1) pc (fun I1 p1 f1 => ⟨rfl, p1, f1⟩)))
  obtain ⟨⟨x, rfl⟩, e, pc2, fc⟩ := q
  have e2 := Option.some.inj e
  subst e2
  refine ⟨x, rfl, ?_⟩
  have pm1 := pm.fc fc
  refine Zp.aload_n k_229_1085 rfl ?_
  refine Zp.arg 1 k_229_1086 k_229_1087 k_229_1088 k_229_1089 k_229_1090 rfl (by decide) (by omega) hs ?_
  refine Zp.arg 2 k_229_1091 k_229_1092 k_229_1093 k_229_1094 k_229_1095 rfl (by decide) (by omega) hs ?_
  refine Zp.arg 3 k_229_1096 k_229_1097 k_229_1098 k_229_1099 k_229_1100 rfl (by decide) (by omega) hs ?_
  refine Zp.callv3I v_211 k_229_1101 m_93 (Nat.le_of_ble_eq_true rfl) (Nat.le_of_ble_eq_true rfl) ?_
  refine Zm.mono (fun r I2 L2 q => ?_) (hm I1 L1 (fun r I2 L2 => r = some (.int x) ∧ PicM A2 I2 ∧ FrM I1 I2) pm1 (fun I2 L2 p2 f2 => ⟨rfl, p2, f2⟩))
  obtain ⟨rfl, pm2, fm⟩ := q
  refine ⟨x, rfl, ?_⟩
  refine Zp.icmp_eq k_229_1104 (fun _ => hq A2 I2 L2 ho2 (pc2.fm fm) pm2) (fun z => absurd rfl z)
theorem lc_31 (ho : Ao A) (pc : PicC A I) (pm : PicM A I) (hi : i + 5 ≤ gsL G) (hs : gsL G ≤ 320) (hq : ∀ (A': zQs) (I' : zI) (L' : zJ), Ao A' → PicC A' I' → PicM A' I' → Zp G 229 1504 [some (.ref 1000000), some (.ref 0), some (.ref 93), some (.int (nI i))] [] I' L' Q) : Zp G 229 1109 [some (.ref 1000000), some (.ref 0), some (.ref 93), some (.int (nI i))] [] I L Q := by
  obtain ⟨v, A2, ho2, hc, hm⟩ := B_forgave (G := G) (x := gxs G (i + 1)) ho
  refine Zp.aload_n k_229_1109 rfl ?_
  refine Zp.arg 1 k_229_1110 k_229_1111 k_229_1112 k_229_1113 k_229_1114 rfl (by decide) (by omega) hs ?_
  refine Zp.callv1I v_112 k_229_1115 m_0 (Nat.le_of_ble_eq_true rfl) (Nat.le_of_ble_eq_true rfl) ?_
  refine Zm.mono (fun r I1 L1 q => ?_) (Zm.int vr_112 (hc I L (fun r I1 L1 => r = some v ∧ PicC A2 I1 ∧ FrC I I1) pc (fun I1 p1 f1 => ⟨rfl, p1, f1⟩)))
  obtain ⟨⟨x, rfl⟩, e, pc2, fc⟩ := q
  have e2 := Option.some.inj e
  subst e2
  refine ⟨x, rfl, ?_⟩
  have pm1 := pm.fc fc
  refine Zp.aload_n k_229_1118 rfl ?_
  refine Zp.arg 1 k_229_1119 k_229_1120 k_229_1121 k_229_1122 k_229_1123 rfl (by decide) (by omega) hs ?_
  refine Zp.callv1I v_212 k_229_1124 m_93 (Nat.le_of_ble_eq_true rfl) (Nat.le_of_ble_eq_true rfl) ?_
  refine Zm.mono (fun r I2 L2 q => ?_) (hm I1 L1 (fun r I2 L2 => r = some (.int x) ∧ PicM A2 I2 ∧ FrM I1 I2) pm1 (fun I2 L2 p2 f2 => ⟨rfl, p2, f2⟩))
  obtain ⟨rfl, pm2, fm⟩ := q
  refine ⟨x, rfl, ?_⟩
  refine Zp.icmp_eq k_229_1127 (fun _ => hq A2 I2 L2 ho2 (pc2.fm fm) pm2) (fun z => absurd rfl z)
theorem lc_32 (ho : Ao A) (pc : PicC A I) (pm : PicM A I) (hi : i + 5 ≤ gsL G) (hs : gsL G ≤ 320) (hq : ∀ (A': zQs) (I' : zI) (L' : zJ), Ao A' → PicC A' I' → PicM A' I' → Zp G 229 1504 [some (.ref 1000000), some (.ref 0), some (.ref 93), some (.int (nI i))] [] I' L' Q) : Zp G 229 1132 [some (.ref 1000000), some (.ref 0), some (.ref 93), some (.int (nI i))] [] I L Q := by
  obtain ⟨v, A2, ho2, hc, hm⟩ := B_luckL (G := G) (x := gxs G (i + 1)) (y := gxs G (i + 2)) (z := gxs G (i + 3)) (u := gxs G (i + 4)) ho
  refine Zp.aload_n k_229_1132 rfl ?_
  refine Zp.arg 1 k_229_1133 k_229_1134 k_229_1135 k_229_1136 k_229_1137 rfl (by decide) (by omega) hs ?_
  refine Zp.arg 2 k_229_1138 k_229_1139 k_229_1140 k_229_1141 k_229_1142 rfl (by decide) (by omega) hs ?_
  refine Zp.arg 3 k_229_1143 k_229_1144 k_229_1145 k_229_1146 k_229_1147 rfl (by decide) (by omega) hs ?_
  refine Zp.arg 4 k_229_1148 k_229_1149 k_229_1150 k_229_1151 k_229_1152 rfl (by decide) (by omega) hs ?_
  refine Zp.callv4L v_113 k_229_1153 m_0 (Nat.le_of_ble_eq_true rfl) (Nat.le_of_ble_eq_true rfl) ?_
  refine Zm.mono (fun r I1 L1 q => ?_) (hc I L (fun r I1 L1 => r = some (.long v) ∧ PicC A2 I1 ∧ FrC I I1) pc (fun I1 p1 f1 => ⟨rfl, p1, f1⟩))
  obtain ⟨rfl, pc2, fc⟩ := q
  refine ⟨v, rfl, ?_⟩
  have pm1 := pm.fc fc
  refine Zp.aload_n k_229_1156 rfl ?_
  refine Zp.arg 1 k_229_1157 k_229_1158 k_229_1159 k_229_1160 k_229_1161 rfl (by decide) (by omega) hs ?_
  refine Zp.arg 2 k_229_1162 k_229_1163 k_229_1164 k_229_1165 k_229_1166 rfl (by decide) (by omega) hs ?_
  refine Zp.arg 3 k_229_1167 k_229_1168 k_229_1169 k_229_1170 k_229_1171 rfl (by decide) (by omega) hs ?_
  refine Zp.arg 4 k_229_1172 k_229_1173 k_229_1174 k_229_1175 k_229_1176 rfl (by decide) (by omega) hs ?_
  refine Zp.callv4L v_217 k_229_1177 m_93 (Nat.le_of_ble_eq_true rfl) (Nat.le_of_ble_eq_true rfl) ?_
  refine Zm.mono (fun r I2 L2 q => ?_) (hm I1 L1 (fun r I2 L2 => r = some (.long v) ∧ PicM A2 I2 ∧ FrM I1 I2) pm1 (fun I2 L2 p2 f2 => ⟨rfl, p2, f2⟩))
  obtain ⟨rfl, pm2, fm⟩ := q
  refine ⟨v, rfl, ?_⟩
  refine Zp.lcmp k_229_1180 ?_
  refine Zp.if_eq k_229_1181 (fun _ => hq A2 I2 L2 ho2 (pc2.fm fm) pm2) (fun z => absurd (lg_cmp_rf v) z)
theorem lc_33 (ho : Ao A) (pc : PicC A I) (pm : PicM A I) (hi : i + 5 ≤ gsL G) (hs : gsL G ≤ 320) (hq : ∀ (A': zQs) (I' : zI) (L' : zJ), Ao A' → PicC A' I' → PicM A' I' → Zp G 229 1504 [some (.ref 1000000), some (.ref 0), some (.ref 93), some (.int (nI i))] [] I' L' Q) : Zp G 229 1186 [some (.ref 1000000), some (.ref 0), some (.ref 93), some (.int (nI i))] [] I L Q := by
  obtain ⟨v, A2, ho2, hc, hm⟩ := B_meanL (G := G) (x := gxs G (i + 1)) (y := gxs G (i + 2)) (z := gxs G (i + 3)) (u := gxs G (i + 4)) ho
  refine Zp.aload_n k_229_1186 rfl ?_
  refine Zp.arg 1 k_229_1187 k_229_1188 k_229_1189 k_229_1190 k_229_1191 rfl (by decide) (by omega) hs ?_
  refine Zp.arg 2 k_229_1192 k_229_1193 k_229_1194 k_229_1195 k_229_1196 rfl (by decide) (by omega) hs ?_
  refine Zp.arg 3 k_229_1197 k_229_1198 k_229_1199 k_229_1200 k_229_1201 rfl (by decide) (by omega) hs ?_
  refine Zp.arg 4 k_229_1202 k_229_1203 k_229_1204 k_229_1205 k_229_1206 rfl (by decide) (by omega) hs ?_
  refine Zp.callv4L v_114 k_229_1207 m_0 (Nat.le_of_ble_eq_true rfl) (Nat.le_of_ble_eq_true rfl) ?_
  refine Zm.mono (fun r I1 L1 q => ?_) (hc I L (fun r I1 L1 => r = some (.long v) ∧ PicC A2 I1 ∧ FrC I I1) pc (fun I1 p1 f1 => ⟨rfl, p1, f1⟩))
  obtain ⟨rfl, pc2, fc⟩ := q
  refine ⟨v, rfl, ?_⟩
  have pm1 := pm.fc fc
  refine Zp.aload_n k_229_1210 rfl ?_
  refine Zp.arg 1 k_229_1211 k_229_1212 k_229_1213 k_229_1214 k_229_1215 rfl (by decide) (by omega) hs ?_
  refine Zp.arg 2 k_229_1216 k_229_1217 k_229_1218 k_229_1219 k_229_1220 rfl (by decide) (by omega) hs ?_
  refine Zp.arg 3 k_229_1221 k_229_1222 k_229_1223 k_229_1224 k_229_1225 rfl (by decide) (by omega) hs ?_
  refine Zp.arg 4 k_229_1226 k_229_1227 k_229_1228 k_229_1229 k_229_1230 rfl (by decide) (by omega) hs ?_
  refine Zp.callv4L v_218 k_229_1231 m_93 (Nat.le_of_ble_eq_true rfl) (Nat.le_of_ble_eq_true rfl) ?_
  refine Zm.mono (fun r I2 L2 q => ?_) (hm I1 L1 (fun r I2 L2 => r = some (.long v) ∧ PicM A2 I2 ∧ FrM I1 I2) pm1 (fun I2 L2 p2 f2 => ⟨rfl, p2, f2⟩))
  obtain ⟨rfl, pm2, fm⟩ := q
  refine ⟨v, rfl, ?_⟩
  refine Zp.lcmp k_229_1234 ?_
  refine Zp.if_eq k_229_1235 (fun _ => hq A2 I2 L2 ho2 (pc2.fm fm) pm2) (fun z => absurd (lg_cmp_rf v) z)
theorem lc_34 (ho : Ao A) (pc : PicC A I) (pm : PicM A I) (hi : i + 5 ≤ gsL G) (hs : gsL G ≤ 320) (hq : ∀ (A': zQs) (I' : zI) (L' : zJ), Ao A' → PicC A' I' → PicM A' I' → Zp G 229 1504 [some (.ref 1000000), some (.ref 0), some (.ref 93), some (.int (nI i))] [] I' L' Q) : Zp G 229 1240 [some (.ref 1000000), some (.ref 0), some (.ref 93), some (.int (nI i))] [] I L Q := by
  obtain ⟨v, A2, ho2, hc, hm⟩ := B_drift (G := G) (x := gxs G (i + 1)) (y := gxs G (i + 2)) (z := gxs G (i + 3)) ho
  refine Zp.aload_n k_229_1240 rfl ?_
  refine Zp.arg 1 k_229_1241 k_229_1242 k_229_1243 k_229_1244 k_229_1245 rfl (by decide) (by omega) hs ?_
  refine Zp.arg 2 k_229_1246 k_229_1247 k_229_1248 k_229_1249 k_229_1250 rfl (by decide) (by omega) hs ?_
  refine Zp.arg 3 k_229_1251 k_229_1252 k_229_1253 k_229_1254 k_229_1255 rfl (by decide) (by omega) hs ?_
  refine Zp.callv3I v_119 k_229_1256 m_0 (Nat.le_of_ble_eq_true rfl) (Nat.le_of_ble_eq_true rfl) ?_
  refine Zm.mono (fun r I1 L1 q => ?_) (Zm.int vr_119 (hc I L (fun r I1 L1 => r = some v ∧ PicC A2 I1 ∧ FrC I I1) pc (fun I1 p1 f1 => ⟨rfl, p1, f1⟩)))
  obtain ⟨⟨x, rfl⟩, e, pc2, fc⟩ := q
  have e2 := Option.some.inj e
  subst e2
  refine ⟨x, rfl, ?_⟩
  have pm1 := pm.fc fc
  refine Zp.aload_n k_229_1259 rfl ?_
  refine Zp.arg 1 k_229_1260 k_229_1261 k_229_1262 k_229_1263 k_229_1264 rfl (by decide) (by omega) hs ?_
  refine Zp.arg 2 k_229_1265 k_229_1266 k_229_1267 k_229_1268 k_229_1269 rfl (by decide) (by omega) hs ?_
  refine Zp.arg 3 k_229_1270 k_229_1271 k_229_1272 k_229_1273 k_229_1274 rfl (by decide) (by omega) hs ?_
  refine Zp.callv3I v_219 k_229_1275 m_93 (Nat.le_of_ble_eq_true rfl) (Nat.le_of_ble_eq_true rfl) ?_
  refine Zm.mono (fun r I2 L2 q => ?_) (hm I1 L1 (fun r I2 L2 => r = some (.int x) ∧ PicM A2 I2 ∧ FrM I1 I2) pm1 (fun I2 L2 p2 f2 => ⟨rfl, p2, f2⟩))
  obtain ⟨rfl, pm2, fm⟩ := q
  refine ⟨x, rfl, ?_⟩
  refine Zp.icmp_eq k_229_1278 (fun _ => hq A2 I2 L2 ho2 (pc2.fm fm) pm2) (fun z => absurd rfl z)
theorem lc_35 (ho : Ao A) (pc : PicC A I) (pm : PicM A I) (hi : i + 5 ≤ gsL G) (hs : gsL G ≤ 320) (hq : ∀ (A': zQs) (I' : zI) (L' : zJ), Ao A' → PicC A' I' → PicM A' I' → Zp G 229 1504 [some (.ref 1000000), some (.ref 0), some (.ref 93), some (.int (nI i))] [] I' L' Q) : Zp G 229 1283 [some (.ref 1000000), some (.ref 0), some (.ref 93), some (.int (nI i))] [] I L Q := by
  obtain ⟨v, A2, ho2, hc, hm⟩ := B_keep (G := G) (x := gxs G (i + 1)) ho
  refine Zp.aload_n k_229_1283 rfl ?_
  refine Zp.arg 1 k_229_1284 k_229_1285 k_229_1286 k_229_1287 k_229_1288 rfl (by decide) (by omega) hs ?_
  refine Zp.callv1I v_122 k_229_1289 m_0 (Nat.le_of_ble_eq_true rfl) (Nat.le_of_ble_eq_true rfl) ?_
  refine Zm.mono (fun r I1 L1 q => ?_) (Zm.int vr_122 (hc I L (fun r I1 L1 => r = some v ∧ PicC A2 I1 ∧ FrC I I1) pc (fun I1 p1 f1 => ⟨rfl, p1, f1⟩)))
  obtain ⟨⟨x, rfl⟩, e, pc2, fc⟩ := q
  have e2 := Option.some.inj e
  subst e2
  refine ⟨x, rfl, ?_⟩
  have pm1 := pm.fc fc
  refine Zp.aload_n k_229_1292 rfl ?_
  refine Zp.arg 1 k_229_1293 k_229_1294 k_229_1295 k_229_1296 k_229_1297 rfl (by decide) (by omega) hs ?_
  refine Zp.callv1I v_221 k_229_1298 m_93 (Nat.le_of_ble_eq_true rfl) (Nat.le_of_ble_eq_true rfl) ?_
  refine Zm.mono (fun r I2 L2 q => ?_) (hm I1 L1 (fun r I2 L2 => r = some (.int x) ∧ PicM A2 I2 ∧ FrM I1 I2) pm1 (fun I2 L2 p2 f2 => ⟨rfl, p2, f2⟩))
  obtain ⟨rfl, pm2, fm⟩ := q
  refine ⟨x, rfl, ?_⟩
  refine Zp.icmp_eq k_229_1301 (fun _ => hq A2 I2 L2 ho2 (pc2.fm fm) pm2) (fun z => absurd rfl z)
theorem lc_36 (ho : Ao A) (pc : PicC A I) (pm : PicM A I) (hi : i + 5 ≤ gsL G) (hs : gsL G ≤ 320) (hq : ∀ (A': zQs) (I' : zI) (L' : zJ), Ao A' → PicC A' I' → PicM A' I' → Zp G 229 1504 [some (.ref 1000000), some (.ref 0), some (.ref 93), some (.int (nI i))] [] I' L' Q) : Zp G 229 1306 [some (.ref 1000000), some (.ref 0), some (.ref 93), some (.int (nI i))] [] I L Q := by
  obtain ⟨v, A2, ho2, hc, hm⟩ := B_back (G := G) (x := gxs G (i + 1)) ho
  refine Zp.aload_n k_229_1306 rfl ?_
  refine Zp.arg 1 k_229_1307 k_229_1308 k_229_1309 k_229_1310 k_229_1311 rfl (by decide) (by omega) hs ?_
  refine Zp.callv1I v_123 k_229_1312 m_0 (Nat.le_of_ble_eq_true rfl) (Nat.le_of_ble_eq_true rfl) ?_
  refine Zm.mono (fun r I1 L1 q => ?_) (Zm.int vr_123 (hc I L (fun r I1 L1 => r = some v ∧ PicC A2 I1 ∧ FrC I I1) pc (fun I1 p1 f1 => ⟨rfl, p1, f1⟩)))
  obtain ⟨⟨x, rfl⟩, e, pc2, fc⟩ := q
  have e2 := Option.some.inj e
  subst e2
  refine ⟨x, rfl, ?_⟩
  have pm1 := pm.fc fc
  refine Zp.aload_n k_229_1315 rfl ?_
  refine Zp.arg 1 k_229_1316 k_229_1317 k_229_1318 k_229_1319 k_229_1320 rfl (by decide) (by omega) hs ?_
  refine Zp.callv1I v_222 k_229_1321 m_93 (Nat.le_of_ble_eq_true rfl) (Nat.le_of_ble_eq_true rfl) ?_
  refine Zm.mono (fun r I2 L2 q => ?_) (hm I1 L1 (fun r I2 L2 => r = some (.int x) ∧ PicM A2 I2 ∧ FrM I1 I2) pm1 (fun I2 L2 p2 f2 => ⟨rfl, p2, f2⟩))
  obtain ⟨rfl, pm2, fm⟩ := q
  refine ⟨x, rfl, ?_⟩
  refine Zp.icmp_eq k_229_1324 (fun _ => hq A2 I2 L2 ho2 (pc2.fm fm) pm2) (fun z => absurd rfl z)
theorem lc_37 (ho : Ao A) (pc : PicC A I) (pm : PicM A I) (hi : i + 5 ≤ gsL G) (hs : gsL G ≤ 320) (hq : ∀ (A': zQs) (I' : zI) (L' : zJ), Ao A' → PicC A' I' → PicM A' I' → Zp G 229 1504 [some (.ref 1000000), some (.ref 0), some (.ref 93), some (.int (nI i))] [] I' L' Q) : Zp G 229 1329 [some (.ref 1000000), some (.ref 0), some (.ref 93), some (.int (nI i))] [] I L Q := by
  obtain ⟨v, A2, ho2, hc, hm⟩ := B_sheet (G := G) (x := gxs G (i + 1)) (y := gxs G (i + 2)) (z := gxs G (i + 3)) ho
  refine Zp.aload_n k_229_1329 rfl ?_
  refine Zp.arg 1 k_229_1330 k_229_1331 k_229_1332 k_229_1333 k_229_1334 rfl (by decide) (by omega) hs ?_
  refine Zp.arg 2 k_229_1335 k_229_1336 k_229_1337 k_229_1338 k_229_1339 rfl (by decide) (by omega) hs ?_
  refine Zp.arg 3 k_229_1340 k_229_1341 k_229_1342 k_229_1343 k_229_1344 rfl (by decide) (by omega) hs ?_
  refine Zp.callv3I v_124 k_229_1345 m_0 (Nat.le_of_ble_eq_true rfl) (Nat.le_of_ble_eq_true rfl) ?_
  refine Zm.mono (fun r I1 L1 q => ?_) (Zm.int vr_124 (hc I L (fun r I1 L1 => r = some v ∧ PicC A2 I1 ∧ FrC I I1) pc (fun I1 p1 f1 => ⟨rfl, p1, f1⟩)))
  obtain ⟨⟨x, rfl⟩, e, pc2, fc⟩ := q
  have e2 := Option.some.inj e
  subst e2
  refine ⟨x, rfl, ?_⟩
  have pm1 := pm.fc fc
  refine Zp.aload_n k_229_1348 rfl ?_
  refine Zp.arg 1 k_229_1349 k_229_1350 k_229_1351 k_229_1352 k_229_1353 rfl (by decide) (by omega) hs ?_
  refine Zp.arg 2 k_229_1354 k_229_1355 k_229_1356 k_229_1357 k_229_1358 rfl (by decide) (by omega) hs ?_
  refine Zp.arg 3 k_229_1359 k_229_1360 k_229_1361 k_229_1362 k_229_1363 rfl (by decide) (by omega) hs ?_
  refine Zp.callv3I v_224 k_229_1364 m_93 (Nat.le_of_ble_eq_true rfl) (Nat.le_of_ble_eq_true rfl) ?_
  refine Zm.mono (fun r I2 L2 q => ?_) (hm I1 L1 (fun r I2 L2 => r = some (.int x) ∧ PicM A2 I2 ∧ FrM I1 I2) pm1 (fun I2 L2 p2 f2 => ⟨rfl, p2, f2⟩))
  obtain ⟨rfl, pm2, fm⟩ := q
  refine ⟨x, rfl, ?_⟩
  refine Zp.icmp_eq k_229_1367 (fun _ => hq A2 I2 L2 ho2 (pc2.fm fm) pm2) (fun z => absurd rfl z)
theorem lc_38 (ho : Ao A) (pc : PicC A I) (pm : PicM A I) (hi : i + 5 ≤ gsL G) (hs : gsL G ≤ 320) (hq : ∀ (A': zQs) (I' : zI) (L' : zJ), Ao A' → PicC A' I' → PicM A' I' → Zp G 229 1504 [some (.ref 1000000), some (.ref 0), some (.ref 93), some (.int (nI i))] [] I' L' Q) : Zp G 229 1372 [some (.ref 1000000), some (.ref 0), some (.ref 93), some (.int (nI i))] [] I L Q := by
  obtain ⟨v, A2, ho2, hc, hm⟩ := B_lay (G := G) (x := gxs G (i + 1)) (y := gxs G (i + 2)) (z := gxs G (i + 3)) ho
  refine Zp.aload_n k_229_1372 rfl ?_
  refine Zp.arg 1 k_229_1373 k_229_1374 k_229_1375 k_229_1376 k_229_1377 rfl (by decide) (by omega) hs ?_
  refine Zp.arg 2 k_229_1378 k_229_1379 k_229_1380 k_229_1381 k_229_1382 rfl (by decide) (by omega) hs ?_
  refine Zp.arg 3 k_229_1383 k_229_1384 k_229_1385 k_229_1386 k_229_1387 rfl (by decide) (by omega) hs ?_
  refine Zp.callv3I v_125 k_229_1388 m_0 (Nat.le_of_ble_eq_true rfl) (Nat.le_of_ble_eq_true rfl) ?_
  refine Zm.mono (fun r I1 L1 q => ?_) (Zm.int vr_125 (hc I L (fun r I1 L1 => r = some v ∧ PicC A2 I1 ∧ FrC I I1) pc (fun I1 p1 f1 => ⟨rfl, p1, f1⟩)))
  obtain ⟨⟨x, rfl⟩, e, pc2, fc⟩ := q
  have e2 := Option.some.inj e
  subst e2
  refine ⟨x, rfl, ?_⟩
  have pm1 := pm.fc fc
  refine Zp.aload_n k_229_1391 rfl ?_
  refine Zp.arg 1 k_229_1392 k_229_1393 k_229_1394 k_229_1395 k_229_1396 rfl (by decide) (by omega) hs ?_
  refine Zp.arg 2 k_229_1397 k_229_1398 k_229_1399 k_229_1400 k_229_1401 rfl (by decide) (by omega) hs ?_
  refine Zp.arg 3 k_229_1402 k_229_1403 k_229_1404 k_229_1405 k_229_1406 rfl (by decide) (by omega) hs ?_
  refine Zp.callv3I v_225 k_229_1407 m_93 (Nat.le_of_ble_eq_true rfl) (Nat.le_of_ble_eq_true rfl) ?_
  refine Zm.mono (fun r I2 L2 q => ?_) (hm I1 L1 (fun r I2 L2 => r = some (.int x) ∧ PicM A2 I2 ∧ FrM I1 I2) pm1 (fun I2 L2 p2 f2 => ⟨rfl, p2, f2⟩))
  obtain ⟨rfl, pm2, fm⟩ := q
  refine ⟨x, rfl, ?_⟩
  refine Zp.icmp_eq k_229_1410 (fun _ => hq A2 I2 L2 ho2 (pc2.fm fm) pm2) (fun z => absurd rfl z)
theorem lc_39 (ho : Ao A) (pc : PicC A I) (pm : PicM A I) (hi : i + 5 ≤ gsL G) (hs : gsL G ≤ 320) (hq : ∀ (A': zQs) (I' : zI) (L' : zJ), Ao A' → PicC A' I' → PicM A' I' → Zp G 229 1504 [some (.ref 1000000), some (.ref 0), some (.ref 93), some (.int (nI i))] [] I' L' Q) : Zp G 229 1415 [some (.ref 1000000), some (.ref 0), some (.ref 93), some (.int (nI i))] [] I L Q := by
  obtain ⟨v, A2, ho2, hc, hm⟩ := B_read (G := G) (x := gxs G (i + 1)) (y := gxs G (i + 2)) (z := gxs G (i + 3)) (u := gxs G (i + 4)) ho
  refine Zp.aload_n k_229_1415 rfl ?_
  refine Zp.arg 1 k_229_1416 k_229_1417 k_229_1418 k_229_1419 k_229_1420 rfl (by decide) (by omega) hs ?_
  refine Zp.arg 2 k_229_1421 k_229_1422 k_229_1423 k_229_1424 k_229_1425 rfl (by decide) (by omega) hs ?_
  refine Zp.arg 3 k_229_1426 k_229_1427 k_229_1428 k_229_1429 k_229_1430 rfl (by decide) (by omega) hs ?_
  refine Zp.arg 4 k_229_1431 k_229_1432 k_229_1433 k_229_1434 k_229_1435 rfl (by decide) (by omega) hs ?_
  refine Zp.callv4I v_126 k_229_1436 m_0 (Nat.le_of_ble_eq_true rfl) (Nat.le_of_ble_eq_true rfl) ?_
  refine Zm.mono (fun r I1 L1 q => ?_) (Zm.int vr_126 (hc I L (fun r I1 L1 => r = some v ∧ PicC A2 I1 ∧ FrC I I1) pc (fun I1 p1 f1 => ⟨rfl, p1, f1⟩)))
  obtain ⟨⟨x, rfl⟩, e, pc2, fc⟩ := q
  have e2 := Option.some.inj e
  subst e2
  refine ⟨x, rfl, ?_⟩
  have pm1 := pm.fc fc
  refine Zp.aload_n k_229_1439 rfl ?_
  refine Zp.arg 1 k_229_1440 k_229_1441 k_229_1442 k_229_1443 k_229_1444 rfl (by decide) (by omega) hs ?_
  refine Zp.arg 2 k_229_1445 k_229_1446 k_229_1447 k_229_1448 k_229_1449 rfl (by decide) (by omega) hs ?_
  refine Zp.arg 3 k_229_1450 k_229_1451 k_229_1452 k_229_1453 k_229_1454 rfl (by decide) (by omega) hs ?_
  refine Zp.arg 4 k_229_1455 k_229_1456 k_229_1457 k_229_1458 k_229_1459 rfl (by decide) (by omega) hs ?_
  refine Zp.callv4I v_226 k_229_1460 m_93 (Nat.le_of_ble_eq_true rfl) (Nat.le_of_ble_eq_true rfl) ?_
  refine Zm.mono (fun r I2 L2 q => ?_) (hm I1 L1 (fun r I2 L2 => r = some (.int x) ∧ PicM A2 I2 ∧ FrM I1 I2) pm1 (fun I2 L2 p2 f2 => ⟨rfl, p2, f2⟩))
  obtain ⟨rfl, pm2, fm⟩ := q
  refine ⟨x, rfl, ?_⟩
  refine Zp.icmp_eq k_229_1463 (fun _ => hq A2 I2 L2 ho2 (pc2.fm fm) pm2) (fun z => absurd rfl z)
theorem lc_40 (ho : Ao A) (pc : PicC A I) (pm : PicM A I) (hi : i + 5 ≤ gsL G) (hs : gsL G ≤ 320) (hq : ∀ (A': zQs) (I' : zI) (L' : zJ), Ao A' → PicC A' I' → PicM A' I' → Zp G 229 1504 [some (.ref 1000000), some (.ref 0), some (.ref 93), some (.int (nI i))] [] I' L' Q) : Zp G 229 1468 [some (.ref 1000000), some (.ref 0), some (.ref 93), some (.int (nI i))] [] I L Q := by
  obtain ⟨v, A2, ho2, hc, hm⟩ := B_torn (G := G)  ho
  refine Zp.aload_n k_229_1468 rfl ?_
  refine Zp.callv0I v_127 k_229_1469 m_0 (Nat.le_of_ble_eq_true rfl) (Nat.le_of_ble_eq_true rfl) ?_
  refine Zm.mono (fun r I1 L1 q => ?_) (Zm.int vr_127 (hc I L (fun r I1 L1 => r = some v ∧ PicC A2 I1 ∧ FrC I I1) pc (fun I1 p1 f1 => ⟨rfl, p1, f1⟩)))
  obtain ⟨⟨x, rfl⟩, e, pc2, fc⟩ := q
  have e2 := Option.some.inj e
  subst e2
  refine ⟨x, rfl, ?_⟩
  have pm1 := pm.fc fc
  refine Zp.aload_n k_229_1472 rfl ?_
  refine Zp.callv0I v_227 k_229_1473 m_93 (Nat.le_of_ble_eq_true rfl) (Nat.le_of_ble_eq_true rfl) ?_
  refine Zm.mono (fun r I2 L2 q => ?_) (hm I1 L1 (fun r I2 L2 => r = some (.int x) ∧ PicM A2 I2 ∧ FrM I1 I2) pm1 (fun I2 L2 p2 f2 => ⟨rfl, p2, f2⟩))
  obtain ⟨rfl, pm2, fm⟩ := q
  refine ⟨x, rfl, ?_⟩
  refine Zp.icmp_eq k_229_1476 (fun _ => hq A2 I2 L2 ho2 (pc2.fm fm) pm2) (fun z => absurd rfl z)
theorem lc_41 (ho : Ao A) (pc : PicC A I) (pm : PicM A I) (hi : i + 5 ≤ gsL G) (hs : gsL G ≤ 320) (hq : ∀ (A': zQs) (I' : zI) (L' : zJ), Ao A' → PicC A' I' → PicM A' I' → Zp G 229 1504 [some (.ref 1000000), some (.ref 0), some (.ref 93), some (.int (nI i))] [] I' L' Q) : Zp G 229 1481 [some (.ref 1000000), some (.ref 0), some (.ref 93), some (.int (nI i))] [] I L Q := by
  obtain ⟨v, A2, ho2, hc, hm⟩ := B_count (G := G) (x := gxs G (i + 1)) ho
  refine Zp.aload_n k_229_1481 rfl ?_
  refine Zp.arg 1 k_229_1482 k_229_1483 k_229_1484 k_229_1485 k_229_1486 rfl (by decide) (by omega) hs ?_
  refine Zp.callv1I v_128 k_229_1487 m_0 (Nat.le_of_ble_eq_true rfl) (Nat.le_of_ble_eq_true rfl) ?_
  refine Zm.mono (fun r I1 L1 q => ?_) (Zm.int vr_128 (hc I L (fun r I1 L1 => r = some v ∧ PicC A2 I1 ∧ FrC I I1) pc (fun I1 p1 f1 => ⟨rfl, p1, f1⟩)))
  obtain ⟨⟨x, rfl⟩, e, pc2, fc⟩ := q
  have e2 := Option.some.inj e
  subst e2
  refine ⟨x, rfl, ?_⟩
  have pm1 := pm.fc fc
  refine Zp.aload_n k_229_1490 rfl ?_
  refine Zp.arg 1 k_229_1491 k_229_1492 k_229_1493 k_229_1494 k_229_1495 rfl (by decide) (by omega) hs ?_
  refine Zp.callv1I v_228 k_229_1496 m_93 (Nat.le_of_ble_eq_true rfl) (Nat.le_of_ble_eq_true rfl) ?_
  refine Zm.mono (fun r I2 L2 q => ?_) (hm I1 L1 (fun r I2 L2 => r = some (.int x) ∧ PicM A2 I2 ∧ FrM I1 I2) pm1 (fun I2 L2 p2 f2 => ⟨rfl, p2, f2⟩))
  obtain ⟨rfl, pm2, fm⟩ := q
  refine ⟨x, rfl, ?_⟩
  refine Zp.icmp_eq k_229_1499 (fun _ => hq A2 I2 L2 ho2 (pc2.fm fm) pm2) (fun z => absurd rfl z)
end CASES

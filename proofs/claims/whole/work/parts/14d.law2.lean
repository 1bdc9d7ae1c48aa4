/-! ===== the law: one call on each side ===== -/
theorem l_spread {V : GV} {d lo C E i : Nat} {S : ST} {X : XT} {FI AI : FT} {AL : LT} {P : PT} (hcg : CGL) (hL : LI C E S X FI AI AL lo) (hi : i + 6 ≤ v_sn V) (hn : v_sn V ≤ 3072) (k : LK V d lo C E i P) : G V m_Law_law (d + 11) 783 [some (.ref (v_sb V)), some (.ref lo), some (.ref (lo + 110)), some (.int (nI i))] [] X FI AI AL P := by
  obtain ⟨h, hm, hI, hM, hW, hN⟩ := hL
  have hs := h.sh
  have hc := c_spread (V := V) (d := d + 7) (s := v_sx V (i + 1)) (x := v_sx V (i + 2)) (a := v_sx V (i + 3)) h hI hW
  refine G_aload1 784 d_Law_law_783 rfl ?_
  refine G_aload0 785 d_Law_law_784 rfl ?_
  refine G_iload3 786 d_Law_law_785 rfl ?_
  refine G_iconstN 1 787 d_Law_law_786 rfl rfl ?_
  first | refine G_iaddN 788 d_Law_law_787 rfl ?_ | refine G_iadd 788 d_Law_law_787 rfl ?_
  refine G_scald 789 d_Law_law_788 rfl (ix_nI (by omega) (by omega)) ?_
  refine G_aload0 790 d_Law_law_789 rfl ?_
  refine G_iload3 791 d_Law_law_790 rfl ?_
  refine G_iconstN 2 792 d_Law_law_791 rfl rfl ?_
  first | refine G_iaddN 793 d_Law_law_792 rfl ?_ | refine G_iadd 793 d_Law_law_792 rfl ?_
  refine G_scald 794 d_Law_law_793 rfl (ix_nI (by omega) (by omega)) ?_
  refine G_aload0 795 d_Law_law_794 rfl ?_
  refine G_iload3 796 d_Law_law_795 rfl ?_
  refine G_iconstN 3 797 d_Law_law_796 rfl rfl ?_
  first | refine G_iaddN 798 d_Law_law_797 rfl ?_ | refine G_iadd 798 d_Law_law_797 rfl ?_
  refine G_scald 799 d_Law_law_798 rfl (ix_nI (by omega) (by omega)) ?_
  refine G_invV3 802 d_Law_law_799 rfl e_Law_77 M_Alg_spread rfl hs (Nat.le_of_ble_eq_true rfl) (Nat.le_of_ble_eq_true rfl) rfl (G.conseq (hc) (fun r799 X799 FI799 AI799 AL799 h799 => ?_))
  obtain ⟨c1, c2, c3, c4⟩ := h799
  subst c1
  obtain ⟨m1, m2⟩ := LI.m1 hm hM c4
  have ms := m1.1
  have hd := m_spread (V := V) (d := d + 9) (s := v_sx V (i + 1)) (x := v_sx V (i + 2)) (a := v_sx V (i + 3)) m1 m2 hW
  refine G_aload2 803 d_Law_law_802 rfl ?_
  refine G_aload0 804 d_Law_law_803 rfl ?_
  refine G_iload3 805 d_Law_law_804 rfl ?_
  refine G_iconstN 1 806 d_Law_law_805 rfl rfl ?_
  first | refine G_iaddN 807 d_Law_law_806 rfl ?_ | refine G_iadd 807 d_Law_law_806 rfl ?_
  refine G_scald 808 d_Law_law_807 rfl (ix_nI (by omega) (by omega)) ?_
  refine G_aload0 809 d_Law_law_808 rfl ?_
  refine G_iload3 810 d_Law_law_809 rfl ?_
  refine G_iconstN 2 811 d_Law_law_810 rfl rfl ?_
  first | refine G_iaddN 812 d_Law_law_811 rfl ?_ | refine G_iadd 812 d_Law_law_811 rfl ?_
  refine G_scald 813 d_Law_law_812 rfl (ix_nI (by omega) (by omega)) ?_
  refine G_aload0 814 d_Law_law_813 rfl ?_
  refine G_iload3 815 d_Law_law_814 rfl ?_
  refine G_iconstN 3 816 d_Law_law_815 rfl rfl ?_
  first | refine G_iaddN 817 d_Law_law_816 rfl ?_ | refine G_iadd 817 d_Law_law_816 rfl ?_
  refine G_scald 818 d_Law_law_817 rfl (ix_nI (by omega) (by omega)) ?_
  refine G_invV3 821 d_Law_law_818 rfl e_Law_80 M_Mod_spread rfl ms (Nat.le_of_ble_eq_true rfl) (Nat.le_of_ble_eq_true rfl) rfl (G.conseq (hd) (fun r818 X818 FI818 AI818 AL818 h818 => ?_))
  obtain ⟨d1, d2, d3, d4⟩ := h818
  replace d2 := d2.symm
  subst d1 d2
  first | refine G_iceqN 2104 824 d_Law_law_821 rfl rfl (by omega) (by omega) (fun h821 => ?_) (fun h821 => ?_) | refine G_iceq 2104 824 d_Law_law_821 rfl rfl (fun h821 => ?_) (fun h821 => ?_)
  · exact k _ _ _ _ _ ⟨c2, m1, c3.fm (ws_spread hW) d4, d3, ws_spread hW, ns_spread hN⟩
  · exact absurd rfl h821
theorem l_family {V : GV} {d lo C E i : Nat} {S : ST} {X : XT} {FI AI : FT} {AL : LT} {P : PT} (hcg : CGL) (hL : LI C E S X FI AI AL lo) (hi : i + 6 ≤ v_sn V) (hn : v_sn V ≤ 3072) (k : LK V d lo C E i P) : G V m_Law_law (d + 11) 826 [some (.ref (v_sb V)), some (.ref lo), some (.ref (lo + 110)), some (.int (nI i))] [] X FI AI AL P := by
  obtain ⟨h, hm, hI, hM, hW, hN⟩ := hL
  have hs := h.sh
  have hc := c_family (V := V) (d := d + 7) (x := v_sx V (i + 1)) h hI hW
  refine G_aload1 827 d_Law_law_826 rfl ?_
  refine G_aload0 828 d_Law_law_827 rfl ?_
  refine G_iload3 829 d_Law_law_828 rfl ?_
  refine G_iconstN 1 830 d_Law_law_829 rfl rfl ?_
  first | refine G_iaddN 831 d_Law_law_830 rfl ?_ | refine G_iadd 831 d_Law_law_830 rfl ?_
  refine G_scald 832 d_Law_law_831 rfl (ix_nI (by omega) (by omega)) ?_
  refine G_invV1 835 d_Law_law_832 rfl e_Law_81 M_Alg_family rfl hs (Nat.le_of_ble_eq_true rfl) (Nat.le_of_ble_eq_true rfl) rfl (G.conseq (hc) (fun r832 X832 FI832 AI832 AL832 h832 => ?_))
  obtain ⟨c1, c2, c3, c4⟩ := h832
  subst c1
  obtain ⟨m1, m2⟩ := LI.m1 hm hM c4
  have ms := m1.1
  have hd := m_family (V := V) (d := d + 6) (x := v_sx V (i + 1)) m1 m2 hW
  refine G_aload2 836 d_Law_law_835 rfl ?_
  refine G_aload0 837 d_Law_law_836 rfl ?_
  refine G_iload3 838 d_Law_law_837 rfl ?_
  refine G_iconstN 1 839 d_Law_law_838 rfl rfl ?_
  first | refine G_iaddN 840 d_Law_law_839 rfl ?_ | refine G_iadd 840 d_Law_law_839 rfl ?_
  refine G_scald 841 d_Law_law_840 rfl (ix_nI (by omega) (by omega)) ?_
  refine G_invV1 844 d_Law_law_841 rfl e_Law_84 M_Mod_family rfl ms (Nat.le_of_ble_eq_true rfl) (Nat.le_of_ble_eq_true rfl) rfl (G.conseq (hd) (fun r841 X841 FI841 AI841 AL841 h841 => ?_))
  obtain ⟨d1, d2, d3, d4⟩ := h841
  replace d2 := d2.symm
  subst d1 d2
  first | refine G_iceqN 2104 847 d_Law_law_844 rfl rfl (by omega) (by omega) (fun h844 => ?_) (fun h844 => ?_) | refine G_iceq 2104 847 d_Law_law_844 rfl rfl (fun h844 => ?_) (fun h844 => ?_)
  · exact k _ _ _ _ _ ⟨c2, m1, c3.fm (ws_family hW) d4, d3, ws_family hW, ns_family hN⟩
  · exact absurd rfl h844
theorem l_generator {V : GV} {d lo C E i : Nat} {S : ST} {X : XT} {FI AI : FT} {AL : LT} {P : PT} (hcg : CGL) (hL : LI C E S X FI AI AL lo) (hi : i + 6 ≤ v_sn V) (hn : v_sn V ≤ 3072) (k : LK V d lo C E i P) : G V m_Law_law (d + 11) 849 [some (.ref (v_sb V)), some (.ref lo), some (.ref (lo + 110)), some (.int (nI i))] [] X FI AI AL P := by
  obtain ⟨h, hm, hI, hM, hW, hN⟩ := hL
  have hs := h.sh
  have hc := c_generator (V := V) (d := d + 5) (s := v_sx V (i + 1)) h hI hW
  refine G_aload1 850 d_Law_law_849 rfl ?_
  refine G_aload0 851 d_Law_law_850 rfl ?_
  refine G_iload3 852 d_Law_law_851 rfl ?_
  refine G_iconstN 1 853 d_Law_law_852 rfl rfl ?_
  first | refine G_iaddN 854 d_Law_law_853 rfl ?_ | refine G_iadd 854 d_Law_law_853 rfl ?_
  refine G_scald 855 d_Law_law_854 rfl (ix_nI (by omega) (by omega)) ?_
  refine G_invV1 858 d_Law_law_855 rfl e_Law_85 M_Alg_generator rfl hs (Nat.le_of_ble_eq_true rfl) (Nat.le_of_ble_eq_true rfl) rfl (G.conseq (hc) (fun r855 X855 FI855 AI855 AL855 h855 => ?_))
  obtain ⟨c1, c2, c3, c4⟩ := h855
  subst c1
  obtain ⟨m1, m2⟩ := LI.m1 hm hM c4
  have ms := m1.1
  have hd := m_generator (V := V) (d := d + 9) (s := v_sx V (i + 1)) m1 m2 hW
  refine G_aload2 859 d_Law_law_858 rfl ?_
  refine G_aload0 860 d_Law_law_859 rfl ?_
  refine G_iload3 861 d_Law_law_860 rfl ?_
  refine G_iconstN 1 862 d_Law_law_861 rfl rfl ?_
  first | refine G_iaddN 863 d_Law_law_862 rfl ?_ | refine G_iadd 863 d_Law_law_862 rfl ?_
  refine G_scald 864 d_Law_law_863 rfl (ix_nI (by omega) (by omega)) ?_
  refine G_invV1 867 d_Law_law_864 rfl e_Law_88 M_Mod_generator rfl ms (Nat.le_of_ble_eq_true rfl) (Nat.le_of_ble_eq_true rfl) rfl (G.conseq (hd) (fun r864 X864 FI864 AI864 AL864 h864 => ?_))
  obtain ⟨d1, d2, d3, d4⟩ := h864
  replace d2 := d2.symm
  subst d1 d2
  first | refine G_iceqN 2104 870 d_Law_law_867 rfl rfl (by omega) (by omega) (fun h867 => ?_) (fun h867 => ?_) | refine G_iceq 2104 870 d_Law_law_867 rfl rfl (fun h867 => ?_) (fun h867 => ?_)
  · exact k _ _ _ _ _ ⟨c2, m1, c3.fm (ws_generator hW) d4, d3, ws_generator hW, ns_generator hN⟩
  · exact absurd rfl h867
theorem l_give {V : GV} {d lo C E i : Nat} {S : ST} {X : XT} {FI AI : FT} {AL : LT} {P : PT} (hcg : CGL) (hL : LI C E S X FI AI AL lo) (hi : i + 6 ≤ v_sn V) (hn : v_sn V ≤ 3072) (k : LK V d lo C E i P) : G V m_Law_law (d + 11) 872 [some (.ref (v_sb V)), some (.ref lo), some (.ref (lo + 110)), some (.int (nI i))] [] X FI AI AL P := by
  obtain ⟨h, hm, hI, hM, hW, hN⟩ := hL
  have hs := h.sh
  have hc := c_give (V := V) (d := d + 8) (g := v_sx V (i + 1)) (s := v_sx V (i + 2)) h hI hW
  refine G_aload1 873 d_Law_law_872 rfl ?_
  refine G_aload0 874 d_Law_law_873 rfl ?_
  refine G_iload3 875 d_Law_law_874 rfl ?_
  refine G_iconstN 1 876 d_Law_law_875 rfl rfl ?_
  first | refine G_iaddN 877 d_Law_law_876 rfl ?_ | refine G_iadd 877 d_Law_law_876 rfl ?_
  refine G_scald 878 d_Law_law_877 rfl (ix_nI (by omega) (by omega)) ?_
  refine G_aload0 879 d_Law_law_878 rfl ?_
  refine G_iload3 880 d_Law_law_879 rfl ?_
  refine G_iconstN 2 881 d_Law_law_880 rfl rfl ?_
  first | refine G_iaddN 882 d_Law_law_881 rfl ?_ | refine G_iadd 882 d_Law_law_881 rfl ?_
  refine G_scald 883 d_Law_law_882 rfl (ix_nI (by omega) (by omega)) ?_
  refine G_invV2 886 d_Law_law_883 rfl e_Law_89 M_Alg_give rfl hs (Nat.le_of_ble_eq_true rfl) (Nat.le_of_ble_eq_true rfl) rfl (G.conseq (hc) (fun r883 X883 FI883 AI883 AL883 h883 => ?_))
  obtain ⟨c1, c2, c3, c4⟩ := h883
  subst c1
  obtain ⟨m1, m2⟩ := LI.m1 hm hM c4
  have ms := m1.1
  have hd := m_give (V := V) (d := d + 9) (g := v_sx V (i + 1)) (s := v_sx V (i + 2)) m1 m2 hW
  refine G_aload2 887 d_Law_law_886 rfl ?_
  refine G_aload0 888 d_Law_law_887 rfl ?_
  refine G_iload3 889 d_Law_law_888 rfl ?_
  refine G_iconstN 1 890 d_Law_law_889 rfl rfl ?_
  first | refine G_iaddN 891 d_Law_law_890 rfl ?_ | refine G_iadd 891 d_Law_law_890 rfl ?_
  refine G_scald 892 d_Law_law_891 rfl (ix_nI (by omega) (by omega)) ?_
  refine G_aload0 893 d_Law_law_892 rfl ?_
  refine G_iload3 894 d_Law_law_893 rfl ?_
  refine G_iconstN 2 895 d_Law_law_894 rfl rfl ?_
  first | refine G_iaddN 896 d_Law_law_895 rfl ?_ | refine G_iadd 896 d_Law_law_895 rfl ?_
  refine G_scald 897 d_Law_law_896 rfl (ix_nI (by omega) (by omega)) ?_
  refine G_invV2 900 d_Law_law_897 rfl e_Law_92 M_Mod_give rfl ms (Nat.le_of_ble_eq_true rfl) (Nat.le_of_ble_eq_true rfl) rfl (G.conseq (hd) (fun r897 X897 FI897 AI897 AL897 h897 => ?_))
  obtain ⟨d1, d2, d3, d4⟩ := h897
  replace d2 := d2.symm
  subst d1 d2
  first | refine G_iceqN 2104 903 d_Law_law_900 rfl rfl (by omega) (by omega) (fun h900 => ?_) (fun h900 => ?_) | refine G_iceq 2104 903 d_Law_law_900 rfl rfl (fun h900 => ?_) (fun h900 => ?_)
  · exact k _ _ _ _ _ ⟨c2, m1, c3.fm (ws_give hW) d4, d3, ws_give hW, ns_give hN⟩
  · exact absurd rfl h900
theorem l_ofGenerator {V : GV} {d lo C E i : Nat} {S : ST} {X : XT} {FI AI : FT} {AL : LT} {P : PT} (hcg : CGL) (hL : LI C E S X FI AI AL lo) (hi : i + 6 ≤ v_sn V) (hn : v_sn V ≤ 3072) (k : LK V d lo C E i P) : G V m_Law_law (d + 11) 905 [some (.ref (v_sb V)), some (.ref lo), some (.ref (lo + 110)), some (.int (nI i))] [] X FI AI AL P := by
  obtain ⟨h, hm, hI, hM, hW, hN⟩ := hL
  have hs := h.sh
  have hc := c_ofGenerator (V := V) (d := d + 8) (g := v_sx V (i + 1)) (w := v_sx V (i + 2)) h hI hW
  refine G_aload1 906 d_Law_law_905 rfl ?_
  refine G_aload0 907 d_Law_law_906 rfl ?_
  refine G_iload3 908 d_Law_law_907 rfl ?_
  refine G_iconstN 1 909 d_Law_law_908 rfl rfl ?_
  first | refine G_iaddN 910 d_Law_law_909 rfl ?_ | refine G_iadd 910 d_Law_law_909 rfl ?_
  refine G_scald 911 d_Law_law_910 rfl (ix_nI (by omega) (by omega)) ?_
  refine G_aload0 912 d_Law_law_911 rfl ?_
  refine G_iload3 913 d_Law_law_912 rfl ?_
  refine G_iconstN 2 914 d_Law_law_913 rfl rfl ?_
  first | refine G_iaddN 915 d_Law_law_914 rfl ?_ | refine G_iadd 915 d_Law_law_914 rfl ?_
  refine G_scald 916 d_Law_law_915 rfl (ix_nI (by omega) (by omega)) ?_
  refine G_invV2 919 d_Law_law_916 rfl e_Law_93 M_Alg_ofGenerator rfl hs (Nat.le_of_ble_eq_true rfl) (Nat.le_of_ble_eq_true rfl) rfl (G.conseq (hc) (fun r916 X916 FI916 AI916 AL916 h916 => ?_))
  obtain ⟨c1, c2, c3, c4⟩ := h916
  subst c1
  obtain ⟨m1, m2⟩ := LI.m1 hm hM c4
  have ms := m1.1
  have hd := m_ofGenerator (V := V) (d := d + 6) (x := v_sx V (i + 1)) (y := v_sx V (i + 2)) m1 m2 hW
  refine G_aload2 920 d_Law_law_919 rfl ?_
  refine G_aload0 921 d_Law_law_920 rfl ?_
  refine G_iload3 922 d_Law_law_921 rfl ?_
  refine G_iconstN 1 923 d_Law_law_922 rfl rfl ?_
  first | refine G_iaddN 924 d_Law_law_923 rfl ?_ | refine G_iadd 924 d_Law_law_923 rfl ?_
  refine G_scald 925 d_Law_law_924 rfl (ix_nI (by omega) (by omega)) ?_
  refine G_aload0 926 d_Law_law_925 rfl ?_
  refine G_iload3 927 d_Law_law_926 rfl ?_
  refine G_iconstN 2 928 d_Law_law_927 rfl rfl ?_
  first | refine G_iaddN 929 d_Law_law_928 rfl ?_ | refine G_iadd 929 d_Law_law_928 rfl ?_
  refine G_scald 930 d_Law_law_929 rfl (ix_nI (by omega) (by omega)) ?_
  refine G_invV2 933 d_Law_law_930 rfl e_Law_96 M_Mod_ofGenerator rfl ms (Nat.le_of_ble_eq_true rfl) (Nat.le_of_ble_eq_true rfl) rfl (G.conseq (hd) (fun r930 X930 FI930 AI930 AL930 h930 => ?_))
  obtain ⟨d1, d2, d3, d4⟩ := h930
  replace d2 := d2.symm
  subst d1 d2
  rw [id_ofGenerator] at c3
  rw [id_ofGenerator] at d3
  first | refine G_iceqN 2104 936 d_Law_law_933 rfl rfl (by omega) (by omega) (fun h933 => ?_) (fun h933 => ?_) | refine G_iceq 2104 936 d_Law_law_933 rfl rfl (fun h933 => ?_) (fun h933 => ?_)
  · exact k _ _ _ _ _ ⟨c2, m1, c3.fm hW d4, d3, hW, hN⟩
  · exact absurd rfl h933
theorem l_drop {V : GV} {d lo C E i : Nat} {S : ST} {X : XT} {FI AI : FT} {AL : LT} {P : PT} (hcg : CGL) (hL : LI C E S X FI AI AL lo) (hi : i + 6 ≤ v_sn V) (hn : v_sn V ≤ 3072) (k : LK V d lo C E i P) : G V m_Law_law (d + 11) 938 [some (.ref (v_sb V)), some (.ref lo), some (.ref (lo + 110)), some (.int (nI i))] [] X FI AI AL P := by
  obtain ⟨h, hm, hI, hM, hW, hN⟩ := hL
  have hs := h.sh
  have hc := c_drop (V := V) (d := d + 5)  h hI hW
  refine G_aload1 939 d_Law_law_938 rfl ?_
  refine G_invV0 942 d_Law_law_939 rfl e_Law_97 M_Alg_drop rfl hs (Nat.le_of_ble_eq_true rfl) (Nat.le_of_ble_eq_true rfl) rfl (G.conseq (hc) (fun r939 X939 FI939 AI939 AL939 h939 => ?_))
  obtain ⟨c1, c2, c3, c4⟩ := h939
  subst c1
  obtain ⟨m1, m2⟩ := LI.m1 hm hM c4
  have ms := m1.1
  have hd := m_drop (V := V) (d := d + 10)  m1 m2 hW
  refine G_aload2 943 d_Law_law_942 rfl ?_
  refine G_invV0 946 d_Law_law_943 rfl e_Law_101 M_Mod_drop rfl ms (Nat.le_of_ble_eq_true rfl) (Nat.le_of_ble_eq_true rfl) rfl (G.conseq (hd) (fun r943 X943 FI943 AI943 AL943 h943 => ?_))
  obtain ⟨d1, d2, d3, d4⟩ := h943
  replace d2 := d2.symm
  subst d1 d2
  first | refine G_iceqN 2104 949 d_Law_law_946 rfl rfl (by omega) (by omega) (fun h946 => ?_) (fun h946 => ?_) | refine G_iceq 2104 949 d_Law_law_946 rfl rfl (fun h946 => ?_) (fun h946 => ?_)
  · exact k _ _ _ _ _ ⟨c2, m1, c3.fm (ws_drop hW) d4, d3, ws_drop hW, ns_drop hN⟩
  · exact absurd rfl h946
theorem l_made {V : GV} {d lo C E i : Nat} {S : ST} {X : XT} {FI AI : FT} {AL : LT} {P : PT} (hcg : CGL) (hL : LI C E S X FI AI AL lo) (hi : i + 6 ≤ v_sn V) (hn : v_sn V ≤ 3072) (k : LK V d lo C E i P) : G V m_Law_law (d + 11) 951 [some (.ref (v_sb V)), some (.ref lo), some (.ref (lo + 110)), some (.int (nI i))] [] X FI AI AL P := by
  obtain ⟨h, hm, hI, hM, hW, hN⟩ := hL
  have hs := h.sh
  have hc := c_made (V := V) (d := d + 8) (g := v_sx V (i + 1)) (i := v_sx V (i + 2)) (w := v_sx V (i + 3)) h hI hW
  refine G_aload1 952 d_Law_law_951 rfl ?_
  refine G_aload0 953 d_Law_law_952 rfl ?_
  refine G_iload3 954 d_Law_law_953 rfl ?_
  refine G_iconstN 1 955 d_Law_law_954 rfl rfl ?_
  first | refine G_iaddN 956 d_Law_law_955 rfl ?_ | refine G_iadd 956 d_Law_law_955 rfl ?_
  refine G_scald 957 d_Law_law_956 rfl (ix_nI (by omega) (by omega)) ?_
  refine G_aload0 958 d_Law_law_957 rfl ?_
  refine G_iload3 959 d_Law_law_958 rfl ?_
  refine G_iconstN 2 960 d_Law_law_959 rfl rfl ?_
  first | refine G_iaddN 961 d_Law_law_960 rfl ?_ | refine G_iadd 961 d_Law_law_960 rfl ?_
  refine G_scald 962 d_Law_law_961 rfl (ix_nI (by omega) (by omega)) ?_
  refine G_aload0 963 d_Law_law_962 rfl ?_
  refine G_iload3 964 d_Law_law_963 rfl ?_
  refine G_iconstN 3 965 d_Law_law_964 rfl rfl ?_
  first | refine G_iaddN 966 d_Law_law_965 rfl ?_ | refine G_iadd 966 d_Law_law_965 rfl ?_
  refine G_scald 967 d_Law_law_966 rfl (ix_nI (by omega) (by omega)) ?_
  refine G_invV3 970 d_Law_law_967 rfl e_Law_102 M_Alg_made rfl hs (Nat.le_of_ble_eq_true rfl) (Nat.le_of_ble_eq_true rfl) rfl (G.conseq (hc) (fun r967 X967 FI967 AI967 AL967 h967 => ?_))
  obtain ⟨c1, c2, c3, c4⟩ := h967
  subst c1
  obtain ⟨m1, m2⟩ := LI.m1 hm hM c4
  have ms := m1.1
  have hd := m_made (V := V) (d := d + 9) (g := v_sx V (i + 1)) (i := v_sx V (i + 2)) (w := v_sx V (i + 3)) m1 m2 hW
  refine G_aload2 971 d_Law_law_970 rfl ?_
  refine G_aload0 972 d_Law_law_971 rfl ?_
  refine G_iload3 973 d_Law_law_972 rfl ?_
  refine G_iconstN 1 974 d_Law_law_973 rfl rfl ?_
  first | refine G_iaddN 975 d_Law_law_974 rfl ?_ | refine G_iadd 975 d_Law_law_974 rfl ?_
  refine G_scald 976 d_Law_law_975 rfl (ix_nI (by omega) (by omega)) ?_
  refine G_aload0 977 d_Law_law_976 rfl ?_
  refine G_iload3 978 d_Law_law_977 rfl ?_
  refine G_iconstN 2 979 d_Law_law_978 rfl rfl ?_
  first | refine G_iaddN 980 d_Law_law_979 rfl ?_ | refine G_iadd 980 d_Law_law_979 rfl ?_
  refine G_scald 981 d_Law_law_980 rfl (ix_nI (by omega) (by omega)) ?_
  refine G_aload0 982 d_Law_law_981 rfl ?_
  refine G_iload3 983 d_Law_law_982 rfl ?_
  refine G_iconstN 3 984 d_Law_law_983 rfl rfl ?_
  first | refine G_iaddN 985 d_Law_law_984 rfl ?_ | refine G_iadd 985 d_Law_law_984 rfl ?_
  refine G_scald 986 d_Law_law_985 rfl (ix_nI (by omega) (by omega)) ?_
  refine G_invV3 989 d_Law_law_986 rfl e_Law_106 M_Mod_made rfl ms (Nat.le_of_ble_eq_true rfl) (Nat.le_of_ble_eq_true rfl) rfl (G.conseq (hd) (fun r986 X986 FI986 AI986 AL986 h986 => ?_))
  obtain ⟨d1, d2, d3, d4⟩ := h986
  replace d2 := d2.symm
  subst d1 d2
  rw [id_made] at c3
  rw [id_made] at d3
  refine G_lceq 2104 993 d_Law_law_989 d_Law_law_990 rfl rfl (fun h989 => ?_) (fun h989 => ?_)
  · exact k _ _ _ _ _ ⟨c2, m1, c3.fm hW d4, d3, hW, hN⟩
  · exact absurd rfl h989
theorem l_grown {V : GV} {d lo C E i : Nat} {S : ST} {X : XT} {FI AI : FT} {AL : LT} {P : PT} (hcg : CGL) (hL : LI C E S X FI AI AL lo) (hi : i + 6 ≤ v_sn V) (hn : v_sn V ≤ 3072) (k : LK V d lo C E i P) : G V m_Law_law (d + 11) 995 [some (.ref (v_sb V)), some (.ref lo), some (.ref (lo + 110)), some (.int (nI i))] [] X FI AI AL P := by
  obtain ⟨h, hm, hI, hM, hW, hN⟩ := hL
  have hs := h.sh
  have hc := c_grown (V := V) (d := d + 6) (g := v_sx V (i + 1)) (x := v_sx V (i + 2)) (y := v_sx V (i + 3)) (z := v_sx V (i + 4)) (w := v_sx V (i + 5)) h hI hW
  refine G_aload1 996 d_Law_law_995 rfl ?_
  refine G_aload0 997 d_Law_law_996 rfl ?_
  refine G_iload3 998 d_Law_law_997 rfl ?_
  refine G_iconstN 1 999 d_Law_law_998 rfl rfl ?_
  first | refine G_iaddN 1000 d_Law_law_999 rfl ?_ | refine G_iadd 1000 d_Law_law_999 rfl ?_
  refine G_scald 1001 d_Law_law_1000 rfl (ix_nI (by omega) (by omega)) ?_
  refine G_aload0 1002 d_Law_law_1001 rfl ?_
  refine G_iload3 1003 d_Law_law_1002 rfl ?_
  refine G_iconstN 2 1004 d_Law_law_1003 rfl rfl ?_
  first | refine G_iaddN 1005 d_Law_law_1004 rfl ?_ | refine G_iadd 1005 d_Law_law_1004 rfl ?_
  refine G_scald 1006 d_Law_law_1005 rfl (ix_nI (by omega) (by omega)) ?_
  refine G_aload0 1007 d_Law_law_1006 rfl ?_
  refine G_iload3 1008 d_Law_law_1007 rfl ?_
  refine G_iconstN 3 1009 d_Law_law_1008 rfl rfl ?_
  first | refine G_iaddN 1010 d_Law_law_1009 rfl ?_ | refine G_iadd 1010 d_Law_law_1009 rfl ?_
  refine G_scald 1011 d_Law_law_1010 rfl (ix_nI (by omega) (by omega)) ?_
  refine G_aload0 1012 d_Law_law_1011 rfl ?_
  refine G_iload3 1013 d_Law_law_1012 rfl ?_
  refine G_iconstN 4 1014 d_Law_law_1013 rfl rfl ?_
  first | refine G_iaddN 1015 d_Law_law_1014 rfl ?_ | refine G_iadd 1015 d_Law_law_1014 rfl ?_
  refine G_scald 1016 d_Law_law_1015 rfl (ix_nI (by omega) (by omega)) ?_
  refine G_aload0 1017 d_Law_law_1016 rfl ?_
  refine G_iload3 1018 d_Law_law_1017 rfl ?_
  refine G_iconstN 5 1019 d_Law_law_1018 rfl rfl ?_
  first | refine G_iaddN 1020 d_Law_law_1019 rfl ?_ | refine G_iadd 1020 d_Law_law_1019 rfl ?_
  refine G_scald 1021 d_Law_law_1020 rfl (ix_nI (by omega) (by omega)) ?_
  refine G_invV5 1024 d_Law_law_1021 rfl e_Law_107 M_Alg_grown rfl hs (Nat.le_of_ble_eq_true rfl) (Nat.le_of_ble_eq_true rfl) rfl (G.conseq (hc) (fun r1021 X1021 FI1021 AI1021 AL1021 h1021 => ?_))
  obtain ⟨c1, c2, c3, c4⟩ := h1021
  subst c1
  obtain ⟨m1, m2⟩ := LI.m1 hm hM c4
  have ms := m1.1
  have hd := m_grown (V := V) (d := d + 7) (g := v_sx V (i + 1)) (x := v_sx V (i + 2)) (y := v_sx V (i + 3)) (z := v_sx V (i + 4)) (w := v_sx V (i + 5)) m1 m2 hW
  refine G_aload2 1025 d_Law_law_1024 rfl ?_
  refine G_aload0 1026 d_Law_law_1025 rfl ?_
  refine G_iload3 1027 d_Law_law_1026 rfl ?_
  refine G_iconstN 1 1028 d_Law_law_1027 rfl rfl ?_
  first | refine G_iaddN 1029 d_Law_law_1028 rfl ?_ | refine G_iadd 1029 d_Law_law_1028 rfl ?_
  refine G_scald 1030 d_Law_law_1029 rfl (ix_nI (by omega) (by omega)) ?_
  refine G_aload0 1031 d_Law_law_1030 rfl ?_
  refine G_iload3 1032 d_Law_law_1031 rfl ?_
  refine G_iconstN 2 1033 d_Law_law_1032 rfl rfl ?_
  first | refine G_iaddN 1034 d_Law_law_1033 rfl ?_ | refine G_iadd 1034 d_Law_law_1033 rfl ?_
  refine G_scald 1035 d_Law_law_1034 rfl (ix_nI (by omega) (by omega)) ?_
  refine G_aload0 1036 d_Law_law_1035 rfl ?_
  refine G_iload3 1037 d_Law_law_1036 rfl ?_
  refine G_iconstN 3 1038 d_Law_law_1037 rfl rfl ?_
  first | refine G_iaddN 1039 d_Law_law_1038 rfl ?_ | refine G_iadd 1039 d_Law_law_1038 rfl ?_
  refine G_scald 1040 d_Law_law_1039 rfl (ix_nI (by omega) (by omega)) ?_
  refine G_aload0 1041 d_Law_law_1040 rfl ?_
  refine G_iload3 1042 d_Law_law_1041 rfl ?_
  refine G_iconstN 4 1043 d_Law_law_1042 rfl rfl ?_
  first | refine G_iaddN 1044 d_Law_law_1043 rfl ?_ | refine G_iadd 1044 d_Law_law_1043 rfl ?_
  refine G_scald 1045 d_Law_law_1044 rfl (ix_nI (by omega) (by omega)) ?_
  refine G_aload0 1046 d_Law_law_1045 rfl ?_
  refine G_iload3 1047 d_Law_law_1046 rfl ?_
  refine G_iconstN 5 1048 d_Law_law_1047 rfl rfl ?_
  first | refine G_iaddN 1049 d_Law_law_1048 rfl ?_ | refine G_iadd 1049 d_Law_law_1048 rfl ?_
  refine G_scald 1050 d_Law_law_1049 rfl (ix_nI (by omega) (by omega)) ?_
  refine G_invV5 1053 d_Law_law_1050 rfl e_Law_110 M_Mod_grown rfl ms (Nat.le_of_ble_eq_true rfl) (Nat.le_of_ble_eq_true rfl) rfl (G.conseq (hd) (fun r1050 X1050 FI1050 AI1050 AL1050 h1050 => ?_))
  obtain ⟨d1, d2, d3, d4⟩ := h1050
  replace d2 := d2.symm
  subst d1 d2
  rw [id_grown] at c3
  rw [id_grown] at d3
  refine G_lceq 2104 1057 d_Law_law_1053 d_Law_law_1054 rfl rfl (fun h1053 => ?_) (fun h1053 => ?_)
  · exact k _ _ _ _ _ ⟨c2, m1, c3.fm hW d4, d3, hW, hN⟩
  · exact absurd rfl h1053
theorem l_closed {V : GV} {d lo C E i : Nat} {S : ST} {X : XT} {FI AI : FT} {AL : LT} {P : PT} (hcg : CGL) (hL : LI C E S X FI AI AL lo) (hi : i + 6 ≤ v_sn V) (hn : v_sn V ≤ 3072) (k : LK V d lo C E i P) : G V m_Law_law (d + 11) 1059 [some (.ref (v_sb V)), some (.ref lo), some (.ref (lo + 110)), some (.int (nI i))] [] X FI AI AL P := by
  obtain ⟨h, hm, hI, hM, hW, hN⟩ := hL
  have hs := h.sh
  have hc := c_closed (V := V) (d := d + 7)  h hI hW
  refine G_aload1 1060 d_Law_law_1059 rfl ?_
  refine G_invV0 1063 d_Law_law_1060 rfl e_Law_111 M_Alg_closed rfl hs (Nat.le_of_ble_eq_true rfl) (Nat.le_of_ble_eq_true rfl) rfl (G.conseq (hc) (fun r1060 X1060 FI1060 AI1060 AL1060 h1060 => ?_))
  obtain ⟨c1, c2, c3, c4⟩ := h1060
  subst c1
  obtain ⟨m1, m2⟩ := LI.m1 hm hM c4
  have ms := m1.1
  have hd := m_closed (V := V) (d := d + 7)  m1 m2 hW
  refine G_aload2 1064 d_Law_law_1063 rfl ?_
  refine G_invV0 1067 d_Law_law_1064 rfl e_Law_114 M_Mod_closed rfl ms (Nat.le_of_ble_eq_true rfl) (Nat.le_of_ble_eq_true rfl) rfl (G.conseq (hd) (fun r1064 X1064 FI1064 AI1064 AL1064 h1064 => ?_))
  obtain ⟨d1, d2, d3, d4⟩ := h1064
  replace d2 := d2.symm
  subst d1 d2
  rw [id_closed] at c3
  rw [id_closed] at d3
  first | refine G_iceqN 2104 1070 d_Law_law_1067 rfl rfl (by omega) (by omega) (fun h1067 => ?_) (fun h1067 => ?_) | refine G_iceq 2104 1070 d_Law_law_1067 rfl rfl (fun h1067 => ?_) (fun h1067 => ?_)
  · exact k _ _ _ _ _ ⟨c2, m1, c3.fm hW d4, d3, hW, hN⟩
  · exact absurd rfl h1067
theorem l_through {V : GV} {d lo C E i : Nat} {S : ST} {X : XT} {FI AI : FT} {AL : LT} {P : PT} (hcg : CGL) (hL : LI C E S X FI AI AL lo) (hi : i + 6 ≤ v_sn V) (hn : v_sn V ≤ 3072) (k : LK V d lo C E i P) : G V m_Law_law (d + 11) 1072 [some (.ref (v_sb V)), some (.ref lo), some (.ref (lo + 110)), some (.int (nI i))] [] X FI AI AL P := by
  obtain ⟨h, hm, hI, hM, hW, hN⟩ := hL
  have hs := h.sh
  have hc := c_through (V := V) (d := d + 6) (s := v_sx V (i + 1)) h hI hW
  refine G_aload1 1073 d_Law_law_1072 rfl ?_
  refine G_aload0 1074 d_Law_law_1073 rfl ?_
  refine G_iload3 1075 d_Law_law_1074 rfl ?_
  refine G_iconstN 1 1076 d_Law_law_1075 rfl rfl ?_
  first | refine G_iaddN 1077 d_Law_law_1076 rfl ?_ | refine G_iadd 1077 d_Law_law_1076 rfl ?_
  refine G_scald 1078 d_Law_law_1077 rfl (ix_nI (by omega) (by omega)) ?_
  refine G_invV1 1081 d_Law_law_1078 rfl e_Law_115 M_Alg_through rfl hs (Nat.le_of_ble_eq_true rfl) (Nat.le_of_ble_eq_true rfl) rfl (G.conseq (hc) (fun r1078 X1078 FI1078 AI1078 AL1078 h1078 => ?_))
  obtain ⟨c1, c2, c3, c4⟩ := h1078
  subst c1
  obtain ⟨m1, m2⟩ := LI.m1 hm hM c4
  have ms := m1.1
  have hd := m_through (V := V) (d := d + 5) (s := v_sx V (i + 1)) m1 m2 hW
  refine G_aload2 1082 d_Law_law_1081 rfl ?_
  refine G_aload0 1083 d_Law_law_1082 rfl ?_
  refine G_iload3 1084 d_Law_law_1083 rfl ?_
  refine G_iconstN 1 1085 d_Law_law_1084 rfl rfl ?_
  first | refine G_iaddN 1086 d_Law_law_1085 rfl ?_ | refine G_iadd 1086 d_Law_law_1085 rfl ?_
  refine G_scald 1087 d_Law_law_1086 rfl (ix_nI (by omega) (by omega)) ?_
  refine G_invV1 1090 d_Law_law_1087 rfl e_Law_118 M_Mod_through rfl ms (Nat.le_of_ble_eq_true rfl) (Nat.le_of_ble_eq_true rfl) rfl (G.conseq (hd) (fun r1087 X1087 FI1087 AI1087 AL1087 h1087 => ?_))
  obtain ⟨d1, d2, d3, d4⟩ := h1087
  replace d2 := d2.symm
  subst d1 d2
  first | refine G_iceqN 2104 1093 d_Law_law_1090 rfl rfl (by omega) (by omega) (fun h1090 => ?_) (fun h1090 => ?_) | refine G_iceq 2104 1093 d_Law_law_1090 rfl rfl (fun h1090 => ?_) (fun h1090 => ?_)
  · exact k _ _ _ _ _ ⟨c2, m1, c3.fm (ws_through hW) d4, d3, ws_through hW, ns_through hN⟩
  · exact absurd rfl h1090
theorem l_rows {V : GV} {d lo C E i : Nat} {S : ST} {X : XT} {FI AI : FT} {AL : LT} {P : PT} (hcg : CGL) (hL : LI C E S X FI AI AL lo) (hi : i + 6 ≤ v_sn V) (hn : v_sn V ≤ 3072) (k : LK V d lo C E i P) : G V m_Law_law (d + 11) 1095 [some (.ref (v_sb V)), some (.ref lo), some (.ref (lo + 110)), some (.int (nI i))] [] X FI AI AL P := by
  obtain ⟨h, hm, hI, hM, hW, hN⟩ := hL
  have hs := h.sh
  have hc := c_rows (V := V) (d := d + 8) (x := v_sx V (i + 1)) (y := v_sx V (i + 2)) (z := v_sx V (i + 3)) h hI hW
  refine G_aload1 1096 d_Law_law_1095 rfl ?_
  refine G_aload0 1097 d_Law_law_1096 rfl ?_
  refine G_iload3 1098 d_Law_law_1097 rfl ?_
  refine G_iconstN 1 1099 d_Law_law_1098 rfl rfl ?_
  first | refine G_iaddN 1100 d_Law_law_1099 rfl ?_ | refine G_iadd 1100 d_Law_law_1099 rfl ?_
  refine G_scald 1101 d_Law_law_1100 rfl (ix_nI (by omega) (by omega)) ?_
  refine G_aload0 1102 d_Law_law_1101 rfl ?_
  refine G_iload3 1103 d_Law_law_1102 rfl ?_
  refine G_iconstN 2 1104 d_Law_law_1103 rfl rfl ?_
  first | refine G_iaddN 1105 d_Law_law_1104 rfl ?_ | refine G_iadd 1105 d_Law_law_1104 rfl ?_
  refine G_scald 1106 d_Law_law_1105 rfl (ix_nI (by omega) (by omega)) ?_
  refine G_aload0 1107 d_Law_law_1106 rfl ?_
  refine G_iload3 1108 d_Law_law_1107 rfl ?_
  refine G_iconstN 3 1109 d_Law_law_1108 rfl rfl ?_
  first | refine G_iaddN 1110 d_Law_law_1109 rfl ?_ | refine G_iadd 1110 d_Law_law_1109 rfl ?_
  refine G_scald 1111 d_Law_law_1110 rfl (ix_nI (by omega) (by omega)) ?_
  refine G_invV3 1114 d_Law_law_1111 rfl e_Law_119 M_Alg_rows rfl hs (Nat.le_of_ble_eq_true rfl) (Nat.le_of_ble_eq_true rfl) rfl (G.conseq (hc) (fun r1111 X1111 FI1111 AI1111 AL1111 h1111 => ?_))
  obtain ⟨c1, c2, c3, c4⟩ := h1111
  subst c1
  obtain ⟨m1, m2⟩ := LI.m1 hm hM c4
  have ms := m1.1
  have hd := m_rows (V := V) (d := d + 6) (x := v_sx V (i + 1)) (y := v_sx V (i + 2)) (z := v_sx V (i + 3)) m1 m2 hW
  refine G_aload2 1115 d_Law_law_1114 rfl ?_
  refine G_aload0 1116 d_Law_law_1115 rfl ?_
  refine G_iload3 1117 d_Law_law_1116 rfl ?_
  refine G_iconstN 1 1118 d_Law_law_1117 rfl rfl ?_
  first | refine G_iaddN 1119 d_Law_law_1118 rfl ?_ | refine G_iadd 1119 d_Law_law_1118 rfl ?_
  refine G_scald 1120 d_Law_law_1119 rfl (ix_nI (by omega) (by omega)) ?_
  refine G_aload0 1121 d_Law_law_1120 rfl ?_
  refine G_iload3 1122 d_Law_law_1121 rfl ?_
  refine G_iconstN 2 1123 d_Law_law_1122 rfl rfl ?_
  first | refine G_iaddN 1124 d_Law_law_1123 rfl ?_ | refine G_iadd 1124 d_Law_law_1123 rfl ?_
  refine G_scald 1125 d_Law_law_1124 rfl (ix_nI (by omega) (by omega)) ?_
  refine G_aload0 1126 d_Law_law_1125 rfl ?_
  refine G_iload3 1127 d_Law_law_1126 rfl ?_
  refine G_iconstN 3 1128 d_Law_law_1127 rfl rfl ?_
  first | refine G_iaddN 1129 d_Law_law_1128 rfl ?_ | refine G_iadd 1129 d_Law_law_1128 rfl ?_
  refine G_scald 1130 d_Law_law_1129 rfl (ix_nI (by omega) (by omega)) ?_
  refine G_invV3 1133 d_Law_law_1130 rfl e_Law_122 M_Mod_rows rfl ms (Nat.le_of_ble_eq_true rfl) (Nat.le_of_ble_eq_true rfl) rfl (G.conseq (hd) (fun r1130 X1130 FI1130 AI1130 AL1130 h1130 => ?_))
  obtain ⟨d1, d2, d3, d4⟩ := h1130
  replace d2 := d2.symm
  subst d1 d2
  rw [id_rows] at c3
  rw [id_rows] at d3
  first | refine G_iceqN 2104 1136 d_Law_law_1133 rfl rfl (by omega) (by omega) (fun h1133 => ?_) (fun h1133 => ?_) | refine G_iceq 2104 1136 d_Law_law_1133 rfl rfl (fun h1133 => ?_) (fun h1133 => ?_)
  · exact k _ _ _ _ _ ⟨c2, m1, c3.fm hW d4, d3, hW, hN⟩
  · exact absurd rfl h1133
theorem l_row {V : GV} {d lo C E i : Nat} {S : ST} {X : XT} {FI AI : FT} {AL : LT} {P : PT} (hcg : CGL) (hL : LI C E S X FI AI AL lo) (hi : i + 6 ≤ v_sn V) (hn : v_sn V ≤ 3072) (k : LK V d lo C E i P) : G V m_Law_law (d + 11) 1138 [some (.ref (v_sb V)), some (.ref lo), some (.ref (lo + 110)), some (.int (nI i))] [] X FI AI AL P := by
  obtain ⟨h, hm, hI, hM, hW, hN⟩ := hL
  have hs := h.sh
  have hc := c_row (V := V) (d := d + 8) (x := v_sx V (i + 1)) (y := v_sx V (i + 2)) (z := v_sx V (i + 3)) (i := v_sx V (i + 4)) (g := v_sx V (i + 5)) h hI hW
  refine G_aload1 1139 d_Law_law_1138 rfl ?_
  refine G_aload0 1140 d_Law_law_1139 rfl ?_
  refine G_iload3 1141 d_Law_law_1140 rfl ?_
  refine G_iconstN 1 1142 d_Law_law_1141 rfl rfl ?_
  first | refine G_iaddN 1143 d_Law_law_1142 rfl ?_ | refine G_iadd 1143 d_Law_law_1142 rfl ?_
  refine G_scald 1144 d_Law_law_1143 rfl (ix_nI (by omega) (by omega)) ?_
  refine G_aload0 1145 d_Law_law_1144 rfl ?_
  refine G_iload3 1146 d_Law_law_1145 rfl ?_
  refine G_iconstN 2 1147 d_Law_law_1146 rfl rfl ?_
  first | refine G_iaddN 1148 d_Law_law_1147 rfl ?_ | refine G_iadd 1148 d_Law_law_1147 rfl ?_
  refine G_scald 1149 d_Law_law_1148 rfl (ix_nI (by omega) (by omega)) ?_
  refine G_aload0 1150 d_Law_law_1149 rfl ?_
  refine G_iload3 1151 d_Law_law_1150 rfl ?_
  refine G_iconstN 3 1152 d_Law_law_1151 rfl rfl ?_
  first | refine G_iaddN 1153 d_Law_law_1152 rfl ?_ | refine G_iadd 1153 d_Law_law_1152 rfl ?_
  refine G_scald 1154 d_Law_law_1153 rfl (ix_nI (by omega) (by omega)) ?_
  refine G_aload0 1155 d_Law_law_1154 rfl ?_
  refine G_iload3 1156 d_Law_law_1155 rfl ?_
  refine G_iconstN 4 1157 d_Law_law_1156 rfl rfl ?_
  first | refine G_iaddN 1158 d_Law_law_1157 rfl ?_ | refine G_iadd 1158 d_Law_law_1157 rfl ?_
  refine G_scald 1159 d_Law_law_1158 rfl (ix_nI (by omega) (by omega)) ?_
  refine G_aload0 1160 d_Law_law_1159 rfl ?_
  refine G_iload3 1161 d_Law_law_1160 rfl ?_
  refine G_iconstN 5 1162 d_Law_law_1161 rfl rfl ?_
  first | refine G_iaddN 1163 d_Law_law_1162 rfl ?_ | refine G_iadd 1163 d_Law_law_1162 rfl ?_
  refine G_scald 1164 d_Law_law_1163 rfl (ix_nI (by omega) (by omega)) ?_
  refine G_invV5 1167 d_Law_law_1164 rfl e_Law_123 M_Alg_row rfl hs (Nat.le_of_ble_eq_true rfl) (Nat.le_of_ble_eq_true rfl) rfl (G.conseq (hc) (fun r1164 X1164 FI1164 AI1164 AL1164 h1164 => ?_))
  obtain ⟨c1, c2, c3, c4⟩ := h1164
  subst c1
  obtain ⟨m1, m2⟩ := LI.m1 hm hM c4
  have ms := m1.1
  have hd := m_row (V := V) (d := d + 6) (x := v_sx V (i + 1)) (y := v_sx V (i + 2)) (z := v_sx V (i + 3)) (i := v_sx V (i + 4)) (g := v_sx V (i + 5)) m1 m2 hW
  refine G_aload2 1168 d_Law_law_1167 rfl ?_
  refine G_aload0 1169 d_Law_law_1168 rfl ?_
  refine G_iload3 1170 d_Law_law_1169 rfl ?_
  refine G_iconstN 1 1171 d_Law_law_1170 rfl rfl ?_
  first | refine G_iaddN 1172 d_Law_law_1171 rfl ?_ | refine G_iadd 1172 d_Law_law_1171 rfl ?_
  refine G_scald 1173 d_Law_law_1172 rfl (ix_nI (by omega) (by omega)) ?_
  refine G_aload0 1174 d_Law_law_1173 rfl ?_
  refine G_iload3 1175 d_Law_law_1174 rfl ?_
  refine G_iconstN 2 1176 d_Law_law_1175 rfl rfl ?_
  first | refine G_iaddN 1177 d_Law_law_1176 rfl ?_ | refine G_iadd 1177 d_Law_law_1176 rfl ?_
  refine G_scald 1178 d_Law_law_1177 rfl (ix_nI (by omega) (by omega)) ?_
  refine G_aload0 1179 d_Law_law_1178 rfl ?_
  refine G_iload3 1180 d_Law_law_1179 rfl ?_
  refine G_iconstN 3 1181 d_Law_law_1180 rfl rfl ?_
  first | refine G_iaddN 1182 d_Law_law_1181 rfl ?_ | refine G_iadd 1182 d_Law_law_1181 rfl ?_
  refine G_scald 1183 d_Law_law_1182 rfl (ix_nI (by omega) (by omega)) ?_
  refine G_aload0 1184 d_Law_law_1183 rfl ?_
  refine G_iload3 1185 d_Law_law_1184 rfl ?_
  refine G_iconstN 4 1186 d_Law_law_1185 rfl rfl ?_
  first | refine G_iaddN 1187 d_Law_law_1186 rfl ?_ | refine G_iadd 1187 d_Law_law_1186 rfl ?_
  refine G_scald 1188 d_Law_law_1187 rfl (ix_nI (by omega) (by omega)) ?_
  refine G_aload0 1189 d_Law_law_1188 rfl ?_
  refine G_iload3 1190 d_Law_law_1189 rfl ?_
  refine G_iconstN 5 1191 d_Law_law_1190 rfl rfl ?_
  first | refine G_iaddN 1192 d_Law_law_1191 rfl ?_ | refine G_iadd 1192 d_Law_law_1191 rfl ?_
  refine G_scald 1193 d_Law_law_1192 rfl (ix_nI (by omega) (by omega)) ?_
  refine G_invV5 1196 d_Law_law_1193 rfl e_Law_126 M_Mod_row rfl ms (Nat.le_of_ble_eq_true rfl) (Nat.le_of_ble_eq_true rfl) rfl (G.conseq (hd) (fun r1193 X1193 FI1193 AI1193 AL1193 h1193 => ?_))
  obtain ⟨d1, d2, d3, d4⟩ := h1193
  replace d2 := d2.symm
  subst d1 d2
  rw [id_row] at c3
  rw [id_row] at d3
  first | refine G_iceqN 2104 1199 d_Law_law_1196 rfl rfl (by omega) (by omega) (fun h1196 => ?_) (fun h1196 => ?_) | refine G_iceq 2104 1199 d_Law_law_1196 rfl rfl (fun h1196 => ?_) (fun h1196 => ?_)
  · exact k _ _ _ _ _ ⟨c2, m1, c3.fm hW d4, d3, hW, hN⟩
  · exact absurd rfl h1196
theorem l_monoid {V : GV} {d lo C E i : Nat} {S : ST} {X : XT} {FI AI : FT} {AL : LT} {P : PT} (hcg : CGL) (hL : LI C E S X FI AI AL lo) (hi : i + 6 ≤ v_sn V) (hn : v_sn V ≤ 3072) (k : LK V d lo C E i P) : G V m_Law_law (d + 11) 1201 [some (.ref (v_sb V)), some (.ref lo), some (.ref (lo + 110)), some (.int (nI i))] [] X FI AI AL P := by
  obtain ⟨h, hm, hI, hM, hW, hN⟩ := hL
  have hs := h.sh
  have hc := c_monoid (V := V) (d := d + 8) (x := v_sx V (i + 1)) (w := v_sx V (i + 2)) h hI hW
  refine G_aload1 1202 d_Law_law_1201 rfl ?_
  refine G_aload0 1203 d_Law_law_1202 rfl ?_
  refine G_iload3 1204 d_Law_law_1203 rfl ?_
  refine G_iconstN 1 1205 d_Law_law_1204 rfl rfl ?_
  first | refine G_iaddN 1206 d_Law_law_1205 rfl ?_ | refine G_iadd 1206 d_Law_law_1205 rfl ?_
  refine G_scald 1207 d_Law_law_1206 rfl (ix_nI (by omega) (by omega)) ?_
  refine G_aload0 1208 d_Law_law_1207 rfl ?_
  refine G_iload3 1209 d_Law_law_1208 rfl ?_
  refine G_iconstN 2 1210 d_Law_law_1209 rfl rfl ?_
  first | refine G_iaddN 1211 d_Law_law_1210 rfl ?_ | refine G_iadd 1211 d_Law_law_1210 rfl ?_
  refine G_scald 1212 d_Law_law_1211 rfl (ix_nI (by omega) (by omega)) ?_
  refine G_invV2 1215 d_Law_law_1212 rfl e_Law_127 M_Alg_monoid rfl hs (Nat.le_of_ble_eq_true rfl) (Nat.le_of_ble_eq_true rfl) rfl (G.conseq (hc) (fun r1212 X1212 FI1212 AI1212 AL1212 h1212 => ?_))
  obtain ⟨c1, c2, c3, c4⟩ := h1212
  subst c1
  obtain ⟨m1, m2⟩ := LI.m1 hm hM c4
  have ms := m1.1
  have hd := m_monoid (V := V) (d := d + 6) (x := v_sx V (i + 1)) (y := v_sx V (i + 2)) m1 m2 hW
  refine G_aload2 1216 d_Law_law_1215 rfl ?_
  refine G_aload0 1217 d_Law_law_1216 rfl ?_
  refine G_iload3 1218 d_Law_law_1217 rfl ?_
  refine G_iconstN 1 1219 d_Law_law_1218 rfl rfl ?_
  first | refine G_iaddN 1220 d_Law_law_1219 rfl ?_ | refine G_iadd 1220 d_Law_law_1219 rfl ?_
  refine G_scald 1221 d_Law_law_1220 rfl (ix_nI (by omega) (by omega)) ?_
  refine G_aload0 1222 d_Law_law_1221 rfl ?_
  refine G_iload3 1223 d_Law_law_1222 rfl ?_
  refine G_iconstN 2 1224 d_Law_law_1223 rfl rfl ?_
  first | refine G_iaddN 1225 d_Law_law_1224 rfl ?_ | refine G_iadd 1225 d_Law_law_1224 rfl ?_
  refine G_scald 1226 d_Law_law_1225 rfl (ix_nI (by omega) (by omega)) ?_
  refine G_invV2 1229 d_Law_law_1226 rfl e_Law_130 M_Mod_monoid rfl ms (Nat.le_of_ble_eq_true rfl) (Nat.le_of_ble_eq_true rfl) rfl (G.conseq (hd) (fun r1226 X1226 FI1226 AI1226 AL1226 h1226 => ?_))
  obtain ⟨d1, d2, d3, d4⟩ := h1226
  replace d2 := d2.symm
  subst d1 d2
  rw [id_monoid] at c3
  rw [id_monoid] at d3
  first | refine G_iceqN 2104 1232 d_Law_law_1229 rfl rfl (by omega) (by omega) (fun h1229 => ?_) (fun h1229 => ?_) | refine G_iceq 2104 1232 d_Law_law_1229 rfl rfl (fun h1229 => ?_) (fun h1229 => ?_)
  · exact k _ _ _ _ _ ⟨c2, m1, c3.fm hW d4, d3, hW, hN⟩
  · exact absurd rfl h1229
theorem l_root {V : GV} {d lo C E i : Nat} {S : ST} {X : XT} {FI AI : FT} {AL : LT} {P : PT} (hcg : CGL) (hL : LI C E S X FI AI AL lo) (hi : i + 6 ≤ v_sn V) (hn : v_sn V ≤ 3072) (k : LK V d lo C E i P) : G V m_Law_law (d + 11) 1234 [some (.ref (v_sb V)), some (.ref lo), some (.ref (lo + 110)), some (.int (nI i))] [] X FI AI AL P := by
  obtain ⟨h, hm, hI, hM, hW, hN⟩ := hL
  have hs := h.sh
  have hc := c_root (V := V) (d := d + 8) (x := v_sx V (i + 1)) (y := v_sx V (i + 2)) (z := v_sx V (i + 3)) h hI hW
  refine G_aload1 1235 d_Law_law_1234 rfl ?_
  refine G_aload0 1236 d_Law_law_1235 rfl ?_
  refine G_iload3 1237 d_Law_law_1236 rfl ?_
  refine G_iconstN 1 1238 d_Law_law_1237 rfl rfl ?_
  first | refine G_iaddN 1239 d_Law_law_1238 rfl ?_ | refine G_iadd 1239 d_Law_law_1238 rfl ?_
  refine G_scald 1240 d_Law_law_1239 rfl (ix_nI (by omega) (by omega)) ?_
  refine G_aload0 1241 d_Law_law_1240 rfl ?_
  refine G_iload3 1242 d_Law_law_1241 rfl ?_
  refine G_iconstN 2 1243 d_Law_law_1242 rfl rfl ?_
  first | refine G_iaddN 1244 d_Law_law_1243 rfl ?_ | refine G_iadd 1244 d_Law_law_1243 rfl ?_
  refine G_scald 1245 d_Law_law_1244 rfl (ix_nI (by omega) (by omega)) ?_
  refine G_aload0 1246 d_Law_law_1245 rfl ?_
  refine G_iload3 1247 d_Law_law_1246 rfl ?_
  refine G_iconstN 3 1248 d_Law_law_1247 rfl rfl ?_
  first | refine G_iaddN 1249 d_Law_law_1248 rfl ?_ | refine G_iadd 1249 d_Law_law_1248 rfl ?_
  refine G_scald 1250 d_Law_law_1249 rfl (ix_nI (by omega) (by omega)) ?_
  refine G_invV3 1253 d_Law_law_1250 rfl e_Law_131 M_Alg_root rfl hs (Nat.le_of_ble_eq_true rfl) (Nat.le_of_ble_eq_true rfl) rfl (G.conseq (hc) (fun r1250 X1250 FI1250 AI1250 AL1250 h1250 => ?_))
  obtain ⟨c1, c2, c3, c4⟩ := h1250
  subst c1
  obtain ⟨m1, m2⟩ := LI.m1 hm hM c4
  have ms := m1.1
  have hd := m_root (V := V) (d := d + 7) (x := v_sx V (i + 1)) (y := v_sx V (i + 2)) (z := v_sx V (i + 3)) m1 m2 hW
  refine G_aload2 1254 d_Law_law_1253 rfl ?_
  refine G_aload0 1255 d_Law_law_1254 rfl ?_
  refine G_iload3 1256 d_Law_law_1255 rfl ?_
  refine G_iconstN 1 1257 d_Law_law_1256 rfl rfl ?_
  first | refine G_iaddN 1258 d_Law_law_1257 rfl ?_ | refine G_iadd 1258 d_Law_law_1257 rfl ?_
  refine G_scald 1259 d_Law_law_1258 rfl (ix_nI (by omega) (by omega)) ?_
  refine G_aload0 1260 d_Law_law_1259 rfl ?_
  refine G_iload3 1261 d_Law_law_1260 rfl ?_
  refine G_iconstN 2 1262 d_Law_law_1261 rfl rfl ?_
  first | refine G_iaddN 1263 d_Law_law_1262 rfl ?_ | refine G_iadd 1263 d_Law_law_1262 rfl ?_
  refine G_scald 1264 d_Law_law_1263 rfl (ix_nI (by omega) (by omega)) ?_
  refine G_aload0 1265 d_Law_law_1264 rfl ?_
  refine G_iload3 1266 d_Law_law_1265 rfl ?_
  refine G_iconstN 3 1267 d_Law_law_1266 rfl rfl ?_
  first | refine G_iaddN 1268 d_Law_law_1267 rfl ?_ | refine G_iadd 1268 d_Law_law_1267 rfl ?_
  refine G_scald 1269 d_Law_law_1268 rfl (ix_nI (by omega) (by omega)) ?_
  refine G_invV3 1272 d_Law_law_1269 rfl e_Law_134 M_Mod_root rfl ms (Nat.le_of_ble_eq_true rfl) (Nat.le_of_ble_eq_true rfl) rfl (G.conseq (hd) (fun r1269 X1269 FI1269 AI1269 AL1269 h1269 => ?_))
  obtain ⟨d1, d2, d3, d4⟩ := h1269
  replace d2 := d2.symm
  subst d1 d2
  rw [id_root] at c3
  rw [id_root] at d3
  first | refine G_iceqN 2104 1275 d_Law_law_1272 rfl rfl (by omega) (by omega) (fun h1272 => ?_) (fun h1272 => ?_) | refine G_iceq 2104 1275 d_Law_law_1272 rfl rfl (fun h1272 => ?_) (fun h1272 => ?_)
  · exact k _ _ _ _ _ ⟨c2, m1, c3.fm hW d4, d3, hW, hN⟩
  · exact absurd rfl h1272

/-! ===== the law: one call on each side ===== -/
theorem l_member {V : GV} {d lo C E i : Nat} {S : ST} {X : XT} {FI AI : FT} {AL : LT} {P : PT} (hcg : CGL) (hL : LI C E S X FI AI AL lo) (hi : i + 6 ≤ v_sn V) (hn : v_sn V ≤ 3072) (k : LK V d lo C E i P) : G V m_Law_law (d + 11) 1713 [some (.ref (v_sb V)), some (.ref lo), some (.ref (lo + 110)), some (.int (nI i))] [] X FI AI AL P := by
  obtain ⟨h, hm, hI, hM, hW, hN⟩ := hL
  have hs := h.sh
  have hc := c_member (V := V) (d := d + 5) (s := v_sx V (i + 1)) h hI hW
  refine G_aload1 1714 d_Law_law_1713 rfl ?_
  refine G_aload0 1715 d_Law_law_1714 rfl ?_
  refine G_iload3 1716 d_Law_law_1715 rfl ?_
  refine G_iconstN 1 1717 d_Law_law_1716 rfl rfl ?_
  first | refine G_iaddN 1718 d_Law_law_1717 rfl ?_ | refine G_iadd 1718 d_Law_law_1717 rfl ?_
  refine G_scald 1719 d_Law_law_1718 rfl (ix_nI (by omega) (by omega)) ?_
  refine G_invV1 1722 d_Law_law_1719 rfl e_Law_193 M_Alg_member rfl hs (Nat.le_of_ble_eq_true rfl) (Nat.le_of_ble_eq_true rfl) rfl (G.conseq (hc) (fun r1719 X1719 FI1719 AI1719 AL1719 h1719 => ?_))
  obtain ⟨c1, c2, c3, c4⟩ := h1719
  subst c1
  obtain ⟨m1, m2⟩ := LI.m1 hm hM c4
  have ms := m1.1
  have hd := m_member (V := V) (d := d + 4) (s := v_sx V (i + 1)) m1 m2 hW
  refine G_aload2 1723 d_Law_law_1722 rfl ?_
  refine G_aload0 1724 d_Law_law_1723 rfl ?_
  refine G_iload3 1725 d_Law_law_1724 rfl ?_
  refine G_iconstN 1 1726 d_Law_law_1725 rfl rfl ?_
  first | refine G_iaddN 1727 d_Law_law_1726 rfl ?_ | refine G_iadd 1727 d_Law_law_1726 rfl ?_
  refine G_scald 1728 d_Law_law_1727 rfl (ix_nI (by omega) (by omega)) ?_
  refine G_invV1 1731 d_Law_law_1728 rfl e_Law_196 M_Mod_member rfl ms (Nat.le_of_ble_eq_true rfl) (Nat.le_of_ble_eq_true rfl) rfl (G.conseq (hd) (fun r1728 X1728 FI1728 AI1728 AL1728 h1728 => ?_))
  obtain ⟨d1, d2, d3, d4⟩ := h1728
  replace d2 := d2.symm
  subst d1 d2
  rw [id_member] at c3
  rw [id_member] at d3
  first | refine G_iceqN 2104 1734 d_Law_law_1731 rfl rfl (by omega) (by omega) (fun h1731 => ?_) (fun h1731 => ?_) | refine G_iceq 2104 1734 d_Law_law_1731 rfl rfl (fun h1731 => ?_) (fun h1731 => ?_)
  · exact k _ _ _ _ _ ⟨c2, m1, c3.fm hW d4, d3, hW, hN⟩
  · exact absurd rfl h1731
theorem l_step {V : GV} {d lo C E i : Nat} {S : ST} {X : XT} {FI AI : FT} {AL : LT} {P : PT} (hcg : CGL) (hL : LI C E S X FI AI AL lo) (hi : i + 6 ≤ v_sn V) (hn : v_sn V ≤ 3072) (k : LK V d lo C E i P) : G V m_Law_law (d + 11) 1736 [some (.ref (v_sb V)), some (.ref lo), some (.ref (lo + 110)), some (.int (nI i))] [] X FI AI AL P := by
  obtain ⟨h, hm, hI, hM, hW, hN⟩ := hL
  have hs := h.sh
  have hc := c_step (V := V) (d := d + 8) (i := v_sx V (i + 1)) (w := v_sx V (i + 2)) h hI hW
  refine G_aload1 1737 d_Law_law_1736 rfl ?_
  refine G_aload0 1738 d_Law_law_1737 rfl ?_
  refine G_iload3 1739 d_Law_law_1738 rfl ?_
  refine G_iconstN 1 1740 d_Law_law_1739 rfl rfl ?_
  first | refine G_iaddN 1741 d_Law_law_1740 rfl ?_ | refine G_iadd 1741 d_Law_law_1740 rfl ?_
  refine G_scald 1742 d_Law_law_1741 rfl (ix_nI (by omega) (by omega)) ?_
  refine G_aload0 1743 d_Law_law_1742 rfl ?_
  refine G_iload3 1744 d_Law_law_1743 rfl ?_
  refine G_iconstN 2 1745 d_Law_law_1744 rfl rfl ?_
  first | refine G_iaddN 1746 d_Law_law_1745 rfl ?_ | refine G_iadd 1746 d_Law_law_1745 rfl ?_
  refine G_scald 1747 d_Law_law_1746 rfl (ix_nI (by omega) (by omega)) ?_
  refine G_invV2 1750 d_Law_law_1747 rfl e_Law_197 M_Alg_step rfl hs (Nat.le_of_ble_eq_true rfl) (Nat.le_of_ble_eq_true rfl) rfl (G.conseq (hc) (fun r1747 X1747 FI1747 AI1747 AL1747 h1747 => ?_))
  obtain ⟨c1, c2, c3, c4⟩ := h1747
  subst c1
  obtain ⟨m1, m2⟩ := LI.m1 hm hM c4
  have ms := m1.1
  have hd := m_step (V := V) (d := d + 9) (i := v_sx V (i + 1)) (w := v_sx V (i + 2)) m1 m2 hW
  refine G_aload2 1751 d_Law_law_1750 rfl ?_
  refine G_aload0 1752 d_Law_law_1751 rfl ?_
  refine G_iload3 1753 d_Law_law_1752 rfl ?_
  refine G_iconstN 1 1754 d_Law_law_1753 rfl rfl ?_
  first | refine G_iaddN 1755 d_Law_law_1754 rfl ?_ | refine G_iadd 1755 d_Law_law_1754 rfl ?_
  refine G_scald 1756 d_Law_law_1755 rfl (ix_nI (by omega) (by omega)) ?_
  refine G_aload0 1757 d_Law_law_1756 rfl ?_
  refine G_iload3 1758 d_Law_law_1757 rfl ?_
  refine G_iconstN 2 1759 d_Law_law_1758 rfl rfl ?_
  first | refine G_iaddN 1760 d_Law_law_1759 rfl ?_ | refine G_iadd 1760 d_Law_law_1759 rfl ?_
  refine G_scald 1761 d_Law_law_1760 rfl (ix_nI (by omega) (by omega)) ?_
  refine G_invV2 1764 d_Law_law_1761 rfl e_Law_200 M_Mod_step rfl ms (Nat.le_of_ble_eq_true rfl) (Nat.le_of_ble_eq_true rfl) rfl (G.conseq (hd) (fun r1761 X1761 FI1761 AI1761 AL1761 h1761 => ?_))
  obtain ⟨d1, d2, d3, d4⟩ := h1761
  replace d2 := d2.symm
  subst d1 d2
  rw [id_step] at c3
  rw [id_step] at d3
  refine G_lceq 2104 1768 d_Law_law_1764 d_Law_law_1765 rfl rfl (fun h1764 => ?_) (fun h1764 => ?_)
  · exact k _ _ _ _ _ ⟨c2, m1, c3.fm hW d4, d3, hW, hN⟩
  · exact absurd rfl h1764
theorem l_witness {V : GV} {d lo C E i : Nat} {S : ST} {X : XT} {FI AI : FT} {AL : LT} {P : PT} (hcg : CGL) (hL : LI C E S X FI AI AL lo) (hi : i + 6 ≤ v_sn V) (hn : v_sn V ≤ 3072) (k : LK V d lo C E i P) : G V m_Law_law (d + 11) 1770 [some (.ref (v_sb V)), some (.ref lo), some (.ref (lo + 110)), some (.int (nI i))] [] X FI AI AL P := by
  obtain ⟨h, hm, hI, hM, hW, hN⟩ := hL
  have hs := h.sh
  have hc := c_witness (V := V) (d := d + 6) (s := v_sx V (i + 1)) h hI hW
  refine G_aload1 1771 d_Law_law_1770 rfl ?_
  refine G_aload0 1772 d_Law_law_1771 rfl ?_
  refine G_iload3 1773 d_Law_law_1772 rfl ?_
  refine G_iconstN 1 1774 d_Law_law_1773 rfl rfl ?_
  first | refine G_iaddN 1775 d_Law_law_1774 rfl ?_ | refine G_iadd 1775 d_Law_law_1774 rfl ?_
  refine G_scald 1776 d_Law_law_1775 rfl (ix_nI (by omega) (by omega)) ?_
  refine G_invV1 1779 d_Law_law_1776 rfl e_Law_201 M_Alg_witness rfl hs (Nat.le_of_ble_eq_true rfl) (Nat.le_of_ble_eq_true rfl) rfl (G.conseq (hc) (fun r1776 X1776 FI1776 AI1776 AL1776 h1776 => ?_))
  obtain ⟨c1, c2, c3, c4⟩ := h1776
  subst c1
  obtain ⟨m1, m2⟩ := LI.m1 hm hM c4
  have ms := m1.1
  have hd := m_witness (V := V) (d := d + 5) (s := v_sx V (i + 1)) m1 m2 hW
  refine G_aload2 1780 d_Law_law_1779 rfl ?_
  refine G_aload0 1781 d_Law_law_1780 rfl ?_
  refine G_iload3 1782 d_Law_law_1781 rfl ?_
  refine G_iconstN 1 1783 d_Law_law_1782 rfl rfl ?_
  first | refine G_iaddN 1784 d_Law_law_1783 rfl ?_ | refine G_iadd 1784 d_Law_law_1783 rfl ?_
  refine G_scald 1785 d_Law_law_1784 rfl (ix_nI (by omega) (by omega)) ?_
  refine G_invV1 1788 d_Law_law_1785 rfl e_Law_204 M_Mod_witness rfl ms (Nat.le_of_ble_eq_true rfl) (Nat.le_of_ble_eq_true rfl) rfl (G.conseq (hd) (fun r1785 X1785 FI1785 AI1785 AL1785 h1785 => ?_))
  obtain ⟨d1, d2, d3, d4⟩ := h1785
  replace d2 := d2.symm
  subst d1 d2
  first | refine G_iceqN 2104 1791 d_Law_law_1788 rfl rfl (by omega) (by omega) (fun h1788 => ?_) (fun h1788 => ?_) | refine G_iceq 2104 1791 d_Law_law_1788 rfl rfl (fun h1788 => ?_) (fun h1788 => ?_)
  · exact k _ _ _ _ _ ⟨c2, m1, c3.fm (ws_witness hW) d4, d3, ws_witness hW, ns_witness hN⟩
  · exact absurd rfl h1788
theorem l_sheet {V : GV} {d lo C E i : Nat} {S : ST} {X : XT} {FI AI : FT} {AL : LT} {P : PT} (hcg : CGL) (hL : LI C E S X FI AI AL lo) (hi : i + 6 ≤ v_sn V) (hn : v_sn V ≤ 3072) (k : LK V d lo C E i P) : G V m_Law_law (d + 11) 1793 [some (.ref (v_sb V)), some (.ref lo), some (.ref (lo + 110)), some (.int (nI i))] [] X FI AI AL P := by
  obtain ⟨h, hm, hI, hM, hW, hN⟩ := hL
  have hs := h.sh
  have hc := c_sheet (V := V) (d := d + 8) (s := v_sx V (i + 1)) (w := v_sx V (i + 2)) (n := v_sx V (i + 3)) h hI hW
  refine G_aload1 1794 d_Law_law_1793 rfl ?_
  refine G_aload0 1795 d_Law_law_1794 rfl ?_
  refine G_iload3 1796 d_Law_law_1795 rfl ?_
  refine G_iconstN 1 1797 d_Law_law_1796 rfl rfl ?_
  first | refine G_iaddN 1798 d_Law_law_1797 rfl ?_ | refine G_iadd 1798 d_Law_law_1797 rfl ?_
  refine G_scald 1799 d_Law_law_1798 rfl (ix_nI (by omega) (by omega)) ?_
  refine G_aload0 1800 d_Law_law_1799 rfl ?_
  refine G_iload3 1801 d_Law_law_1800 rfl ?_
  refine G_iconstN 2 1802 d_Law_law_1801 rfl rfl ?_
  first | refine G_iaddN 1803 d_Law_law_1802 rfl ?_ | refine G_iadd 1803 d_Law_law_1802 rfl ?_
  refine G_scald 1804 d_Law_law_1803 rfl (ix_nI (by omega) (by omega)) ?_
  refine G_aload0 1805 d_Law_law_1804 rfl ?_
  refine G_iload3 1806 d_Law_law_1805 rfl ?_
  refine G_iconstN 3 1807 d_Law_law_1806 rfl rfl ?_
  first | refine G_iaddN 1808 d_Law_law_1807 rfl ?_ | refine G_iadd 1808 d_Law_law_1807 rfl ?_
  refine G_scald 1809 d_Law_law_1808 rfl (ix_nI (by omega) (by omega)) ?_
  refine G_invV3 1812 d_Law_law_1809 rfl e_Law_205 M_Alg_sheet rfl hs (Nat.le_of_ble_eq_true rfl) (Nat.le_of_ble_eq_true rfl) rfl (G.conseq (hc) (fun r1809 X1809 FI1809 AI1809 AL1809 h1809 => ?_))
  obtain ⟨c1, c2, c3, c4⟩ := h1809
  subst c1
  obtain ⟨m1, m2⟩ := LI.m1 hm hM c4
  have ms := m1.1
  have hd := m_sheet (V := V) (d := d + 9) (s := v_sx V (i + 1)) (w := v_sx V (i + 2)) (n := v_sx V (i + 3)) m1 m2 hW
  refine G_aload2 1813 d_Law_law_1812 rfl ?_
  refine G_aload0 1814 d_Law_law_1813 rfl ?_
  refine G_iload3 1815 d_Law_law_1814 rfl ?_
  refine G_iconstN 1 1816 d_Law_law_1815 rfl rfl ?_
  first | refine G_iaddN 1817 d_Law_law_1816 rfl ?_ | refine G_iadd 1817 d_Law_law_1816 rfl ?_
  refine G_scald 1818 d_Law_law_1817 rfl (ix_nI (by omega) (by omega)) ?_
  refine G_aload0 1819 d_Law_law_1818 rfl ?_
  refine G_iload3 1820 d_Law_law_1819 rfl ?_
  refine G_iconstN 2 1821 d_Law_law_1820 rfl rfl ?_
  first | refine G_iaddN 1822 d_Law_law_1821 rfl ?_ | refine G_iadd 1822 d_Law_law_1821 rfl ?_
  refine G_scald 1823 d_Law_law_1822 rfl (ix_nI (by omega) (by omega)) ?_
  refine G_aload0 1824 d_Law_law_1823 rfl ?_
  refine G_iload3 1825 d_Law_law_1824 rfl ?_
  refine G_iconstN 3 1826 d_Law_law_1825 rfl rfl ?_
  first | refine G_iaddN 1827 d_Law_law_1826 rfl ?_ | refine G_iadd 1827 d_Law_law_1826 rfl ?_
  refine G_scald 1828 d_Law_law_1827 rfl (ix_nI (by omega) (by omega)) ?_
  refine G_invV3 1831 d_Law_law_1828 rfl e_Law_208 M_Mod_sheet rfl ms (Nat.le_of_ble_eq_true rfl) (Nat.le_of_ble_eq_true rfl) rfl (G.conseq (hd) (fun r1828 X1828 FI1828 AI1828 AL1828 h1828 => ?_))
  obtain ⟨d1, d2, d3, d4⟩ := h1828
  replace d2 := d2.symm
  subst d1 d2
  first | refine G_iceqN 2104 1834 d_Law_law_1831 rfl rfl (by omega) (by omega) (fun h1831 => ?_) (fun h1831 => ?_) | refine G_iceq 2104 1834 d_Law_law_1831 rfl rfl (fun h1831 => ?_) (fun h1831 => ?_)
  · exact k _ _ _ _ _ ⟨c2, m1, c3.fm (ws_sheet hW) d4, d3, ws_sheet hW, ns_sheet hN⟩
  · exact absurd rfl h1831
theorem l_cell {V : GV} {d lo C E i : Nat} {S : ST} {X : XT} {FI AI : FT} {AL : LT} {P : PT} (hcg : CGL) (hL : LI C E S X FI AI AL lo) (hi : i + 6 ≤ v_sn V) (hn : v_sn V ≤ 3072) (k : LK V d lo C E i P) : G V m_Law_law (d + 11) 1836 [some (.ref (v_sb V)), some (.ref lo), some (.ref (lo + 110)), some (.int (nI i))] [] X FI AI AL P := by
  obtain ⟨h, hm, hI, hM, hW, hN⟩ := hL
  have hs := h.sh
  have hc := c_cell (V := V) (d := d + 8) (s := v_sx V (i + 1)) (i := v_sx V (i + 2)) (v := v_sx V (i + 3)) h hI hW
  refine G_aload1 1837 d_Law_law_1836 rfl ?_
  refine G_aload0 1838 d_Law_law_1837 rfl ?_
  refine G_iload3 1839 d_Law_law_1838 rfl ?_
  refine G_iconstN 1 1840 d_Law_law_1839 rfl rfl ?_
  first | refine G_iaddN 1841 d_Law_law_1840 rfl ?_ | refine G_iadd 1841 d_Law_law_1840 rfl ?_
  refine G_scald 1842 d_Law_law_1841 rfl (ix_nI (by omega) (by omega)) ?_
  refine G_aload0 1843 d_Law_law_1842 rfl ?_
  refine G_iload3 1844 d_Law_law_1843 rfl ?_
  refine G_iconstN 2 1845 d_Law_law_1844 rfl rfl ?_
  first | refine G_iaddN 1846 d_Law_law_1845 rfl ?_ | refine G_iadd 1846 d_Law_law_1845 rfl ?_
  refine G_scald 1847 d_Law_law_1846 rfl (ix_nI (by omega) (by omega)) ?_
  refine G_aload0 1848 d_Law_law_1847 rfl ?_
  refine G_iload3 1849 d_Law_law_1848 rfl ?_
  refine G_iconstN 3 1850 d_Law_law_1849 rfl rfl ?_
  first | refine G_iaddN 1851 d_Law_law_1850 rfl ?_ | refine G_iadd 1851 d_Law_law_1850 rfl ?_
  refine G_scald 1852 d_Law_law_1851 rfl (ix_nI (by omega) (by omega)) ?_
  refine G_invV3 1855 d_Law_law_1852 rfl e_Law_209 M_Alg_cell rfl hs (Nat.le_of_ble_eq_true rfl) (Nat.le_of_ble_eq_true rfl) rfl (G.conseq (hc) (fun r1852 X1852 FI1852 AI1852 AL1852 h1852 => ?_))
  obtain ⟨c1, c2, c3, c4⟩ := h1852
  subst c1
  obtain ⟨m1, m2⟩ := LI.m1 hm hM c4
  have ms := m1.1
  have hd := m_cell (V := V) (d := d + 9) (s := v_sx V (i + 1)) (i := v_sx V (i + 2)) (v := v_sx V (i + 3)) m1 m2 hW
  refine G_aload2 1856 d_Law_law_1855 rfl ?_
  refine G_aload0 1857 d_Law_law_1856 rfl ?_
  refine G_iload3 1858 d_Law_law_1857 rfl ?_
  refine G_iconstN 1 1859 d_Law_law_1858 rfl rfl ?_
  first | refine G_iaddN 1860 d_Law_law_1859 rfl ?_ | refine G_iadd 1860 d_Law_law_1859 rfl ?_
  refine G_scald 1861 d_Law_law_1860 rfl (ix_nI (by omega) (by omega)) ?_
  refine G_aload0 1862 d_Law_law_1861 rfl ?_
  refine G_iload3 1863 d_Law_law_1862 rfl ?_
  refine G_iconstN 2 1864 d_Law_law_1863 rfl rfl ?_
  first | refine G_iaddN 1865 d_Law_law_1864 rfl ?_ | refine G_iadd 1865 d_Law_law_1864 rfl ?_
  refine G_scald 1866 d_Law_law_1865 rfl (ix_nI (by omega) (by omega)) ?_
  refine G_aload0 1867 d_Law_law_1866 rfl ?_
  refine G_iload3 1868 d_Law_law_1867 rfl ?_
  refine G_iconstN 3 1869 d_Law_law_1868 rfl rfl ?_
  first | refine G_iaddN 1870 d_Law_law_1869 rfl ?_ | refine G_iadd 1870 d_Law_law_1869 rfl ?_
  refine G_scald 1871 d_Law_law_1870 rfl (ix_nI (by omega) (by omega)) ?_
  refine G_invV3 1874 d_Law_law_1871 rfl e_Law_212 M_Mod_cell rfl ms (Nat.le_of_ble_eq_true rfl) (Nat.le_of_ble_eq_true rfl) rfl (G.conseq (hd) (fun r1871 X1871 FI1871 AI1871 AL1871 h1871 => ?_))
  obtain ⟨d1, d2, d3, d4⟩ := h1871
  replace d2 := d2.symm
  subst d1 d2
  first | refine G_iceqN 2104 1877 d_Law_law_1874 rfl rfl (by omega) (by omega) (fun h1874 => ?_) (fun h1874 => ?_) | refine G_iceq 2104 1877 d_Law_law_1874 rfl rfl (fun h1874 => ?_) (fun h1874 => ?_)
  · exact k _ _ _ _ _ ⟨c2, m1, c3.fm (ws_cell hW) d4, d3, ws_cell hW, ns_cell hN⟩
  · exact absurd rfl h1874
theorem l_item {V : GV} {d lo C E i : Nat} {S : ST} {X : XT} {FI AI : FT} {AL : LT} {P : PT} (hcg : CGL) (hL : LI C E S X FI AI AL lo) (hi : i + 6 ≤ v_sn V) (hn : v_sn V ≤ 3072) (k : LK V d lo C E i P) : G V m_Law_law (d + 11) 1879 [some (.ref (v_sb V)), some (.ref lo), some (.ref (lo + 110)), some (.int (nI i))] [] X FI AI AL P := by
  obtain ⟨h, hm, hI, hM, hW, hN⟩ := hL
  have hs := h.sh
  have hc := c_item (V := V) (d := d + 8) (s := v_sx V (i + 1)) (i := v_sx V (i + 2)) h hI hW
  refine G_aload1 1880 d_Law_law_1879 rfl ?_
  refine G_aload0 1881 d_Law_law_1880 rfl ?_
  refine G_iload3 1882 d_Law_law_1881 rfl ?_
  refine G_iconstN 1 1883 d_Law_law_1882 rfl rfl ?_
  first | refine G_iaddN 1884 d_Law_law_1883 rfl ?_ | refine G_iadd 1884 d_Law_law_1883 rfl ?_
  refine G_scald 1885 d_Law_law_1884 rfl (ix_nI (by omega) (by omega)) ?_
  refine G_aload0 1886 d_Law_law_1885 rfl ?_
  refine G_iload3 1887 d_Law_law_1886 rfl ?_
  refine G_iconstN 2 1888 d_Law_law_1887 rfl rfl ?_
  first | refine G_iaddN 1889 d_Law_law_1888 rfl ?_ | refine G_iadd 1889 d_Law_law_1888 rfl ?_
  refine G_scald 1890 d_Law_law_1889 rfl (ix_nI (by omega) (by omega)) ?_
  refine G_invV2 1893 d_Law_law_1890 rfl e_Law_213 M_Alg_item rfl hs (Nat.le_of_ble_eq_true rfl) (Nat.le_of_ble_eq_true rfl) rfl (G.conseq (hc) (fun r1890 X1890 FI1890 AI1890 AL1890 h1890 => ?_))
  obtain ⟨c1, c2, c3, c4⟩ := h1890
  subst c1
  obtain ⟨m1, m2⟩ := LI.m1 hm hM c4
  have ms := m1.1
  have hd := m_item (V := V) (d := d + 9) (s := v_sx V (i + 1)) (i := v_sx V (i + 2)) m1 m2 hW
  refine G_aload2 1894 d_Law_law_1893 rfl ?_
  refine G_aload0 1895 d_Law_law_1894 rfl ?_
  refine G_iload3 1896 d_Law_law_1895 rfl ?_
  refine G_iconstN 1 1897 d_Law_law_1896 rfl rfl ?_
  first | refine G_iaddN 1898 d_Law_law_1897 rfl ?_ | refine G_iadd 1898 d_Law_law_1897 rfl ?_
  refine G_scald 1899 d_Law_law_1898 rfl (ix_nI (by omega) (by omega)) ?_
  refine G_aload0 1900 d_Law_law_1899 rfl ?_
  refine G_iload3 1901 d_Law_law_1900 rfl ?_
  refine G_iconstN 2 1902 d_Law_law_1901 rfl rfl ?_
  first | refine G_iaddN 1903 d_Law_law_1902 rfl ?_ | refine G_iadd 1903 d_Law_law_1902 rfl ?_
  refine G_scald 1904 d_Law_law_1903 rfl (ix_nI (by omega) (by omega)) ?_
  refine G_invV2 1907 d_Law_law_1904 rfl e_Law_216 M_Mod_item rfl ms (Nat.le_of_ble_eq_true rfl) (Nat.le_of_ble_eq_true rfl) rfl (G.conseq (hd) (fun r1904 X1904 FI1904 AI1904 AL1904 h1904 => ?_))
  obtain ⟨d1, d2, d3, d4⟩ := h1904
  replace d2 := d2.symm
  subst d1 d2
  rw [id_item] at c3
  rw [id_item] at d3
  refine G_lceq 2104 1911 d_Law_law_1907 d_Law_law_1908 rfl rfl (fun h1907 => ?_) (fun h1907 => ?_)
  · exact k _ _ _ _ _ ⟨c2, m1, c3.fm hW d4, d3, hW, hN⟩
  · exact absurd rfl h1907
theorem l_move {V : GV} {d lo C E i : Nat} {S : ST} {X : XT} {FI AI : FT} {AL : LT} {P : PT} (hcg : CGL) (hL : LI C E S X FI AI AL lo) (hi : i + 6 ≤ v_sn V) (hn : v_sn V ≤ 3072) (k : LK V d lo C E i P) : G V m_Law_law (d + 11) 1913 [some (.ref (v_sb V)), some (.ref lo), some (.ref (lo + 110)), some (.int (nI i))] [] X FI AI AL P := by
  obtain ⟨h, hm, hI, hM, hW, hN⟩ := hL
  have hs := h.sh
  have hc := c_move (V := V) (d := d + 8) (a := v_sx V (i + 1)) (i := v_sx V (i + 2)) (c := v_sx V (i + 3)) (j := v_sx V (i + 4)) (m := v_sx V (i + 5)) h hI hW
  refine G_aload1 1914 d_Law_law_1913 rfl ?_
  refine G_aload0 1915 d_Law_law_1914 rfl ?_
  refine G_iload3 1916 d_Law_law_1915 rfl ?_
  refine G_iconstN 1 1917 d_Law_law_1916 rfl rfl ?_
  first | refine G_iaddN 1918 d_Law_law_1917 rfl ?_ | refine G_iadd 1918 d_Law_law_1917 rfl ?_
  refine G_scald 1919 d_Law_law_1918 rfl (ix_nI (by omega) (by omega)) ?_
  refine G_aload0 1920 d_Law_law_1919 rfl ?_
  refine G_iload3 1921 d_Law_law_1920 rfl ?_
  refine G_iconstN 2 1922 d_Law_law_1921 rfl rfl ?_
  first | refine G_iaddN 1923 d_Law_law_1922 rfl ?_ | refine G_iadd 1923 d_Law_law_1922 rfl ?_
  refine G_scald 1924 d_Law_law_1923 rfl (ix_nI (by omega) (by omega)) ?_
  refine G_aload0 1925 d_Law_law_1924 rfl ?_
  refine G_iload3 1926 d_Law_law_1925 rfl ?_
  refine G_iconstN 3 1927 d_Law_law_1926 rfl rfl ?_
  first | refine G_iaddN 1928 d_Law_law_1927 rfl ?_ | refine G_iadd 1928 d_Law_law_1927 rfl ?_
  refine G_scald 1929 d_Law_law_1928 rfl (ix_nI (by omega) (by omega)) ?_
  refine G_aload0 1930 d_Law_law_1929 rfl ?_
  refine G_iload3 1931 d_Law_law_1930 rfl ?_
  refine G_iconstN 4 1932 d_Law_law_1931 rfl rfl ?_
  first | refine G_iaddN 1933 d_Law_law_1932 rfl ?_ | refine G_iadd 1933 d_Law_law_1932 rfl ?_
  refine G_scald 1934 d_Law_law_1933 rfl (ix_nI (by omega) (by omega)) ?_
  refine G_aload0 1935 d_Law_law_1934 rfl ?_
  refine G_iload3 1936 d_Law_law_1935 rfl ?_
  refine G_iconstN 5 1937 d_Law_law_1936 rfl rfl ?_
  first | refine G_iaddN 1938 d_Law_law_1937 rfl ?_ | refine G_iadd 1938 d_Law_law_1937 rfl ?_
  refine G_scald 1939 d_Law_law_1938 rfl (ix_nI (by omega) (by omega)) ?_
  refine G_invV5 1942 d_Law_law_1939 rfl e_Law_217 M_Alg_move rfl hs (Nat.le_of_ble_eq_true rfl) (Nat.le_of_ble_eq_true rfl) rfl (G.conseq (hc) (fun r1939 X1939 FI1939 AI1939 AL1939 h1939 => ?_))
  obtain ⟨c1, c2, c3, c4⟩ := h1939
  subst c1
  obtain ⟨m1, m2⟩ := LI.m1 hm hM c4
  have ms := m1.1
  have hd := m_move (V := V) (d := d + 9) (a := v_sx V (i + 1)) (i := v_sx V (i + 2)) (c := v_sx V (i + 3)) (j := v_sx V (i + 4)) (m := v_sx V (i + 5)) m1 m2 hW
  refine G_aload2 1943 d_Law_law_1942 rfl ?_
  refine G_aload0 1944 d_Law_law_1943 rfl ?_
  refine G_iload3 1945 d_Law_law_1944 rfl ?_
  refine G_iconstN 1 1946 d_Law_law_1945 rfl rfl ?_
  first | refine G_iaddN 1947 d_Law_law_1946 rfl ?_ | refine G_iadd 1947 d_Law_law_1946 rfl ?_
  refine G_scald 1948 d_Law_law_1947 rfl (ix_nI (by omega) (by omega)) ?_
  refine G_aload0 1949 d_Law_law_1948 rfl ?_
  refine G_iload3 1950 d_Law_law_1949 rfl ?_
  refine G_iconstN 2 1951 d_Law_law_1950 rfl rfl ?_
  first | refine G_iaddN 1952 d_Law_law_1951 rfl ?_ | refine G_iadd 1952 d_Law_law_1951 rfl ?_
  refine G_scald 1953 d_Law_law_1952 rfl (ix_nI (by omega) (by omega)) ?_
  refine G_aload0 1954 d_Law_law_1953 rfl ?_
  refine G_iload3 1955 d_Law_law_1954 rfl ?_
  refine G_iconstN 3 1956 d_Law_law_1955 rfl rfl ?_
  first | refine G_iaddN 1957 d_Law_law_1956 rfl ?_ | refine G_iadd 1957 d_Law_law_1956 rfl ?_
  refine G_scald 1958 d_Law_law_1957 rfl (ix_nI (by omega) (by omega)) ?_
  refine G_aload0 1959 d_Law_law_1958 rfl ?_
  refine G_iload3 1960 d_Law_law_1959 rfl ?_
  refine G_iconstN 4 1961 d_Law_law_1960 rfl rfl ?_
  first | refine G_iaddN 1962 d_Law_law_1961 rfl ?_ | refine G_iadd 1962 d_Law_law_1961 rfl ?_
  refine G_scald 1963 d_Law_law_1962 rfl (ix_nI (by omega) (by omega)) ?_
  refine G_aload0 1964 d_Law_law_1963 rfl ?_
  refine G_iload3 1965 d_Law_law_1964 rfl ?_
  refine G_iconstN 5 1966 d_Law_law_1965 rfl rfl ?_
  first | refine G_iaddN 1967 d_Law_law_1966 rfl ?_ | refine G_iadd 1967 d_Law_law_1966 rfl ?_
  refine G_scald 1968 d_Law_law_1967 rfl (ix_nI (by omega) (by omega)) ?_
  refine G_invV5 1971 d_Law_law_1968 rfl e_Law_220 M_Mod_move rfl ms (Nat.le_of_ble_eq_true rfl) (Nat.le_of_ble_eq_true rfl) rfl (G.conseq (hd) (fun r1968 X1968 FI1968 AI1968 AL1968 h1968 => ?_))
  obtain ⟨d1, d2, d3, d4⟩ := h1968
  replace d2 := d2.symm
  subst d1 d2
  first | refine G_iceqN 2104 1974 d_Law_law_1971 rfl rfl (by omega) (by omega) (fun h1971 => ?_) (fun h1971 => ?_) | refine G_iceq 2104 1974 d_Law_law_1971 rfl rfl (fun h1971 => ?_) (fun h1971 => ?_)
  · exact k _ _ _ _ _ ⟨c2, m1, c3.fm (ws_move hW) d4, d3, ws_move hW, ns_move hN⟩
  · exact absurd rfl h1971
theorem l_link {V : GV} {d lo C E i : Nat} {S : ST} {X : XT} {FI AI : FT} {AL : LT} {P : PT} (hcg : CGL) (hL : LI C E S X FI AI AL lo) (hi : i + 6 ≤ v_sn V) (hn : v_sn V ≤ 3072) (k : LK V d lo C E i P) : G V m_Law_law (d + 11) 1976 [some (.ref (v_sb V)), some (.ref lo), some (.ref (lo + 110)), some (.int (nI i))] [] X FI AI AL P := by
  obtain ⟨h, hm, hI, hM, hW, hN⟩ := hL
  have hs := h.sh
  have hc := c_link (V := V) (d := d + 8) (x := v_sx V (i + 1)) (n := v_sx V (i + 2)) h hI hW
  refine G_aload1 1977 d_Law_law_1976 rfl ?_
  refine G_aload0 1978 d_Law_law_1977 rfl ?_
  refine G_iload3 1979 d_Law_law_1978 rfl ?_
  refine G_iconstN 1 1980 d_Law_law_1979 rfl rfl ?_
  first | refine G_iaddN 1981 d_Law_law_1980 rfl ?_ | refine G_iadd 1981 d_Law_law_1980 rfl ?_
  refine G_scald 1982 d_Law_law_1981 rfl (ix_nI (by omega) (by omega)) ?_
  refine G_aload0 1983 d_Law_law_1982 rfl ?_
  refine G_iload3 1984 d_Law_law_1983 rfl ?_
  refine G_iconstN 2 1985 d_Law_law_1984 rfl rfl ?_
  first | refine G_iaddN 1986 d_Law_law_1985 rfl ?_ | refine G_iadd 1986 d_Law_law_1985 rfl ?_
  refine G_scald 1987 d_Law_law_1986 rfl (ix_nI (by omega) (by omega)) ?_
  refine G_invV2 1990 d_Law_law_1987 rfl e_Law_221 M_Alg_link rfl hs (Nat.le_of_ble_eq_true rfl) (Nat.le_of_ble_eq_true rfl) rfl (G.conseq (hc) (fun r1987 X1987 FI1987 AI1987 AL1987 h1987 => ?_))
  obtain ⟨c1, c2, c3, c4⟩ := h1987
  subst c1
  obtain ⟨m1, m2⟩ := LI.m1 hm hM c4
  have ms := m1.1
  have hd := m_link (V := V) (d := d + 8) (x := v_sx V (i + 1)) (n := v_sx V (i + 2)) m1 m2 hW
  refine G_aload2 1991 d_Law_law_1990 rfl ?_
  refine G_aload0 1992 d_Law_law_1991 rfl ?_
  refine G_iload3 1993 d_Law_law_1992 rfl ?_
  refine G_iconstN 1 1994 d_Law_law_1993 rfl rfl ?_
  first | refine G_iaddN 1995 d_Law_law_1994 rfl ?_ | refine G_iadd 1995 d_Law_law_1994 rfl ?_
  refine G_scald 1996 d_Law_law_1995 rfl (ix_nI (by omega) (by omega)) ?_
  refine G_aload0 1997 d_Law_law_1996 rfl ?_
  refine G_iload3 1998 d_Law_law_1997 rfl ?_
  refine G_iconstN 2 1999 d_Law_law_1998 rfl rfl ?_
  first | refine G_iaddN 2000 d_Law_law_1999 rfl ?_ | refine G_iadd 2000 d_Law_law_1999 rfl ?_
  refine G_scald 2001 d_Law_law_2000 rfl (ix_nI (by omega) (by omega)) ?_
  refine G_invV2 2004 d_Law_law_2001 rfl e_Law_224 M_Mod_link rfl ms (Nat.le_of_ble_eq_true rfl) (Nat.le_of_ble_eq_true rfl) rfl (G.conseq (hd) (fun r2001 X2001 FI2001 AI2001 AL2001 h2001 => ?_))
  obtain ⟨d1, d2, d3, d4⟩ := h2001
  replace d2 := d2.symm
  subst d1 d2
  first | refine G_iceqN 2104 2007 d_Law_law_2004 rfl rfl (by omega) (by omega) (fun h2004 => ?_) (fun h2004 => ?_) | refine G_iceq 2104 2007 d_Law_law_2004 rfl rfl (fun h2004 => ?_) (fun h2004 => ?_)
  · exact k _ _ _ _ _ ⟨c2, m1, c3.fm (ws_link hW) d4, d3, ws_link hW, ns_link hN hW⟩
  · exact absurd rfl h2004
theorem l_run {V : GV} {d lo C E i : Nat} {S : ST} {X : XT} {FI AI : FT} {AL : LT} {P : PT} (hcg : CGL) (hL : LI C E S X FI AI AL lo) (hi : i + 6 ≤ v_sn V) (hn : v_sn V ≤ 3072) (k : LK V d lo C E i P) : G V m_Law_law (d + 11) 2009 [some (.ref (v_sb V)), some (.ref lo), some (.ref (lo + 110)), some (.int (nI i))] [] X FI AI AL P := by
  obtain ⟨h, hm, hI, hM, hW, hN⟩ := hL
  have hs := h.sh
  have hc := c_run (V := V) (d := d + 4) (s := v_sx V (i + 1)) (t := v_sx V (i + 2)) h hI hW hN
  refine G_aload1 2010 d_Law_law_2009 rfl ?_
  refine G_aload0 2011 d_Law_law_2010 rfl ?_
  refine G_iload3 2012 d_Law_law_2011 rfl ?_
  refine G_iconstN 1 2013 d_Law_law_2012 rfl rfl ?_
  first | refine G_iaddN 2014 d_Law_law_2013 rfl ?_ | refine G_iadd 2014 d_Law_law_2013 rfl ?_
  refine G_scald 2015 d_Law_law_2014 rfl (ix_nI (by omega) (by omega)) ?_
  refine G_aload0 2016 d_Law_law_2015 rfl ?_
  refine G_iload3 2017 d_Law_law_2016 rfl ?_
  refine G_iconstN 2 2018 d_Law_law_2017 rfl rfl ?_
  first | refine G_iaddN 2019 d_Law_law_2018 rfl ?_ | refine G_iadd 2019 d_Law_law_2018 rfl ?_
  refine G_scald 2020 d_Law_law_2019 rfl (ix_nI (by omega) (by omega)) ?_
  refine G_invV2 2023 d_Law_law_2020 rfl e_Law_225 M_Alg_run rfl hs (Nat.le_of_ble_eq_true rfl) (Nat.le_of_ble_eq_true rfl) rfl (G.conseq (hc) (fun r2020 X2020 FI2020 AI2020 AL2020 h2020 => ?_))
  obtain ⟨c1, c2, c3, c4⟩ := h2020
  subst c1
  obtain ⟨m1, m2⟩ := LI.m1 hm hM c4
  have ms := m1.1
  have hd := m_run (V := V) (d := d + 2) (s := v_sx V (i + 1)) (w := v_sx V (i + 2)) m1 m2 hW
  refine G_aload2 2024 d_Law_law_2023 rfl ?_
  refine G_aload0 2025 d_Law_law_2024 rfl ?_
  refine G_iload3 2026 d_Law_law_2025 rfl ?_
  refine G_iconstN 1 2027 d_Law_law_2026 rfl rfl ?_
  first | refine G_iaddN 2028 d_Law_law_2027 rfl ?_ | refine G_iadd 2028 d_Law_law_2027 rfl ?_
  refine G_scald 2029 d_Law_law_2028 rfl (ix_nI (by omega) (by omega)) ?_
  refine G_aload0 2030 d_Law_law_2029 rfl ?_
  refine G_iload3 2031 d_Law_law_2030 rfl ?_
  refine G_iconstN 2 2032 d_Law_law_2031 rfl rfl ?_
  first | refine G_iaddN 2033 d_Law_law_2032 rfl ?_ | refine G_iadd 2033 d_Law_law_2032 rfl ?_
  refine G_scald 2034 d_Law_law_2033 rfl (ix_nI (by omega) (by omega)) ?_
  refine G_invV2 2037 d_Law_law_2034 rfl e_Law_228 M_Mod_run rfl ms (Nat.le_of_ble_eq_true rfl) (Nat.le_of_ble_eq_true rfl) rfl (G.conseq (hd) (fun r2034 X2034 FI2034 AI2034 AL2034 h2034 => ?_))
  obtain ⟨d1, d2, d3, d4⟩ := h2034
  replace d2 := d2.symm
  subst d1 d2
  first | refine G_iceqN 2104 2040 d_Law_law_2037 rfl rfl (by omega) (by omega) (fun h2037 => ?_) (fun h2037 => ?_) | refine G_iceq 2104 2040 d_Law_law_2037 rfl rfl (fun h2037 => ?_) (fun h2037 => ?_)
  · exact k _ _ _ _ _ ⟨c2, m1, c3.fm (ws_run hW) d4, d3, ws_run hW, ns_run hN hW⟩
  · exact absurd rfl h2037
theorem l_loosen {V : GV} {d lo C E i : Nat} {S : ST} {X : XT} {FI AI : FT} {AL : LT} {P : PT} (hcg : CGL) (hL : LI C E S X FI AI AL lo) (hi : i + 6 ≤ v_sn V) (hn : v_sn V ≤ 3072) (k : LK V d lo C E i P) : G V m_Law_law (d + 11) 2042 [some (.ref (v_sb V)), some (.ref lo), some (.ref (lo + 110)), some (.int (nI i))] [] X FI AI AL P := by
  obtain ⟨h, hm, hI, hM, hW, hN⟩ := hL
  have hs := h.sh
  have hc := c_loosen (V := V) (d := d + 9)  h hI hW
  refine G_aload1 2043 d_Law_law_2042 rfl ?_
  refine G_invV0 2046 d_Law_law_2043 rfl e_Law_229 M_Alg_loosen rfl hs (Nat.le_of_ble_eq_true rfl) (Nat.le_of_ble_eq_true rfl) rfl (G.conseq (hc) (fun r2043 X2043 FI2043 AI2043 AL2043 h2043 => ?_))
  obtain ⟨c1, c2, c3, c4⟩ := h2043
  subst c1
  obtain ⟨m1, m2⟩ := LI.m1 hm hM c4
  have ms := m1.1
  have hd := m_loosen (V := V) (d := d + 10)  m1 m2 hW
  refine G_aload2 2047 d_Law_law_2046 rfl ?_
  refine G_invV0 2050 d_Law_law_2047 rfl e_Law_232 M_Mod_loosen rfl ms (Nat.le_of_ble_eq_true rfl) (Nat.le_of_ble_eq_true rfl) rfl (G.conseq (hd) (fun r2047 X2047 FI2047 AI2047 AL2047 h2047 => ?_))
  obtain ⟨d1, d2, d3, d4⟩ := h2047
  replace d2 := d2.symm
  subst d1 d2
  first | refine G_iceqN 2104 2053 d_Law_law_2050 rfl rfl (by omega) (by omega) (fun h2050 => ?_) (fun h2050 => ?_) | refine G_iceq 2104 2053 d_Law_law_2050 rfl rfl (fun h2050 => ?_) (fun h2050 => ?_)
  · exact k _ _ _ _ _ ⟨c2, m1, c3.fm (ws_loosen hW) d4, d3, ws_loosen hW, ns_loosen hN⟩
  · exact absurd rfl h2050
theorem l_keep {V : GV} {d lo C E i : Nat} {S : ST} {X : XT} {FI AI : FT} {AL : LT} {P : PT} (hcg : CGL) (hL : LI C E S X FI AI AL lo) (hi : i + 6 ≤ v_sn V) (hn : v_sn V ≤ 3072) (k : LK V d lo C E i P) : G V m_Law_law (d + 11) 2055 [some (.ref (v_sb V)), some (.ref lo), some (.ref (lo + 110)), some (.int (nI i))] [] X FI AI AL P := by
  obtain ⟨h, hm, hI, hM, hW, hN⟩ := hL
  have hs := h.sh
  have hc := c_keep (V := V) (d := d + 6)  h hI hW
  refine G_aload1 2056 d_Law_law_2055 rfl ?_
  refine G_invV0 2059 d_Law_law_2056 rfl e_Law_233 M_Alg_keep rfl hs (Nat.le_of_ble_eq_true rfl) (Nat.le_of_ble_eq_true rfl) rfl (G.conseq (hc) (fun r2056 X2056 FI2056 AI2056 AL2056 h2056 => ?_))
  obtain ⟨c1, c2, c3, c4⟩ := h2056
  subst c1
  obtain ⟨m1, m2⟩ := LI.m1 hm hM c4
  have ms := m1.1
  have hd := m_keep (V := V) (d := d + 9)  m1 m2 hW
  refine G_aload2 2060 d_Law_law_2059 rfl ?_
  refine G_invV0 2063 d_Law_law_2060 rfl e_Law_236 M_Mod_keep rfl ms (Nat.le_of_ble_eq_true rfl) (Nat.le_of_ble_eq_true rfl) rfl (G.conseq (hd) (fun r2060 X2060 FI2060 AI2060 AL2060 h2060 => ?_))
  obtain ⟨d1, d2, d3, d4⟩ := h2060
  replace d2 := d2.symm
  subst d1 d2
  first | refine G_iceqN 2104 2066 d_Law_law_2063 rfl rfl (by omega) (by omega) (fun h2063 => ?_) (fun h2063 => ?_) | refine G_iceq 2104 2066 d_Law_law_2063 rfl rfl (fun h2063 => ?_) (fun h2063 => ?_)
  · exact k _ _ _ _ _ ⟨c2, m1, c3.fm (ws_keep hW) d4, d3, ws_keep hW, ns_keep hN⟩
  · exact absurd rfl h2063
theorem l_back {V : GV} {d lo C E i : Nat} {S : ST} {X : XT} {FI AI : FT} {AL : LT} {P : PT} (hcg : CGL) (hL : LI C E S X FI AI AL lo) (hi : i + 6 ≤ v_sn V) (hn : v_sn V ≤ 3072) (k : LK V d lo C E i P) : G V m_Law_law (d + 11) 2068 [some (.ref (v_sb V)), some (.ref lo), some (.ref (lo + 110)), some (.int (nI i))] [] X FI AI AL P := by
  obtain ⟨h, hm, hI, hM, hW, hN⟩ := hL
  have hs := h.sh
  have hc := c_back (V := V) (d := d + 5)  h hI hW
  refine G_aload1 2069 d_Law_law_2068 rfl ?_
  refine G_invV0 2072 d_Law_law_2069 rfl e_Law_237 M_Alg_back rfl hs (Nat.le_of_ble_eq_true rfl) (Nat.le_of_ble_eq_true rfl) rfl (G.conseq (hc) (fun r2069 X2069 FI2069 AI2069 AL2069 h2069 => ?_))
  obtain ⟨c1, c2, c3, c4⟩ := h2069
  subst c1
  obtain ⟨m1, m2⟩ := LI.m1 hm hM c4
  have ms := m1.1
  have hd := m_back (V := V) (d := d + 7)  m1 m2 hW
  refine G_aload2 2073 d_Law_law_2072 rfl ?_
  refine G_invV0 2076 d_Law_law_2073 rfl e_Law_240 M_Mod_back rfl ms (Nat.le_of_ble_eq_true rfl) (Nat.le_of_ble_eq_true rfl) rfl (G.conseq (hd) (fun r2073 X2073 FI2073 AI2073 AL2073 h2073 => ?_))
  obtain ⟨d1, d2, d3, d4⟩ := h2073
  replace d2 := d2.symm
  subst d1 d2
  first | refine G_iceqN 2104 2079 d_Law_law_2076 rfl rfl (by omega) (by omega) (fun h2076 => ?_) (fun h2076 => ?_) | refine G_iceq 2104 2079 d_Law_law_2076 rfl rfl (fun h2076 => ?_) (fun h2076 => ?_)
  · exact k _ _ _ _ _ ⟨c2, m1, c3.fm (ws_back hW) d4, d3, ws_back hW, ns_back hN⟩
  · exact absurd rfl h2076
theorem l_count {V : GV} {d lo C E i : Nat} {S : ST} {X : XT} {FI AI : FT} {AL : LT} {P : PT} (hcg : CGL) (hL : LI C E S X FI AI AL lo) (hi : i + 6 ≤ v_sn V) (hn : v_sn V ≤ 3072) (k : LK V d lo C E i P) : G V m_Law_law (d + 11) 2081 [some (.ref (v_sb V)), some (.ref lo), some (.ref (lo + 110)), some (.int (nI i))] [] X FI AI AL P := by
  obtain ⟨h, hm, hI, hM, hW, hN⟩ := hL
  have hs := h.sh
  have hc := c_count (V := V) (d := d + 7) (x := v_sx V (i + 1)) h hI hW
  refine G_aload1 2082 d_Law_law_2081 rfl ?_
  refine G_aload0 2083 d_Law_law_2082 rfl ?_
  refine G_iload3 2084 d_Law_law_2083 rfl ?_
  refine G_iconstN 1 2085 d_Law_law_2084 rfl rfl ?_
  first | refine G_iaddN 2086 d_Law_law_2085 rfl ?_ | refine G_iadd 2086 d_Law_law_2085 rfl ?_
  refine G_scald 2087 d_Law_law_2086 rfl (ix_nI (by omega) (by omega)) ?_
  refine G_invV1 2090 d_Law_law_2087 rfl e_Law_241 M_Alg_count rfl hs (Nat.le_of_ble_eq_true rfl) (Nat.le_of_ble_eq_true rfl) rfl (G.conseq (hc) (fun r2087 X2087 FI2087 AI2087 AL2087 h2087 => ?_))
  obtain ⟨c1, c2, c3, c4⟩ := h2087
  subst c1
  obtain ⟨m1, m2⟩ := LI.m1 hm hM c4
  have ms := m1.1
  have hd := m_count (V := V) (d := d + 9) (x := v_sx V (i + 1)) m1 m2 hW
  refine G_aload2 2091 d_Law_law_2090 rfl ?_
  refine G_aload0 2092 d_Law_law_2091 rfl ?_
  refine G_iload3 2093 d_Law_law_2092 rfl ?_
  refine G_iconstN 1 2094 d_Law_law_2093 rfl rfl ?_
  first | refine G_iaddN 2095 d_Law_law_2094 rfl ?_ | refine G_iadd 2095 d_Law_law_2094 rfl ?_
  refine G_scald 2096 d_Law_law_2095 rfl (ix_nI (by omega) (by omega)) ?_
  refine G_invV1 2099 d_Law_law_2096 rfl e_Law_244 M_Mod_count rfl ms (Nat.le_of_ble_eq_true rfl) (Nat.le_of_ble_eq_true rfl) rfl (G.conseq (hd) (fun r2096 X2096 FI2096 AI2096 AL2096 h2096 => ?_))
  obtain ⟨d1, d2, d3, d4⟩ := h2096
  replace d2 := d2.symm
  subst d1 d2
  rw [id_count] at c3
  rw [id_count] at d3
  first | refine G_iceqN 2104 2102 d_Law_law_2099 rfl rfl (by omega) (by omega) (fun h2099 => ?_) (fun h2099 => ?_) | refine G_iceq 2104 2102 d_Law_law_2099 rfl rfl (fun h2099 => ?_) (fun h2099 => ?_)
  · exact k _ _ _ _ _ ⟨c2, m1, c3.fm hW d4, d3, hW, hN⟩
  · exact absurd rfl h2099

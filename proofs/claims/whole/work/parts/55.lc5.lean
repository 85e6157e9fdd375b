theorem dL_law_1684 : decode cL_law 1684 = .ok (.aload_n 1, 1) := by decide +kernel
theorem dL_law_1685 : decode cL_law 1685 = .ok (.aload_n 0, 1) := by decide +kernel
theorem dL_law_1686 : decode cL_law 1686 = .ok (.iload 5, 2) := by decide +kernel
theorem dL_law_1688 : decode cL_law 1688 = .ok (.iconst 1, 1) := by decide +kernel
theorem dL_law_1689 : decode cL_law 1689 = .ok (.iadd, 1) := by decide +kernel
theorem dL_law_1690 : decode cL_law 1690 = .ok (.iaload, 1) := by decide +kernel
theorem dL_law_1691 : decode cL_law 1691 = .ok (.aload_n 0, 1) := by decide +kernel
theorem dL_law_1692 : decode cL_law 1692 = .ok (.iload 5, 2) := by decide +kernel
theorem dL_law_1694 : decode cL_law 1694 = .ok (.iconst 2, 1) := by decide +kernel
theorem dL_law_1695 : decode cL_law 1695 = .ok (.iadd, 1) := by decide +kernel
theorem dL_law_1696 : decode cL_law 1696 = .ok (.iaload, 1) := by decide +kernel
theorem dL_law_1697 : decode cL_law 1697 = .ok (.aload_n 0, 1) := by decide +kernel
theorem dL_law_1698 : decode cL_law 1698 = .ok (.iload 5, 2) := by decide +kernel
theorem dL_law_1700 : decode cL_law 1700 = .ok (.iconst 3, 1) := by decide +kernel
theorem dL_law_1701 : decode cL_law 1701 = .ok (.iadd, 1) := by decide +kernel
theorem dL_law_1702 : decode cL_law 1702 = .ok (.iaload, 1) := by decide +kernel
theorem dL_law_1703 : decode cL_law 1703 = .ok (.aload_n 3, 1) := by decide +kernel
theorem dL_law_1704 : decode cL_law 1704 = .ok (.invokestatic 199, 3) := by decide +kernel
theorem dL_law_1707 : decode cL_law 1707 = .ok (.istore 6, 2) := by decide +kernel
theorem dL_law_1709 : decode cL_law 1709 = .ok (.aload_n 2, 1) := by decide +kernel
theorem dL_law_1710 : decode cL_law 1710 = .ok (.aload_n 0, 1) := by decide +kernel
theorem dL_law_1711 : decode cL_law 1711 = .ok (.iload 5, 2) := by decide +kernel
theorem dL_law_1713 : decode cL_law 1713 = .ok (.iconst 1, 1) := by decide +kernel
theorem dL_law_1714 : decode cL_law 1714 = .ok (.iadd, 1) := by decide +kernel
theorem dL_law_1715 : decode cL_law 1715 = .ok (.iaload, 1) := by decide +kernel
theorem dL_law_1716 : decode cL_law 1716 = .ok (.aload_n 0, 1) := by decide +kernel
theorem dL_law_1717 : decode cL_law 1717 = .ok (.iload 5, 2) := by decide +kernel
theorem dL_law_1719 : decode cL_law 1719 = .ok (.iconst 2, 1) := by decide +kernel
theorem dL_law_1720 : decode cL_law 1720 = .ok (.iadd, 1) := by decide +kernel
theorem dL_law_1721 : decode cL_law 1721 = .ok (.iaload, 1) := by decide +kernel
theorem dL_law_1722 : decode cL_law 1722 = .ok (.aload_n 0, 1) := by decide +kernel
theorem dL_law_1723 : decode cL_law 1723 = .ok (.iload 5, 2) := by decide +kernel
theorem dL_law_1725 : decode cL_law 1725 = .ok (.iconst 3, 1) := by decide +kernel
theorem dL_law_1726 : decode cL_law 1726 = .ok (.iadd, 1) := by decide +kernel
theorem dL_law_1727 : decode cL_law 1727 = .ok (.iaload, 1) := by decide +kernel
theorem dL_law_1728 : decode cL_law 1728 = .ok (.invokevirtual 201, 3) := by decide +kernel
theorem dL_law_1731 : decode cL_law 1731 = .ok (.istore 7, 2) := by decide +kernel
theorem dL_law_1733 : decode cL_law 1733 = .ok (.aload_n 2, 1) := by decide +kernel
theorem dL_law_1734 : decode cL_law 1734 = .ok (.invokevirtual 128, 3) := by decide +kernel
theorem dL_law_1737 : decode cL_law 1737 = .ok (.iload 6, 2) := by decide +kernel
theorem dL_law_1739 : decode cL_law 1739 = .ok (.if_icmp .eq 5, 3) := by decide +kernel
theorem dL_law_1744 : decode cL_law 1744 = .ok (.iload 6, 2) := by decide +kernel
theorem dL_law_1746 : decode cL_law 1746 = .ok (.ifCond .ne 15, 3) := by decide +kernel
theorem dL_law_1749 : decode cL_law 1749 = .ok (.aload_n 3, 1) := by decide +kernel
theorem dL_law_1750 : decode cL_law 1750 = .ok (.iconst 0, 1) := by decide +kernel
theorem dL_law_1751 : decode cL_law 1751 = .ok (.laload, 1) := by decide +kernel
theorem dL_law_1752 : decode cL_law 1752 = .ok (.iload 7, 2) := by decide +kernel
theorem dL_law_1754 : decode cL_law 1754 = .ok (.i2l, 1) := by decide +kernel
theorem dL_law_1755 : decode cL_law 1755 = .ok (.lcmp, 1) := by decide +kernel
theorem dL_law_1756 : decode cL_law 1756 = .ok (.ifCond .eq 5, 3) := by decide +kernel
theorem dL_law_1761 : decode cL_law 1761 = .ok (.goto 524, 3) := by decide +kernel
theorem dL_law_1764 : decode cL_law 1764 = .ok (.aload_n 1, 1) := by decide +kernel
theorem dL_law_1765 : decode cL_law 1765 = .ok (.aload_n 0, 1) := by decide +kernel
theorem dL_law_1766 : decode cL_law 1766 = .ok (.iload 5, 2) := by decide +kernel
theorem dL_law_1768 : decode cL_law 1768 = .ok (.iconst 1, 1) := by decide +kernel
theorem dL_law_1769 : decode cL_law 1769 = .ok (.iadd, 1) := by decide +kernel
theorem dL_law_1770 : decode cL_law 1770 = .ok (.iaload, 1) := by decide +kernel
theorem dL_law_1771 : decode cL_law 1771 = .ok (.aload_n 0, 1) := by decide +kernel
theorem dL_law_1772 : decode cL_law 1772 = .ok (.iload 5, 2) := by decide +kernel
theorem dL_law_1774 : decode cL_law 1774 = .ok (.iconst 2, 1) := by decide +kernel
theorem dL_law_1775 : decode cL_law 1775 = .ok (.iadd, 1) := by decide +kernel
theorem dL_law_1776 : decode cL_law 1776 = .ok (.iaload, 1) := by decide +kernel
theorem dL_law_1777 : decode cL_law 1777 = .ok (.i2c, 1) := by decide +kernel
theorem dL_law_1778 : decode cL_law 1778 = .ok (.aload_n 3, 1) := by decide +kernel
theorem dL_law_1779 : decode cL_law 1779 = .ok (.invokestatic 202, 3) := by decide +kernel
theorem dL_law_1782 : decode cL_law 1782 = .ok (.istore 6, 2) := by decide +kernel
theorem dL_law_1784 : decode cL_law 1784 = .ok (.aload_n 2, 1) := by decide +kernel
theorem dL_law_1785 : decode cL_law 1785 = .ok (.aload_n 0, 1) := by decide +kernel
theorem dL_law_1786 : decode cL_law 1786 = .ok (.iload 5, 2) := by decide +kernel
theorem dL_law_1788 : decode cL_law 1788 = .ok (.iconst 1, 1) := by decide +kernel
theorem dL_law_1789 : decode cL_law 1789 = .ok (.iadd, 1) := by decide +kernel
theorem dL_law_1790 : decode cL_law 1790 = .ok (.iaload, 1) := by decide +kernel
theorem dL_law_1791 : decode cL_law 1791 = .ok (.aload_n 0, 1) := by decide +kernel
theorem dL_law_1792 : decode cL_law 1792 = .ok (.iload 5, 2) := by decide +kernel
theorem dL_law_1794 : decode cL_law 1794 = .ok (.iconst 2, 1) := by decide +kernel
theorem dL_law_1795 : decode cL_law 1795 = .ok (.iadd, 1) := by decide +kernel
theorem dL_law_1796 : decode cL_law 1796 = .ok (.iaload, 1) := by decide +kernel
theorem dL_law_1797 : decode cL_law 1797 = .ok (.i2c, 1) := by decide +kernel
theorem dL_law_1798 : decode cL_law 1798 = .ok (.invokevirtual 204, 3) := by decide +kernel
theorem dL_law_1801 : decode cL_law 1801 = .ok (.istore 7, 2) := by decide +kernel
theorem dL_law_1803 : decode cL_law 1803 = .ok (.aload_n 2, 1) := by decide +kernel
theorem dL_law_1804 : decode cL_law 1804 = .ok (.invokevirtual 128, 3) := by decide +kernel
theorem dL_law_1807 : decode cL_law 1807 = .ok (.iload 6, 2) := by decide +kernel
theorem dL_law_1809 : decode cL_law 1809 = .ok (.if_icmp .eq 5, 3) := by decide +kernel
theorem dL_law_1814 : decode cL_law 1814 = .ok (.iload 6, 2) := by decide +kernel
theorem dL_law_1816 : decode cL_law 1816 = .ok (.ifCond .ne 15, 3) := by decide +kernel
theorem dL_law_1819 : decode cL_law 1819 = .ok (.aload_n 3, 1) := by decide +kernel
theorem dL_law_1820 : decode cL_law 1820 = .ok (.iconst 0, 1) := by decide +kernel
theorem dL_law_1821 : decode cL_law 1821 = .ok (.laload, 1) := by decide +kernel
theorem dL_law_1822 : decode cL_law 1822 = .ok (.iload 7, 2) := by decide +kernel
theorem dL_law_1824 : decode cL_law 1824 = .ok (.i2l, 1) := by decide +kernel
theorem dL_law_1825 : decode cL_law 1825 = .ok (.lcmp, 1) := by decide +kernel
theorem dL_law_1826 : decode cL_law 1826 = .ok (.ifCond .eq 5, 3) := by decide +kernel
theorem dL_law_1831 : decode cL_law 1831 = .ok (.goto 454, 3) := by decide +kernel
theorem dL_law_1834 : decode cL_law 1834 = .ok (.aload_n 1, 1) := by decide +kernel
theorem dL_law_1835 : decode cL_law 1835 = .ok (.aload_n 0, 1) := by decide +kernel
theorem dL_law_1836 : decode cL_law 1836 = .ok (.iload 5, 2) := by decide +kernel
theorem dL_law_1838 : decode cL_law 1838 = .ok (.iconst 1, 1) := by decide +kernel
theorem dL_law_1839 : decode cL_law 1839 = .ok (.iadd, 1) := by decide +kernel
theorem dL_law_1840 : decode cL_law 1840 = .ok (.iaload, 1) := by decide +kernel
theorem dL_law_1841 : decode cL_law 1841 = .ok (.aload_n 3, 1) := by decide +kernel
theorem dL_law_1842 : decode cL_law 1842 = .ok (.invokestatic 205, 3) := by decide +kernel
theorem dL_law_1845 : decode cL_law 1845 = .ok (.istore 6, 2) := by decide +kernel
theorem dL_law_1847 : decode cL_law 1847 = .ok (.aload_n 2, 1) := by decide +kernel
theorem dL_law_1848 : decode cL_law 1848 = .ok (.aload_n 0, 1) := by decide +kernel
theorem dL_law_1849 : decode cL_law 1849 = .ok (.iload 5, 2) := by decide +kernel
theorem dL_law_1851 : decode cL_law 1851 = .ok (.iconst 1, 1) := by decide +kernel
theorem dL_law_1852 : decode cL_law 1852 = .ok (.iadd, 1) := by decide +kernel
theorem dL_law_1853 : decode cL_law 1853 = .ok (.iaload, 1) := by decide +kernel
theorem dL_law_1854 : decode cL_law 1854 = .ok (.invokevirtual 207, 3) := by decide +kernel
theorem dL_law_1857 : decode cL_law 1857 = .ok (.istore 7, 2) := by decide +kernel
theorem dL_law_1859 : decode cL_law 1859 = .ok (.aload_n 2, 1) := by decide +kernel
theorem dL_law_1860 : decode cL_law 1860 = .ok (.invokevirtual 128, 3) := by decide +kernel
theorem dL_law_1863 : decode cL_law 1863 = .ok (.iload 6, 2) := by decide +kernel
theorem dL_law_1865 : decode cL_law 1865 = .ok (.if_icmp .eq 5, 3) := by decide +kernel
theorem dL_law_1870 : decode cL_law 1870 = .ok (.iload 6, 2) := by decide +kernel
theorem dL_law_1872 : decode cL_law 1872 = .ok (.ifCond .ne 15, 3) := by decide +kernel
theorem dL_law_1875 : decode cL_law 1875 = .ok (.aload_n 3, 1) := by decide +kernel
theorem dL_law_1876 : decode cL_law 1876 = .ok (.iconst 0, 1) := by decide +kernel
theorem dL_law_1877 : decode cL_law 1877 = .ok (.laload, 1) := by decide +kernel
theorem dL_law_1878 : decode cL_law 1878 = .ok (.iload 7, 2) := by decide +kernel
theorem dL_law_1880 : decode cL_law 1880 = .ok (.i2l, 1) := by decide +kernel
theorem dL_law_1881 : decode cL_law 1881 = .ok (.lcmp, 1) := by decide +kernel
theorem dL_law_1882 : decode cL_law 1882 = .ok (.ifCond .eq 5, 3) := by decide +kernel
theorem dL_law_1887 : decode cL_law 1887 = .ok (.goto 398, 3) := by decide +kernel
theorem dL_law_1890 : decode cL_law 1890 = .ok (.aload_n 1, 1) := by decide +kernel
theorem dL_law_1891 : decode cL_law 1891 = .ok (.aload_n 0, 1) := by decide +kernel
theorem dL_law_1892 : decode cL_law 1892 = .ok (.iload 5, 2) := by decide +kernel
theorem dL_law_1894 : decode cL_law 1894 = .ok (.iconst 1, 1) := by decide +kernel
theorem dL_law_1895 : decode cL_law 1895 = .ok (.iadd, 1) := by decide +kernel
theorem dL_law_1896 : decode cL_law 1896 = .ok (.iaload, 1) := by decide +kernel
theorem dL_law_1897 : decode cL_law 1897 = .ok (.aload_n 3, 1) := by decide +kernel
theorem dL_law_1898 : decode cL_law 1898 = .ok (.invokestatic 208, 3) := by decide +kernel
theorem dL_law_1901 : decode cL_law 1901 = .ok (.istore 6, 2) := by decide +kernel
theorem dL_law_1903 : decode cL_law 1903 = .ok (.aload_n 2, 1) := by decide +kernel
theorem dL_law_1904 : decode cL_law 1904 = .ok (.aload_n 0, 1) := by decide +kernel
theorem dL_law_1905 : decode cL_law 1905 = .ok (.iload 5, 2) := by decide +kernel
theorem dL_law_1907 : decode cL_law 1907 = .ok (.iconst 1, 1) := by decide +kernel
theorem dL_law_1908 : decode cL_law 1908 = .ok (.iadd, 1) := by decide +kernel
theorem dL_law_1909 : decode cL_law 1909 = .ok (.iaload, 1) := by decide +kernel
theorem dL_law_1910 : decode cL_law 1910 = .ok (.invokevirtual 210, 3) := by decide +kernel
theorem dL_law_1913 : decode cL_law 1913 = .ok (.istore 7, 2) := by decide +kernel
theorem dL_law_1915 : decode cL_law 1915 = .ok (.aload_n 2, 1) := by decide +kernel
theorem dL_law_1916 : decode cL_law 1916 = .ok (.invokevirtual 128, 3) := by decide +kernel
theorem dL_law_1919 : decode cL_law 1919 = .ok (.iload 6, 2) := by decide +kernel
theorem dL_law_1921 : decode cL_law 1921 = .ok (.if_icmp .eq 5, 3) := by decide +kernel
theorem dL_law_1926 : decode cL_law 1926 = .ok (.iload 6, 2) := by decide +kernel
theorem dL_law_1928 : decode cL_law 1928 = .ok (.ifCond .ne 15, 3) := by decide +kernel
theorem dL_law_1931 : decode cL_law 1931 = .ok (.aload_n 3, 1) := by decide +kernel
theorem dL_law_1932 : decode cL_law 1932 = .ok (.iconst 0, 1) := by decide +kernel
theorem dL_law_1933 : decode cL_law 1933 = .ok (.laload, 1) := by decide +kernel
theorem dL_law_1934 : decode cL_law 1934 = .ok (.iload 7, 2) := by decide +kernel
theorem dL_law_1936 : decode cL_law 1936 = .ok (.i2l, 1) := by decide +kernel
theorem dL_law_1937 : decode cL_law 1937 = .ok (.lcmp, 1) := by decide +kernel
theorem dL_law_1938 : decode cL_law 1938 = .ok (.ifCond .eq 5, 3) := by decide +kernel
theorem dL_law_1943 : decode cL_law 1943 = .ok (.goto 342, 3) := by decide +kernel
section LC5
variable {G : hk_G} {l : Launch} {x m o od c nc nb t k n : Nat} {S : hs_S} {h : hk_H}
theorem lc_throwOver {w1 w2 w3 w4 u1 u2 u3 u4 : Int32} (hfl : l.stackTraces = false) (hj : hJ S c nc nb t) (ht : t < 512) (hL : 5 * t + 5 ≤ hk_K G 1101) (hw0 : hl_I G x m o od S c nc nb h) (hk : 220 ≤ k) (hn : 8000 ≤ n) (e1 : nI (hk_K G (4000 + (5 * t + 1))) = w1) (e2 : nI (hk_K G (4000 + (5 * t + 2))) = w2) (e3 : nI (hk_K G (4000 + (5 * t + 3))) = w3) (e4 : nI (hk_K G (4000 + (5 * t + 4))) = w4) (f1 : (w1.toUInt32 % 65536).toInt32 = u1) (f2 : (w2.toUInt32 % 65536).toInt32 = u2) (f3 : (w3.toUInt32 % 65536).toInt32 = u3) (f4 : (w4.toUInt32 % 65536).toInt32 = u4) (KK : hl_KK G l x m o od t (k - 220) (n - 8000)) : hk_W G l 12 yL_law cL_law 9 (some .boolean) [] hl_Qe hk_no k n h 1684 (hl_lv G x m o od t) [] := by
  obtain ⟨A, g, hm, thr, f, fd, hA, rfl, hw, hd, ho, hod, rfl⟩ := hw0
  unfold hl_lv
  obtain ⟨ho1, hoA⟩ := hl_oA hw hd ho
  refine hk_aload_n dL_law_1684 rfl rfl rfl ?_
  refine hk_aload_n dL_law_1685 rfl rfl rfl ?_
  refine hk_iload dL_law_1686 rfl rfl ?_
  refine hk_iconst (v := nI 1) dL_law_1688 rfl (by decide) ?_
  refine hk_iadd dL_law_1689 rfl ?_
  refine cx_top (nI_add _ _) ?_
  refine hl_sld rfl (by omega) dL_law_1690 rfl (by omega) ?_
  refine cx_top e1 ?_
  refine hk_aload_n dL_law_1691 rfl rfl rfl ?_
  refine hk_iload dL_law_1692 rfl rfl ?_
  refine hk_iconst (v := nI 2) dL_law_1694 rfl (by decide) ?_
  refine hk_iadd dL_law_1695 rfl ?_
  refine cx_top (nI_add _ _) ?_
  refine hl_sld rfl (by omega) dL_law_1696 rfl (by omega) ?_
  refine cx_top e2 ?_
  refine hk_aload_n dL_law_1697 rfl rfl rfl ?_
  refine hk_iload dL_law_1698 rfl rfl ?_
  refine hk_iconst (v := nI 3) dL_law_1700 rfl (by decide) ?_
  refine hk_iadd dL_law_1701 rfl ?_
  refine cx_top (nI_add _ _) ?_
  refine hl_sld rfl (by omega) dL_law_1702 rfl (by omega) ?_
  refine cx_top e3 ?_
  refine hk_aload_n dL_law_1703 rfl rfl rfl ?_
  refine hl_callS dL_law_1704 rfl ls_L_199 (cl_throwOver (h := hm) hfl hA hj.I (to_z hj ht) ho1 hoA) rfl rfl (by decide) ⟨by omega, by omega⟩ (Nat.le_of_ble_eq_true rfl) (hk_ki fun v1 h1 q1 => ?_) hk_nx
  refine hk_istore dL_law_1707 rfl (by decide) rfl ?_
  rcases q1 with ⟨z, rfl, f9, hf9, rfl⟩ | ⟨z, rfl, rfl⟩
  · skip
    have hR := hl_R1 (f1 := f9) (S' := cs_throwOver S w1 w2 w3) hA hw hd ho hod
    obtain ⟨A9, thr9, -, -, hw1, -, -, -⟩ := id hR
    obtain ⟨fs1, hat1⟩ := hm_Wd_at hw1
    refine hk_aload_n dL_law_1709 rfl rfl rfl ?_
    refine hk_aload_n dL_law_1710 rfl rfl rfl ?_
    refine hk_iload dL_law_1711 rfl rfl ?_
    refine hk_iconst (v := nI 1) dL_law_1713 rfl (by decide) ?_
    refine hk_iadd dL_law_1714 rfl ?_
    refine cx_top (nI_add _ _) ?_
    refine hl_sld rfl (by omega) dL_law_1715 rfl (by omega) ?_
    refine cx_top e1 ?_
    refine hk_aload_n dL_law_1716 rfl rfl rfl ?_
    refine hk_iload dL_law_1717 rfl rfl ?_
    refine hk_iconst (v := nI 2) dL_law_1719 rfl (by decide) ?_
    refine hk_iadd dL_law_1720 rfl ?_
    refine cx_top (nI_add _ _) ?_
    refine hl_sld rfl (by omega) dL_law_1721 rfl (by omega) ?_
    refine cx_top e2 ?_
    refine hk_aload_n dL_law_1722 rfl rfl rfl ?_
    refine hk_iload dL_law_1723 rfl rfl ?_
    refine hk_iconst (v := nI 3) dL_law_1725 rfl (by decide) ?_
    refine hk_iadd dL_law_1726 rfl ?_
    refine cx_top (nI_add _ _) ?_
    refine hl_sld rfl (by omega) dL_law_1727 rfl (by omega) ?_
    refine cx_top e3 ?_
    refine hk_callV dL_law_1728 rfl mv_L_201 (cm_throwOver hfl hw1 ((hj.up (Nat.le_of_lt ht)).2.2.2.2.2.2)) rfl rfl hat1 rfl rfl (by decide) ⟨by omega, by omega⟩ (Nat.le_of_ble_eq_true rfl) (hk_ki fun v2 h2 q2 => ?_) hk_nx
    refine hk_istore dL_law_1731 rfl (by decide) rfl ?_
    obtain ⟨g2, hx2, q2⟩ := q2
    rcases q2 with ⟨z2, rfl, hw2⟩ | ⟨z2, hw2⟩
    · skip
      obtain ⟨hq2, hj2, hr2⟩ := st_throwOver hj ht z
      obtain ⟨hI2, ho3, hod3⟩ := hl_fin hR hx2 hw2 hq2
      obtain ⟨fs2, hat2⟩ := hm_Wd_at hw2
      refine hk_aload_n dL_law_1733 rfl rfl rfl ?_
      refine hk_callV dL_law_1734 rfl mv_L_128 (cm_thrown hfl hw2) rfl rfl hat2 rfl rfl (by decide) ⟨Nat.zero_le _, Nat.zero_le _⟩ (Nat.le_of_ble_eq_true rfl) (hk_ki fun v3 h3 q3 => ?_) hk_nx
      obtain ⟨rfl, rfl⟩ := q3
      refine hk_iload dL_law_1737 rfl rfl ?_
      refine hk_icmp_eq (tgt := 1744) dL_law_1739 (by decide) rfl (fun _ => ?_) (fun zz => absurd rfl zz)
      refine hk_iload dL_law_1744 rfl rfl ?_
      refine hk_if_ne (tgt := 1761) dL_law_1746 (by decide) rfl (fun zz => absurd rfl zz) (fun _ => ?_)
      refine hk_aload_n dL_law_1749 rfl rfl rfl ?_
      refine hk_iconst (v := nI 0) dL_law_1750 rfl (by decide) ?_
      refine hk_lald dL_law_1751 rfl ho3 (vp_in_nI (by decide) (by decide)) ?_
      refine cx_topl (show f9 (nI 0).toNatClampNeg = _ from hf9) ?_
      refine hk_iload dL_law_1752 rfl rfl ?_
      refine hk_i2l dL_law_1754 rfl ?_
      refine hk_lcmp dL_law_1755 rfl ?_
      refine hk_if_eq (tgt := 1761) dL_law_1756 (by decide) rfl (fun _ => ?_) (fun zz => absurd (lg_cmp_0.mpr (congrArg Int32.toInt64 hr2)) zz)
      refine hk_goto (tgt := 2285) dL_law_1761 (by decide) ?_
      exact hl_go KK (by omega) (by omega) hj2 hI2 (hl_lvle _ _ _)
    · exact absurd (ml_tr_z z) z2
  · skip
    have hR := hl_R0 (S' := S) hA hw hd ho hod
    obtain ⟨A9, thr9, -, -, hw1, -, -, -⟩ := id hR
    obtain ⟨fs1, hat1⟩ := hm_Wd_at hw1
    refine hk_aload_n dL_law_1709 rfl rfl rfl ?_
    refine hk_aload_n dL_law_1710 rfl rfl rfl ?_
    refine hk_iload dL_law_1711 rfl rfl ?_
    refine hk_iconst (v := nI 1) dL_law_1713 rfl (by decide) ?_
    refine hk_iadd dL_law_1714 rfl ?_
    refine cx_top (nI_add _ _) ?_
    refine hl_sld rfl (by omega) dL_law_1715 rfl (by omega) ?_
    refine cx_top e1 ?_
    refine hk_aload_n dL_law_1716 rfl rfl rfl ?_
    refine hk_iload dL_law_1717 rfl rfl ?_
    refine hk_iconst (v := nI 2) dL_law_1719 rfl (by decide) ?_
    refine hk_iadd dL_law_1720 rfl ?_
    refine cx_top (nI_add _ _) ?_
    refine hl_sld rfl (by omega) dL_law_1721 rfl (by omega) ?_
    refine cx_top e2 ?_
    refine hk_aload_n dL_law_1722 rfl rfl rfl ?_
    refine hk_iload dL_law_1723 rfl rfl ?_
    refine hk_iconst (v := nI 3) dL_law_1725 rfl (by decide) ?_
    refine hk_iadd dL_law_1726 rfl ?_
    refine cx_top (nI_add _ _) ?_
    refine hl_sld rfl (by omega) dL_law_1727 rfl (by omega) ?_
    refine cx_top e3 ?_
    refine hk_callV dL_law_1728 rfl mv_L_201 (cm_throwOver hfl hw1 ((hj.up (Nat.le_of_lt ht)).2.2.2.2.2.2)) rfl rfl hat1 rfl rfl (by decide) ⟨by omega, by omega⟩ (Nat.le_of_ble_eq_true rfl) (hk_ki fun v2 h2 q2 => ?_) hk_nx
    refine hk_istore dL_law_1731 rfl (by decide) rfl ?_
    obtain ⟨g2, hx2, q2⟩ := q2
    rcases q2 with ⟨z2, rfl, hw2⟩ | ⟨z2, hw2⟩
    · exact absurd z2 (ml_tr_p z (by decide)).1
    · skip
      obtain ⟨hI2, ho3, hod3⟩ := hl_fin hR hx2 hw2 hm_q.rf
      obtain ⟨fs2, hat2⟩ := hm_Wd_at hw2
      refine hk_aload_n dL_law_1733 rfl rfl rfl ?_
      refine hk_callV dL_law_1734 rfl mv_L_128 (cm_thrown hfl hw2) rfl rfl hat2 rfl rfl (by decide) ⟨Nat.zero_le _, Nat.zero_le _⟩ (Nat.le_of_ble_eq_true rfl) (hk_ki fun v3 h3 q3 => ?_) hk_nx
      obtain ⟨rfl, rfl⟩ := q3
      refine hk_iload dL_law_1737 rfl rfl ?_
      refine hk_icmp_eq (tgt := 1744) dL_law_1739 (by decide) rfl (fun _ => ?_) (fun zz => absurd rfl zz)
      refine hk_iload dL_law_1744 rfl rfl ?_
      refine hk_if_ne (tgt := 1761) dL_law_1746 (by decide) rfl (fun _ => ?_) (fun zz => absurd zz (nI_ne0 (Nat.pos_of_ne_zero (ml_tr_p z (by decide)).1) (ml_tr_p z (by decide)).2))
      refine hk_goto (tgt := 2285) dL_law_1761 (by decide) ?_
      exact hl_go KK (by omega) (by omega) (hj.up (Nat.le_succ t)) hI2 (hl_lvle _ _ _)
theorem lc_coins {w1 w2 w3 w4 u1 u2 u3 u4 : Int32} (hfl : l.stackTraces = false) (hj : hJ S c nc nb t) (ht : t < 512) (hL : 5 * t + 5 ≤ hk_K G 1101) (hw0 : hl_I G x m o od S c nc nb h) (hk : 220 ≤ k) (hn : 8000 ≤ n) (e1 : nI (hk_K G (4000 + (5 * t + 1))) = w1) (e2 : nI (hk_K G (4000 + (5 * t + 2))) = w2) (e3 : nI (hk_K G (4000 + (5 * t + 3))) = w3) (e4 : nI (hk_K G (4000 + (5 * t + 4))) = w4) (f1 : (w1.toUInt32 % 65536).toInt32 = u1) (f2 : (w2.toUInt32 % 65536).toInt32 = u2) (f3 : (w3.toUInt32 % 65536).toInt32 = u3) (f4 : (w4.toUInt32 % 65536).toInt32 = u4) (KK : hl_KK G l x m o od t (k - 220) (n - 8000)) : hk_W G l 12 yL_law cL_law 9 (some .boolean) [] hl_Qe hk_no k n h 1764 (hl_lv G x m o od t) [] := by
  obtain ⟨A, g, hm, thr, f, fd, hA, rfl, hw, hd, ho, hod, rfl⟩ := hw0
  unfold hl_lv
  obtain ⟨ho1, hoA⟩ := hl_oA hw hd ho
  refine hk_aload_n dL_law_1764 rfl rfl rfl ?_
  refine hk_aload_n dL_law_1765 rfl rfl rfl ?_
  refine hk_iload dL_law_1766 rfl rfl ?_
  refine hk_iconst (v := nI 1) dL_law_1768 rfl (by decide) ?_
  refine hk_iadd dL_law_1769 rfl ?_
  refine cx_top (nI_add _ _) ?_
  refine hl_sld rfl (by omega) dL_law_1770 rfl (by omega) ?_
  refine cx_top e1 ?_
  refine hk_aload_n dL_law_1771 rfl rfl rfl ?_
  refine hk_iload dL_law_1772 rfl rfl ?_
  refine hk_iconst (v := nI 2) dL_law_1774 rfl (by decide) ?_
  refine hk_iadd dL_law_1775 rfl ?_
  refine cx_top (nI_add _ _) ?_
  refine hl_sld rfl (by omega) dL_law_1776 rfl (by omega) ?_
  refine cx_top e2 ?_
  refine hk_i2c dL_law_1777 rfl f2 ?_
  refine hk_aload_n dL_law_1778 rfl rfl rfl ?_
  refine hl_callS dL_law_1779 rfl ls_L_202 (cl_coins (h := hm) hfl hA hj.I ho1 hoA) rfl rfl (by decide) ⟨by omega, by omega⟩ (Nat.le_of_ble_eq_true rfl) (hk_ki fun v1 h1 q1 => ?_) hk_nx
  refine hk_istore dL_law_1782 rfl (by decide) rfl ?_
  rcases q1 with ⟨z, rfl, f9, hf9, rfl⟩ | ⟨z, rfl, rfl⟩
  · skip
    have hR := hl_R1 (f1 := f9) (S' := S) hA hw hd ho hod
    obtain ⟨A9, thr9, -, -, hw1, -, -, -⟩ := id hR
    obtain ⟨fs1, hat1⟩ := hm_Wd_at hw1
    refine hk_aload_n dL_law_1784 rfl rfl rfl ?_
    refine hk_aload_n dL_law_1785 rfl rfl rfl ?_
    refine hk_iload dL_law_1786 rfl rfl ?_
    refine hk_iconst (v := nI 1) dL_law_1788 rfl (by decide) ?_
    refine hk_iadd dL_law_1789 rfl ?_
    refine cx_top (nI_add _ _) ?_
    refine hl_sld rfl (by omega) dL_law_1790 rfl (by omega) ?_
    refine cx_top e1 ?_
    refine hk_aload_n dL_law_1791 rfl rfl rfl ?_
    refine hk_iload dL_law_1792 rfl rfl ?_
    refine hk_iconst (v := nI 2) dL_law_1794 rfl (by decide) ?_
    refine hk_iadd dL_law_1795 rfl ?_
    refine cx_top (nI_add _ _) ?_
    refine hl_sld rfl (by omega) dL_law_1796 rfl (by omega) ?_
    refine cx_top e2 ?_
    refine hk_i2c dL_law_1797 rfl f2 ?_
    refine hk_callV dL_law_1798 rfl mv_L_204 (cm_coins hfl hw1) rfl rfl hat1 rfl rfl (by decide) ⟨by omega, by omega⟩ (Nat.le_of_ble_eq_true rfl) (hk_ki fun v2 h2 q2 => ?_) hk_nx
    refine hk_istore dL_law_1801 rfl (by decide) rfl ?_
    obtain ⟨g2, hx2, q2⟩ := q2
    rcases q2 with ⟨z2, rfl, hw2⟩ | ⟨z2, hw2⟩
    · skip
      obtain ⟨hq2, hj2, hr2⟩ := st_coins hj ht z
      obtain ⟨hI2, ho3, hod3⟩ := hl_fin hR hx2 hw2 hq2
      obtain ⟨fs2, hat2⟩ := hm_Wd_at hw2
      refine hk_aload_n dL_law_1803 rfl rfl rfl ?_
      refine hk_callV dL_law_1804 rfl mv_L_128 (cm_thrown hfl hw2) rfl rfl hat2 rfl rfl (by decide) ⟨Nat.zero_le _, Nat.zero_le _⟩ (Nat.le_of_ble_eq_true rfl) (hk_ki fun v3 h3 q3 => ?_) hk_nx
      obtain ⟨rfl, rfl⟩ := q3
      refine hk_iload dL_law_1807 rfl rfl ?_
      refine hk_icmp_eq (tgt := 1814) dL_law_1809 (by decide) rfl (fun _ => ?_) (fun zz => absurd rfl zz)
      refine hk_iload dL_law_1814 rfl rfl ?_
      refine hk_if_ne (tgt := 1831) dL_law_1816 (by decide) rfl (fun zz => absurd rfl zz) (fun _ => ?_)
      refine hk_aload_n dL_law_1819 rfl rfl rfl ?_
      refine hk_iconst (v := nI 0) dL_law_1820 rfl (by decide) ?_
      refine hk_lald dL_law_1821 rfl ho3 (vp_in_nI (by decide) (by decide)) ?_
      refine cx_topl (show f9 (nI 0).toNatClampNeg = _ from hf9) ?_
      refine hk_iload dL_law_1822 rfl rfl ?_
      refine hk_i2l dL_law_1824 rfl ?_
      refine hk_lcmp dL_law_1825 rfl ?_
      refine hk_if_eq (tgt := 1831) dL_law_1826 (by decide) rfl (fun _ => ?_) (fun zz => absurd (lg_cmp_0.mpr (congrArg Int32.toInt64 hr2)) zz)
      refine hk_goto (tgt := 2285) dL_law_1831 (by decide) ?_
      exact hl_go KK (by omega) (by omega) hj2 hI2 (hl_lvle _ _ _)
    · exact absurd (ml_tr_z z) z2
  · skip
    have hR := hl_R0 (S' := S) hA hw hd ho hod
    obtain ⟨A9, thr9, -, -, hw1, -, -, -⟩ := id hR
    obtain ⟨fs1, hat1⟩ := hm_Wd_at hw1
    refine hk_aload_n dL_law_1784 rfl rfl rfl ?_
    refine hk_aload_n dL_law_1785 rfl rfl rfl ?_
    refine hk_iload dL_law_1786 rfl rfl ?_
    refine hk_iconst (v := nI 1) dL_law_1788 rfl (by decide) ?_
    refine hk_iadd dL_law_1789 rfl ?_
    refine cx_top (nI_add _ _) ?_
    refine hl_sld rfl (by omega) dL_law_1790 rfl (by omega) ?_
    refine cx_top e1 ?_
    refine hk_aload_n dL_law_1791 rfl rfl rfl ?_
    refine hk_iload dL_law_1792 rfl rfl ?_
    refine hk_iconst (v := nI 2) dL_law_1794 rfl (by decide) ?_
    refine hk_iadd dL_law_1795 rfl ?_
    refine cx_top (nI_add _ _) ?_
    refine hl_sld rfl (by omega) dL_law_1796 rfl (by omega) ?_
    refine cx_top e2 ?_
    refine hk_i2c dL_law_1797 rfl f2 ?_
    refine hk_callV dL_law_1798 rfl mv_L_204 (cm_coins hfl hw1) rfl rfl hat1 rfl rfl (by decide) ⟨by omega, by omega⟩ (Nat.le_of_ble_eq_true rfl) (hk_ki fun v2 h2 q2 => ?_) hk_nx
    refine hk_istore dL_law_1801 rfl (by decide) rfl ?_
    obtain ⟨g2, hx2, q2⟩ := q2
    rcases q2 with ⟨z2, rfl, hw2⟩ | ⟨z2, hw2⟩
    · exact absurd z2 (ml_tr_p z (by decide)).1
    · skip
      obtain ⟨hI2, ho3, hod3⟩ := hl_fin hR hx2 hw2 hm_q.rf
      obtain ⟨fs2, hat2⟩ := hm_Wd_at hw2
      refine hk_aload_n dL_law_1803 rfl rfl rfl ?_
      refine hk_callV dL_law_1804 rfl mv_L_128 (cm_thrown hfl hw2) rfl rfl hat2 rfl rfl (by decide) ⟨Nat.zero_le _, Nat.zero_le _⟩ (Nat.le_of_ble_eq_true rfl) (hk_ki fun v3 h3 q3 => ?_) hk_nx
      obtain ⟨rfl, rfl⟩ := q3
      refine hk_iload dL_law_1807 rfl rfl ?_
      refine hk_icmp_eq (tgt := 1814) dL_law_1809 (by decide) rfl (fun _ => ?_) (fun zz => absurd rfl zz)
      refine hk_iload dL_law_1814 rfl rfl ?_
      refine hk_if_ne (tgt := 1831) dL_law_1816 (by decide) rfl (fun _ => ?_) (fun zz => absurd zz (nI_ne0 (Nat.pos_of_ne_zero (ml_tr_p z (by decide)).1) (ml_tr_p z (by decide)).2))
      refine hk_goto (tgt := 2285) dL_law_1831 (by decide) ?_
      exact hl_go KK (by omega) (by omega) (hj.up (Nat.le_succ t)) hI2 (hl_lvle _ _ _)
theorem lc_weightOf {w1 w2 w3 w4 u1 u2 u3 u4 : Int32} (hfl : l.stackTraces = false) (hj : hJ S c nc nb t) (ht : t < 512) (hL : 5 * t + 5 ≤ hk_K G 1101) (hw0 : hl_I G x m o od S c nc nb h) (hk : 220 ≤ k) (hn : 8000 ≤ n) (e1 : nI (hk_K G (4000 + (5 * t + 1))) = w1) (e2 : nI (hk_K G (4000 + (5 * t + 2))) = w2) (e3 : nI (hk_K G (4000 + (5 * t + 3))) = w3) (e4 : nI (hk_K G (4000 + (5 * t + 4))) = w4) (f1 : (w1.toUInt32 % 65536).toInt32 = u1) (f2 : (w2.toUInt32 % 65536).toInt32 = u2) (f3 : (w3.toUInt32 % 65536).toInt32 = u3) (f4 : (w4.toUInt32 % 65536).toInt32 = u4) (KK : hl_KK G l x m o od t (k - 220) (n - 8000)) : hk_W G l 12 yL_law cL_law 9 (some .boolean) [] hl_Qe hk_no k n h 1834 (hl_lv G x m o od t) [] := by
  obtain ⟨A, g, hm, thr, f, fd, hA, rfl, hw, hd, ho, hod, rfl⟩ := hw0
  unfold hl_lv
  obtain ⟨ho1, hoA⟩ := hl_oA hw hd ho
  refine hk_aload_n dL_law_1834 rfl rfl rfl ?_
  refine hk_aload_n dL_law_1835 rfl rfl rfl ?_
  refine hk_iload dL_law_1836 rfl rfl ?_
  refine hk_iconst (v := nI 1) dL_law_1838 rfl (by decide) ?_
  refine hk_iadd dL_law_1839 rfl ?_
  refine cx_top (nI_add _ _) ?_
  refine hl_sld rfl (by omega) dL_law_1840 rfl (by omega) ?_
  refine cx_top e1 ?_
  refine hk_aload_n dL_law_1841 rfl rfl rfl ?_
  refine hl_callS dL_law_1842 rfl ls_L_205 (cl_weightOf (h := hm) hfl hA hj.I ho1 hoA) rfl rfl (by decide) ⟨by omega, by omega⟩ (Nat.le_of_ble_eq_true rfl) (hk_ki fun v1 h1 q1 => ?_) hk_nx
  refine hk_istore dL_law_1845 rfl (by decide) rfl ?_
  rcases q1 with ⟨z, rfl, f9, hf9, rfl⟩ | ⟨z, rfl, rfl⟩
  · skip
    have hR := hl_R1 (f1 := f9) (S' := S) hA hw hd ho hod
    obtain ⟨A9, thr9, -, -, hw1, -, -, -⟩ := id hR
    obtain ⟨fs1, hat1⟩ := hm_Wd_at hw1
    refine hk_aload_n dL_law_1847 rfl rfl rfl ?_
    refine hk_aload_n dL_law_1848 rfl rfl rfl ?_
    refine hk_iload dL_law_1849 rfl rfl ?_
    refine hk_iconst (v := nI 1) dL_law_1851 rfl (by decide) ?_
    refine hk_iadd dL_law_1852 rfl ?_
    refine cx_top (nI_add _ _) ?_
    refine hl_sld rfl (by omega) dL_law_1853 rfl (by omega) ?_
    refine cx_top e1 ?_
    refine hk_callV dL_law_1854 rfl mv_L_207 (cm_weightOf hfl hw1) rfl rfl hat1 rfl rfl (by decide) ⟨by omega, by omega⟩ (Nat.le_of_ble_eq_true rfl) (hk_ki fun v2 h2 q2 => ?_) hk_nx
    refine hk_istore dL_law_1857 rfl (by decide) rfl ?_
    obtain ⟨g2, hx2, q2⟩ := q2
    rcases q2 with ⟨z2, rfl, hw2⟩ | ⟨z2, hw2⟩
    · skip
      obtain ⟨hq2, hj2, hr2⟩ := st_weightOf hj ht z
      obtain ⟨hI2, ho3, hod3⟩ := hl_fin hR hx2 hw2 hq2
      obtain ⟨fs2, hat2⟩ := hm_Wd_at hw2
      refine hk_aload_n dL_law_1859 rfl rfl rfl ?_
      refine hk_callV dL_law_1860 rfl mv_L_128 (cm_thrown hfl hw2) rfl rfl hat2 rfl rfl (by decide) ⟨Nat.zero_le _, Nat.zero_le _⟩ (Nat.le_of_ble_eq_true rfl) (hk_ki fun v3 h3 q3 => ?_) hk_nx
      obtain ⟨rfl, rfl⟩ := q3
      refine hk_iload dL_law_1863 rfl rfl ?_
      refine hk_icmp_eq (tgt := 1870) dL_law_1865 (by decide) rfl (fun _ => ?_) (fun zz => absurd rfl zz)
      refine hk_iload dL_law_1870 rfl rfl ?_
      refine hk_if_ne (tgt := 1887) dL_law_1872 (by decide) rfl (fun zz => absurd rfl zz) (fun _ => ?_)
      refine hk_aload_n dL_law_1875 rfl rfl rfl ?_
      refine hk_iconst (v := nI 0) dL_law_1876 rfl (by decide) ?_
      refine hk_lald dL_law_1877 rfl ho3 (vp_in_nI (by decide) (by decide)) ?_
      refine cx_topl (show f9 (nI 0).toNatClampNeg = _ from hf9) ?_
      refine hk_iload dL_law_1878 rfl rfl ?_
      refine hk_i2l dL_law_1880 rfl ?_
      refine hk_lcmp dL_law_1881 rfl ?_
      refine hk_if_eq (tgt := 1887) dL_law_1882 (by decide) rfl (fun _ => ?_) (fun zz => absurd (lg_cmp_0.mpr (congrArg Int32.toInt64 hr2)) zz)
      refine hk_goto (tgt := 2285) dL_law_1887 (by decide) ?_
      exact hl_go KK (by omega) (by omega) hj2 hI2 (hl_lvle _ _ _)
    · exact absurd (ml_tr_z z) z2
  · skip
    have hR := hl_R0 (S' := S) hA hw hd ho hod
    obtain ⟨A9, thr9, -, -, hw1, -, -, -⟩ := id hR
    obtain ⟨fs1, hat1⟩ := hm_Wd_at hw1
    refine hk_aload_n dL_law_1847 rfl rfl rfl ?_
    refine hk_aload_n dL_law_1848 rfl rfl rfl ?_
    refine hk_iload dL_law_1849 rfl rfl ?_
    refine hk_iconst (v := nI 1) dL_law_1851 rfl (by decide) ?_
    refine hk_iadd dL_law_1852 rfl ?_
    refine cx_top (nI_add _ _) ?_
    refine hl_sld rfl (by omega) dL_law_1853 rfl (by omega) ?_
    refine cx_top e1 ?_
    refine hk_callV dL_law_1854 rfl mv_L_207 (cm_weightOf hfl hw1) rfl rfl hat1 rfl rfl (by decide) ⟨by omega, by omega⟩ (Nat.le_of_ble_eq_true rfl) (hk_ki fun v2 h2 q2 => ?_) hk_nx
    refine hk_istore dL_law_1857 rfl (by decide) rfl ?_
    obtain ⟨g2, hx2, q2⟩ := q2
    rcases q2 with ⟨z2, rfl, hw2⟩ | ⟨z2, hw2⟩
    · exact absurd z2 (ml_tr_p z (by decide)).1
    · skip
      obtain ⟨hI2, ho3, hod3⟩ := hl_fin hR hx2 hw2 hm_q.rf
      obtain ⟨fs2, hat2⟩ := hm_Wd_at hw2
      refine hk_aload_n dL_law_1859 rfl rfl rfl ?_
      refine hk_callV dL_law_1860 rfl mv_L_128 (cm_thrown hfl hw2) rfl rfl hat2 rfl rfl (by decide) ⟨Nat.zero_le _, Nat.zero_le _⟩ (Nat.le_of_ble_eq_true rfl) (hk_ki fun v3 h3 q3 => ?_) hk_nx
      obtain ⟨rfl, rfl⟩ := q3
      refine hk_iload dL_law_1863 rfl rfl ?_
      refine hk_icmp_eq (tgt := 1870) dL_law_1865 (by decide) rfl (fun _ => ?_) (fun zz => absurd rfl zz)
      refine hk_iload dL_law_1870 rfl rfl ?_
      refine hk_if_ne (tgt := 1887) dL_law_1872 (by decide) rfl (fun _ => ?_) (fun zz => absurd zz (nI_ne0 (Nat.pos_of_ne_zero (ml_tr_p z (by decide)).1) (ml_tr_p z (by decide)).2))
      refine hk_goto (tgt := 2285) dL_law_1887 (by decide) ?_
      exact hl_go KK (by omega) (by omega) (hj.up (Nat.le_succ t)) hI2 (hl_lvle _ _ _)
theorem lc_ownerOf {w1 w2 w3 w4 u1 u2 u3 u4 : Int32} (hfl : l.stackTraces = false) (hj : hJ S c nc nb t) (ht : t < 512) (hL : 5 * t + 5 ≤ hk_K G 1101) (hw0 : hl_I G x m o od S c nc nb h) (hk : 220 ≤ k) (hn : 8000 ≤ n) (e1 : nI (hk_K G (4000 + (5 * t + 1))) = w1) (e2 : nI (hk_K G (4000 + (5 * t + 2))) = w2) (e3 : nI (hk_K G (4000 + (5 * t + 3))) = w3) (e4 : nI (hk_K G (4000 + (5 * t + 4))) = w4) (f1 : (w1.toUInt32 % 65536).toInt32 = u1) (f2 : (w2.toUInt32 % 65536).toInt32 = u2) (f3 : (w3.toUInt32 % 65536).toInt32 = u3) (f4 : (w4.toUInt32 % 65536).toInt32 = u4) (KK : hl_KK G l x m o od t (k - 220) (n - 8000)) : hk_W G l 12 yL_law cL_law 9 (some .boolean) [] hl_Qe hk_no k n h 1890 (hl_lv G x m o od t) [] := by
  obtain ⟨A, g, hm, thr, f, fd, hA, rfl, hw, hd, ho, hod, rfl⟩ := hw0
  unfold hl_lv
  obtain ⟨ho1, hoA⟩ := hl_oA hw hd ho
  refine hk_aload_n dL_law_1890 rfl rfl rfl ?_
  refine hk_aload_n dL_law_1891 rfl rfl rfl ?_
  refine hk_iload dL_law_1892 rfl rfl ?_
  refine hk_iconst (v := nI 1) dL_law_1894 rfl (by decide) ?_
  refine hk_iadd dL_law_1895 rfl ?_
  refine cx_top (nI_add _ _) ?_
  refine hl_sld rfl (by omega) dL_law_1896 rfl (by omega) ?_
  refine cx_top e1 ?_
  refine hk_aload_n dL_law_1897 rfl rfl rfl ?_
  refine hl_callS dL_law_1898 rfl ls_L_208 (cl_ownerOf (h := hm) hfl hA hj.I ho1 hoA) rfl rfl (by decide) ⟨by omega, by omega⟩ (Nat.le_of_ble_eq_true rfl) (hk_ki fun v1 h1 q1 => ?_) hk_nx
  refine hk_istore dL_law_1901 rfl (by decide) rfl ?_
  rcases q1 with ⟨z, rfl, f9, hf9, rfl⟩ | ⟨z, rfl, rfl⟩
  · skip
    have hR := hl_R1 (f1 := f9) (S' := S) hA hw hd ho hod
    obtain ⟨A9, thr9, -, -, hw1, -, -, -⟩ := id hR
    obtain ⟨fs1, hat1⟩ := hm_Wd_at hw1
    refine hk_aload_n dL_law_1903 rfl rfl rfl ?_
    refine hk_aload_n dL_law_1904 rfl rfl rfl ?_
    refine hk_iload dL_law_1905 rfl rfl ?_
    refine hk_iconst (v := nI 1) dL_law_1907 rfl (by decide) ?_
    refine hk_iadd dL_law_1908 rfl ?_
    refine cx_top (nI_add _ _) ?_
    refine hl_sld rfl (by omega) dL_law_1909 rfl (by omega) ?_
    refine cx_top e1 ?_
    refine hk_callV dL_law_1910 rfl mv_L_210 (cm_ownerOf hfl hw1) rfl rfl hat1 rfl rfl (by decide) ⟨by omega, by omega⟩ (Nat.le_of_ble_eq_true rfl) (hk_ki fun v2 h2 q2 => ?_) hk_nx
    refine hk_istore dL_law_1913 rfl (by decide) rfl ?_
    obtain ⟨g2, hx2, q2⟩ := q2
    rcases q2 with ⟨z2, rfl, hw2⟩ | ⟨z2, hw2⟩
    · skip
      obtain ⟨hq2, hj2, hr2⟩ := st_ownerOf hj ht z
      obtain ⟨hI2, ho3, hod3⟩ := hl_fin hR hx2 hw2 hq2
      obtain ⟨fs2, hat2⟩ := hm_Wd_at hw2
      refine hk_aload_n dL_law_1915 rfl rfl rfl ?_
      refine hk_callV dL_law_1916 rfl mv_L_128 (cm_thrown hfl hw2) rfl rfl hat2 rfl rfl (by decide) ⟨Nat.zero_le _, Nat.zero_le _⟩ (Nat.le_of_ble_eq_true rfl) (hk_ki fun v3 h3 q3 => ?_) hk_nx
      obtain ⟨rfl, rfl⟩ := q3
      refine hk_iload dL_law_1919 rfl rfl ?_
      refine hk_icmp_eq (tgt := 1926) dL_law_1921 (by decide) rfl (fun _ => ?_) (fun zz => absurd rfl zz)
      refine hk_iload dL_law_1926 rfl rfl ?_
      refine hk_if_ne (tgt := 1943) dL_law_1928 (by decide) rfl (fun zz => absurd rfl zz) (fun _ => ?_)
      refine hk_aload_n dL_law_1931 rfl rfl rfl ?_
      refine hk_iconst (v := nI 0) dL_law_1932 rfl (by decide) ?_
      refine hk_lald dL_law_1933 rfl ho3 (vp_in_nI (by decide) (by decide)) ?_
      refine cx_topl (show f9 (nI 0).toNatClampNeg = _ from hf9) ?_
      refine hk_iload dL_law_1934 rfl rfl ?_
      refine hk_i2l dL_law_1936 rfl ?_
      refine hk_lcmp dL_law_1937 rfl ?_
      refine hk_if_eq (tgt := 1943) dL_law_1938 (by decide) rfl (fun _ => ?_) (fun zz => absurd (lg_cmp_0.mpr (congrArg Int32.toInt64 hr2)) zz)
      refine hk_goto (tgt := 2285) dL_law_1943 (by decide) ?_
      exact hl_go KK (by omega) (by omega) hj2 hI2 (hl_lvle _ _ _)
    · exact absurd (ml_tr_z z) z2
  · skip
    have hR := hl_R0 (S' := S) hA hw hd ho hod
    obtain ⟨A9, thr9, -, -, hw1, -, -, -⟩ := id hR
    obtain ⟨fs1, hat1⟩ := hm_Wd_at hw1
    refine hk_aload_n dL_law_1903 rfl rfl rfl ?_
    refine hk_aload_n dL_law_1904 rfl rfl rfl ?_
    refine hk_iload dL_law_1905 rfl rfl ?_
    refine hk_iconst (v := nI 1) dL_law_1907 rfl (by decide) ?_
    refine hk_iadd dL_law_1908 rfl ?_
    refine cx_top (nI_add _ _) ?_
    refine hl_sld rfl (by omega) dL_law_1909 rfl (by omega) ?_
    refine cx_top e1 ?_
    refine hk_callV dL_law_1910 rfl mv_L_210 (cm_ownerOf hfl hw1) rfl rfl hat1 rfl rfl (by decide) ⟨by omega, by omega⟩ (Nat.le_of_ble_eq_true rfl) (hk_ki fun v2 h2 q2 => ?_) hk_nx
    refine hk_istore dL_law_1913 rfl (by decide) rfl ?_
    obtain ⟨g2, hx2, q2⟩ := q2
    rcases q2 with ⟨z2, rfl, hw2⟩ | ⟨z2, hw2⟩
    · exact absurd z2 (ml_tr_p z (by decide)).1
    · skip
      obtain ⟨hI2, ho3, hod3⟩ := hl_fin hR hx2 hw2 hm_q.rf
      obtain ⟨fs2, hat2⟩ := hm_Wd_at hw2
      refine hk_aload_n dL_law_1915 rfl rfl rfl ?_
      refine hk_callV dL_law_1916 rfl mv_L_128 (cm_thrown hfl hw2) rfl rfl hat2 rfl rfl (by decide) ⟨Nat.zero_le _, Nat.zero_le _⟩ (Nat.le_of_ble_eq_true rfl) (hk_ki fun v3 h3 q3 => ?_) hk_nx
      obtain ⟨rfl, rfl⟩ := q3
      refine hk_iload dL_law_1919 rfl rfl ?_
      refine hk_icmp_eq (tgt := 1926) dL_law_1921 (by decide) rfl (fun _ => ?_) (fun zz => absurd rfl zz)
      refine hk_iload dL_law_1926 rfl rfl ?_
      refine hk_if_ne (tgt := 1943) dL_law_1928 (by decide) rfl (fun _ => ?_) (fun zz => absurd zz (nI_ne0 (Nat.pos_of_ne_zero (ml_tr_p z (by decide)).1) (ml_tr_p z (by decide)).2))
      refine hk_goto (tgt := 2285) dL_law_1943 (by decide) ?_
      exact hl_go KK (by omega) (by omega) (hj.up (Nat.le_succ t)) hI2 (hl_lvle _ _ _)
end LC5

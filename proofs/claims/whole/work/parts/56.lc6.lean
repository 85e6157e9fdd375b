theorem dL_law_1946 : decode cL_law 1946 = .ok (.aload_n 1, 1) := by decide +kernel
theorem dL_law_1947 : decode cL_law 1947 = .ok (.aload_n 0, 1) := by decide +kernel
theorem dL_law_1948 : decode cL_law 1948 = .ok (.iload 5, 2) := by decide +kernel
theorem dL_law_1950 : decode cL_law 1950 = .ok (.iconst 1, 1) := by decide +kernel
theorem dL_law_1951 : decode cL_law 1951 = .ok (.iadd, 1) := by decide +kernel
theorem dL_law_1952 : decode cL_law 1952 = .ok (.iaload, 1) := by decide +kernel
theorem dL_law_1953 : decode cL_law 1953 = .ok (.aload_n 3, 1) := by decide +kernel
theorem dL_law_1954 : decode cL_law 1954 = .ok (.invokestatic 211, 3) := by decide +kernel
theorem dL_law_1957 : decode cL_law 1957 = .ok (.istore 6, 2) := by decide +kernel
theorem dL_law_1959 : decode cL_law 1959 = .ok (.aload_n 2, 1) := by decide +kernel
theorem dL_law_1960 : decode cL_law 1960 = .ok (.aload_n 0, 1) := by decide +kernel
theorem dL_law_1961 : decode cL_law 1961 = .ok (.iload 5, 2) := by decide +kernel
theorem dL_law_1963 : decode cL_law 1963 = .ok (.iconst 1, 1) := by decide +kernel
theorem dL_law_1964 : decode cL_law 1964 = .ok (.iadd, 1) := by decide +kernel
theorem dL_law_1965 : decode cL_law 1965 = .ok (.iaload, 1) := by decide +kernel
theorem dL_law_1966 : decode cL_law 1966 = .ok (.invokevirtual 213, 3) := by decide +kernel
theorem dL_law_1969 : decode cL_law 1969 = .ok (.istore 7, 2) := by decide +kernel
theorem dL_law_1971 : decode cL_law 1971 = .ok (.aload_n 2, 1) := by decide +kernel
theorem dL_law_1972 : decode cL_law 1972 = .ok (.invokevirtual 128, 3) := by decide +kernel
theorem dL_law_1975 : decode cL_law 1975 = .ok (.iload 6, 2) := by decide +kernel
theorem dL_law_1977 : decode cL_law 1977 = .ok (.if_icmp .eq 5, 3) := by decide +kernel
theorem dL_law_1982 : decode cL_law 1982 = .ok (.iload 6, 2) := by decide +kernel
theorem dL_law_1984 : decode cL_law 1984 = .ok (.ifCond .ne 15, 3) := by decide +kernel
theorem dL_law_1987 : decode cL_law 1987 = .ok (.aload_n 3, 1) := by decide +kernel
theorem dL_law_1988 : decode cL_law 1988 = .ok (.iconst 0, 1) := by decide +kernel
theorem dL_law_1989 : decode cL_law 1989 = .ok (.laload, 1) := by decide +kernel
theorem dL_law_1990 : decode cL_law 1990 = .ok (.iload 7, 2) := by decide +kernel
theorem dL_law_1992 : decode cL_law 1992 = .ok (.i2l, 1) := by decide +kernel
theorem dL_law_1993 : decode cL_law 1993 = .ok (.lcmp, 1) := by decide +kernel
theorem dL_law_1994 : decode cL_law 1994 = .ok (.ifCond .eq 5, 3) := by decide +kernel
theorem dL_law_1999 : decode cL_law 1999 = .ok (.goto 286, 3) := by decide +kernel
theorem dL_law_2002 : decode cL_law 2002 = .ok (.aload_n 1, 1) := by decide +kernel
theorem dL_law_2003 : decode cL_law 2003 = .ok (.aload_n 0, 1) := by decide +kernel
theorem dL_law_2004 : decode cL_law 2004 = .ok (.iload 5, 2) := by decide +kernel
theorem dL_law_2006 : decode cL_law 2006 = .ok (.iconst 1, 1) := by decide +kernel
theorem dL_law_2007 : decode cL_law 2007 = .ok (.iadd, 1) := by decide +kernel
theorem dL_law_2008 : decode cL_law 2008 = .ok (.iaload, 1) := by decide +kernel
theorem dL_law_2009 : decode cL_law 2009 = .ok (.aload_n 0, 1) := by decide +kernel
theorem dL_law_2010 : decode cL_law 2010 = .ok (.iload 5, 2) := by decide +kernel
theorem dL_law_2012 : decode cL_law 2012 = .ok (.iconst 2, 1) := by decide +kernel
theorem dL_law_2013 : decode cL_law 2013 = .ok (.iadd, 1) := by decide +kernel
theorem dL_law_2014 : decode cL_law 2014 = .ok (.iaload, 1) := by decide +kernel
theorem dL_law_2015 : decode cL_law 2015 = .ok (.i2c, 1) := by decide +kernel
theorem dL_law_2016 : decode cL_law 2016 = .ok (.aload_n 3, 1) := by decide +kernel
theorem dL_law_2017 : decode cL_law 2017 = .ok (.invokestatic 214, 3) := by decide +kernel
theorem dL_law_2020 : decode cL_law 2020 = .ok (.istore 6, 2) := by decide +kernel
theorem dL_law_2022 : decode cL_law 2022 = .ok (.aload_n 2, 1) := by decide +kernel
theorem dL_law_2023 : decode cL_law 2023 = .ok (.aload_n 0, 1) := by decide +kernel
theorem dL_law_2024 : decode cL_law 2024 = .ok (.iload 5, 2) := by decide +kernel
theorem dL_law_2026 : decode cL_law 2026 = .ok (.iconst 1, 1) := by decide +kernel
theorem dL_law_2027 : decode cL_law 2027 = .ok (.iadd, 1) := by decide +kernel
theorem dL_law_2028 : decode cL_law 2028 = .ok (.iaload, 1) := by decide +kernel
theorem dL_law_2029 : decode cL_law 2029 = .ok (.aload_n 0, 1) := by decide +kernel
theorem dL_law_2030 : decode cL_law 2030 = .ok (.iload 5, 2) := by decide +kernel
theorem dL_law_2032 : decode cL_law 2032 = .ok (.iconst 2, 1) := by decide +kernel
theorem dL_law_2033 : decode cL_law 2033 = .ok (.iadd, 1) := by decide +kernel
theorem dL_law_2034 : decode cL_law 2034 = .ok (.iaload, 1) := by decide +kernel
theorem dL_law_2035 : decode cL_law 2035 = .ok (.i2c, 1) := by decide +kernel
theorem dL_law_2036 : decode cL_law 2036 = .ok (.invokevirtual 216, 3) := by decide +kernel
theorem dL_law_2039 : decode cL_law 2039 = .ok (.istore 7, 2) := by decide +kernel
theorem dL_law_2041 : decode cL_law 2041 = .ok (.aload_n 2, 1) := by decide +kernel
theorem dL_law_2042 : decode cL_law 2042 = .ok (.invokevirtual 128, 3) := by decide +kernel
theorem dL_law_2045 : decode cL_law 2045 = .ok (.iload 6, 2) := by decide +kernel
theorem dL_law_2047 : decode cL_law 2047 = .ok (.if_icmp .eq 5, 3) := by decide +kernel
theorem dL_law_2052 : decode cL_law 2052 = .ok (.iload 6, 2) := by decide +kernel
theorem dL_law_2054 : decode cL_law 2054 = .ok (.ifCond .ne 15, 3) := by decide +kernel
theorem dL_law_2057 : decode cL_law 2057 = .ok (.aload_n 3, 1) := by decide +kernel
theorem dL_law_2058 : decode cL_law 2058 = .ok (.iconst 0, 1) := by decide +kernel
theorem dL_law_2059 : decode cL_law 2059 = .ok (.laload, 1) := by decide +kernel
theorem dL_law_2060 : decode cL_law 2060 = .ok (.iload 7, 2) := by decide +kernel
theorem dL_law_2062 : decode cL_law 2062 = .ok (.i2l, 1) := by decide +kernel
theorem dL_law_2063 : decode cL_law 2063 = .ok (.lcmp, 1) := by decide +kernel
theorem dL_law_2064 : decode cL_law 2064 = .ok (.ifCond .eq 5, 3) := by decide +kernel
theorem dL_law_2069 : decode cL_law 2069 = .ok (.goto 216, 3) := by decide +kernel
theorem dL_law_2072 : decode cL_law 2072 = .ok (.aload_n 1, 1) := by decide +kernel
theorem dL_law_2073 : decode cL_law 2073 = .ok (.aload_n 0, 1) := by decide +kernel
theorem dL_law_2074 : decode cL_law 2074 = .ok (.iload 5, 2) := by decide +kernel
theorem dL_law_2076 : decode cL_law 2076 = .ok (.iconst 1, 1) := by decide +kernel
theorem dL_law_2077 : decode cL_law 2077 = .ok (.iadd, 1) := by decide +kernel
theorem dL_law_2078 : decode cL_law 2078 = .ok (.iaload, 1) := by decide +kernel
theorem dL_law_2079 : decode cL_law 2079 = .ok (.aload_n 3, 1) := by decide +kernel
theorem dL_law_2080 : decode cL_law 2080 = .ok (.invokestatic 217, 3) := by decide +kernel
theorem dL_law_2083 : decode cL_law 2083 = .ok (.istore 6, 2) := by decide +kernel
theorem dL_law_2085 : decode cL_law 2085 = .ok (.aload_n 2, 1) := by decide +kernel
theorem dL_law_2086 : decode cL_law 2086 = .ok (.aload_n 0, 1) := by decide +kernel
theorem dL_law_2087 : decode cL_law 2087 = .ok (.iload 5, 2) := by decide +kernel
theorem dL_law_2089 : decode cL_law 2089 = .ok (.iconst 1, 1) := by decide +kernel
theorem dL_law_2090 : decode cL_law 2090 = .ok (.iadd, 1) := by decide +kernel
theorem dL_law_2091 : decode cL_law 2091 = .ok (.iaload, 1) := by decide +kernel
theorem dL_law_2092 : decode cL_law 2092 = .ok (.invokevirtual 219, 3) := by decide +kernel
theorem dL_law_2095 : decode cL_law 2095 = .ok (.lstore 7, 2) := by decide +kernel
theorem dL_law_2097 : decode cL_law 2097 = .ok (.aload_n 2, 1) := by decide +kernel
theorem dL_law_2098 : decode cL_law 2098 = .ok (.invokevirtual 128, 3) := by decide +kernel
theorem dL_law_2101 : decode cL_law 2101 = .ok (.iload 6, 2) := by decide +kernel
theorem dL_law_2103 : decode cL_law 2103 = .ok (.if_icmp .eq 5, 3) := by decide +kernel
theorem dL_law_2108 : decode cL_law 2108 = .ok (.iload 6, 2) := by decide +kernel
theorem dL_law_2110 : decode cL_law 2110 = .ok (.ifCond .ne 14, 3) := by decide +kernel
theorem dL_law_2113 : decode cL_law 2113 = .ok (.aload_n 3, 1) := by decide +kernel
theorem dL_law_2114 : decode cL_law 2114 = .ok (.iconst 0, 1) := by decide +kernel
theorem dL_law_2115 : decode cL_law 2115 = .ok (.laload, 1) := by decide +kernel
theorem dL_law_2116 : decode cL_law 2116 = .ok (.lload 7, 2) := by decide +kernel
theorem dL_law_2118 : decode cL_law 2118 = .ok (.lcmp, 1) := by decide +kernel
theorem dL_law_2119 : decode cL_law 2119 = .ok (.ifCond .eq 5, 3) := by decide +kernel
theorem dL_law_2124 : decode cL_law 2124 = .ok (.goto 161, 3) := by decide +kernel
theorem dL_law_2127 : decode cL_law 2127 = .ok (.aload_n 1, 1) := by decide +kernel
theorem dL_law_2128 : decode cL_law 2128 = .ok (.invokevirtual 220, 3) := by decide +kernel
theorem dL_law_2131 : decode cL_law 2131 = .ok (.aload_n 2, 1) := by decide +kernel
theorem dL_law_2132 : decode cL_law 2132 = .ok (.invokevirtual 224, 3) := by decide +kernel
theorem dL_law_2135 : decode cL_law 2135 = .ok (.lcmp, 1) := by decide +kernel
theorem dL_law_2136 : decode cL_law 2136 = .ok (.ifCond .eq 149, 3) := by decide +kernel
section LC6
variable {G : hk_G} {l : Launch} {x m o od c nc nb t k n : Nat} {S : hs_S} {h : hk_H}
theorem lc_owners {w1 w2 w3 w4 u1 u2 u3 u4 : Int32} (hfl : l.stackTraces = false) (hj : hJ S c nc nb t) (ht : t < 512) (hL : 5 * t + 5 ≤ hk_K G 1101) (hw0 : hl_I G x m o od S c nc nb h) (hk : 220 ≤ k) (hn : 8000 ≤ n) (e1 : nI (hk_K G (4000 + (5 * t + 1))) = w1) (e2 : nI (hk_K G (4000 + (5 * t + 2))) = w2) (e3 : nI (hk_K G (4000 + (5 * t + 3))) = w3) (e4 : nI (hk_K G (4000 + (5 * t + 4))) = w4) (f1 : (w1.toUInt32 % 65536).toInt32 = u1) (f2 : (w2.toUInt32 % 65536).toInt32 = u2) (f3 : (w3.toUInt32 % 65536).toInt32 = u3) (f4 : (w4.toUInt32 % 65536).toInt32 = u4) (KK : hl_KK G l x m o od t (k - 220) (n - 8000)) : hk_W G l 12 yL_law cL_law 9 (some .boolean) [] hl_Qe hk_no k n h 1946 (hl_lv G x m o od t) [] := by
  obtain ⟨A, g, hm, thr, f, fd, hA, rfl, hw, hd, ho, hod, rfl⟩ := hw0
  unfold hl_lv
  obtain ⟨ho1, hoA⟩ := hl_oA hw hd ho
  refine hk_aload_n dL_law_1946 rfl rfl rfl ?_
  refine hk_aload_n dL_law_1947 rfl rfl rfl ?_
  refine hk_iload dL_law_1948 rfl rfl ?_
  refine hk_iconst (v := nI 1) dL_law_1950 rfl (by decide) ?_
  refine hk_iadd dL_law_1951 rfl ?_
  refine cx_top (nI_add _ _) ?_
  refine hl_sld rfl (by omega) dL_law_1952 rfl (by omega) ?_
  refine cx_top e1 ?_
  refine hk_aload_n dL_law_1953 rfl rfl rfl ?_
  refine hl_callS dL_law_1954 rfl ls_L_211 (cl_owners (h := hm) hfl hA hj.I ho1 hoA) rfl rfl (by decide) ⟨by omega, by omega⟩ (Nat.le_of_ble_eq_true rfl) (hk_ki fun v1 h1 q1 => ?_) hk_nx
  refine hk_istore dL_law_1957 rfl (by decide) rfl ?_
  rcases q1 with ⟨z, rfl, f9, hf9, rfl⟩ | ⟨z, rfl, rfl⟩
  · skip
    have hR := hl_R1 (f1 := f9) (S' := S) hA hw hd ho hod
    obtain ⟨A9, thr9, -, -, hw1, -, -, -⟩ := id hR
    obtain ⟨fs1, hat1⟩ := hm_Wd_at hw1
    refine hk_aload_n dL_law_1959 rfl rfl rfl ?_
    refine hk_aload_n dL_law_1960 rfl rfl rfl ?_
    refine hk_iload dL_law_1961 rfl rfl ?_
    refine hk_iconst (v := nI 1) dL_law_1963 rfl (by decide) ?_
    refine hk_iadd dL_law_1964 rfl ?_
    refine cx_top (nI_add _ _) ?_
    refine hl_sld rfl (by omega) dL_law_1965 rfl (by omega) ?_
    refine cx_top e1 ?_
    refine hk_callV dL_law_1966 rfl mv_L_213 (cm_owners hfl hw1) rfl rfl hat1 rfl rfl (by decide) ⟨by omega, by omega⟩ (Nat.le_of_ble_eq_true rfl) (hk_ki fun v2 h2 q2 => ?_) hk_nx
    refine hk_istore dL_law_1969 rfl (by decide) rfl ?_
    obtain ⟨g2, hx2, q2⟩ := q2
    rcases q2 with ⟨z2, rfl, hw2⟩ | ⟨z2, hw2⟩
    · skip
      obtain ⟨hq2, hj2, hr2⟩ := st_owners hj ht z
      obtain ⟨hI2, ho3, hod3⟩ := hl_fin hR hx2 hw2 hq2
      obtain ⟨fs2, hat2⟩ := hm_Wd_at hw2
      refine hk_aload_n dL_law_1971 rfl rfl rfl ?_
      refine hk_callV dL_law_1972 rfl mv_L_128 (cm_thrown hfl hw2) rfl rfl hat2 rfl rfl (by decide) ⟨Nat.zero_le _, Nat.zero_le _⟩ (Nat.le_of_ble_eq_true rfl) (hk_ki fun v3 h3 q3 => ?_) hk_nx
      obtain ⟨rfl, rfl⟩ := q3
      refine hk_iload dL_law_1975 rfl rfl ?_
      refine hk_icmp_eq (tgt := 1982) dL_law_1977 (by decide) rfl (fun _ => ?_) (fun zz => absurd rfl zz)
      refine hk_iload dL_law_1982 rfl rfl ?_
      refine hk_if_ne (tgt := 1999) dL_law_1984 (by decide) rfl (fun zz => absurd rfl zz) (fun _ => ?_)
      refine hk_aload_n dL_law_1987 rfl rfl rfl ?_
      refine hk_iconst (v := nI 0) dL_law_1988 rfl (by decide) ?_
      refine hk_lald dL_law_1989 rfl ho3 (vp_in_nI (by decide) (by decide)) ?_
      refine cx_topl (show f9 (nI 0).toNatClampNeg = _ from hf9) ?_
      refine hk_iload dL_law_1990 rfl rfl ?_
      refine hk_i2l dL_law_1992 rfl ?_
      refine hk_lcmp dL_law_1993 rfl ?_
      refine hk_if_eq (tgt := 1999) dL_law_1994 (by decide) rfl (fun _ => ?_) (fun zz => absurd (lg_cmp_0.mpr (congrArg Int32.toInt64 hr2)) zz)
      refine hk_goto (tgt := 2285) dL_law_1999 (by decide) ?_
      exact hl_go KK (by omega) (by omega) hj2 hI2 (hl_lvle _ _ _)
    · exact absurd (ml_tr_z z) z2
  · skip
    have hR := hl_R0 (S' := S) hA hw hd ho hod
    obtain ⟨A9, thr9, -, -, hw1, -, -, -⟩ := id hR
    obtain ⟨fs1, hat1⟩ := hm_Wd_at hw1
    refine hk_aload_n dL_law_1959 rfl rfl rfl ?_
    refine hk_aload_n dL_law_1960 rfl rfl rfl ?_
    refine hk_iload dL_law_1961 rfl rfl ?_
    refine hk_iconst (v := nI 1) dL_law_1963 rfl (by decide) ?_
    refine hk_iadd dL_law_1964 rfl ?_
    refine cx_top (nI_add _ _) ?_
    refine hl_sld rfl (by omega) dL_law_1965 rfl (by omega) ?_
    refine cx_top e1 ?_
    refine hk_callV dL_law_1966 rfl mv_L_213 (cm_owners hfl hw1) rfl rfl hat1 rfl rfl (by decide) ⟨by omega, by omega⟩ (Nat.le_of_ble_eq_true rfl) (hk_ki fun v2 h2 q2 => ?_) hk_nx
    refine hk_istore dL_law_1969 rfl (by decide) rfl ?_
    obtain ⟨g2, hx2, q2⟩ := q2
    rcases q2 with ⟨z2, rfl, hw2⟩ | ⟨z2, hw2⟩
    · exact absurd z2 (ml_tr_p z (by decide)).1
    · skip
      obtain ⟨hI2, ho3, hod3⟩ := hl_fin hR hx2 hw2 hm_q.rf
      obtain ⟨fs2, hat2⟩ := hm_Wd_at hw2
      refine hk_aload_n dL_law_1971 rfl rfl rfl ?_
      refine hk_callV dL_law_1972 rfl mv_L_128 (cm_thrown hfl hw2) rfl rfl hat2 rfl rfl (by decide) ⟨Nat.zero_le _, Nat.zero_le _⟩ (Nat.le_of_ble_eq_true rfl) (hk_ki fun v3 h3 q3 => ?_) hk_nx
      obtain ⟨rfl, rfl⟩ := q3
      refine hk_iload dL_law_1975 rfl rfl ?_
      refine hk_icmp_eq (tgt := 1982) dL_law_1977 (by decide) rfl (fun _ => ?_) (fun zz => absurd rfl zz)
      refine hk_iload dL_law_1982 rfl rfl ?_
      refine hk_if_ne (tgt := 1999) dL_law_1984 (by decide) rfl (fun _ => ?_) (fun zz => absurd zz (nI_ne0 (Nat.pos_of_ne_zero (ml_tr_p z (by decide)).1) (ml_tr_p z (by decide)).2))
      refine hk_goto (tgt := 2285) dL_law_1999 (by decide) ?_
      exact hl_go KK (by omega) (by omega) (hj.up (Nat.le_succ t)) hI2 (hl_lvle _ _ _)
theorem lc_ore {w1 w2 w3 w4 u1 u2 u3 u4 : Int32} (hfl : l.stackTraces = false) (hj : hJ S c nc nb t) (ht : t < 512) (hL : 5 * t + 5 ≤ hk_K G 1101) (hw0 : hl_I G x m o od S c nc nb h) (hk : 220 ≤ k) (hn : 8000 ≤ n) (e1 : nI (hk_K G (4000 + (5 * t + 1))) = w1) (e2 : nI (hk_K G (4000 + (5 * t + 2))) = w2) (e3 : nI (hk_K G (4000 + (5 * t + 3))) = w3) (e4 : nI (hk_K G (4000 + (5 * t + 4))) = w4) (f1 : (w1.toUInt32 % 65536).toInt32 = u1) (f2 : (w2.toUInt32 % 65536).toInt32 = u2) (f3 : (w3.toUInt32 % 65536).toInt32 = u3) (f4 : (w4.toUInt32 % 65536).toInt32 = u4) (KK : hl_KK G l x m o od t (k - 220) (n - 8000)) : hk_W G l 12 yL_law cL_law 9 (some .boolean) [] hl_Qe hk_no k n h 2002 (hl_lv G x m o od t) [] := by
  obtain ⟨A, g, hm, thr, f, fd, hA, rfl, hw, hd, ho, hod, rfl⟩ := hw0
  unfold hl_lv
  obtain ⟨ho1, hoA⟩ := hl_oA hw hd ho
  refine hk_aload_n dL_law_2002 rfl rfl rfl ?_
  refine hk_aload_n dL_law_2003 rfl rfl rfl ?_
  refine hk_iload dL_law_2004 rfl rfl ?_
  refine hk_iconst (v := nI 1) dL_law_2006 rfl (by decide) ?_
  refine hk_iadd dL_law_2007 rfl ?_
  refine cx_top (nI_add _ _) ?_
  refine hl_sld rfl (by omega) dL_law_2008 rfl (by omega) ?_
  refine cx_top e1 ?_
  refine hk_aload_n dL_law_2009 rfl rfl rfl ?_
  refine hk_iload dL_law_2010 rfl rfl ?_
  refine hk_iconst (v := nI 2) dL_law_2012 rfl (by decide) ?_
  refine hk_iadd dL_law_2013 rfl ?_
  refine cx_top (nI_add _ _) ?_
  refine hl_sld rfl (by omega) dL_law_2014 rfl (by omega) ?_
  refine cx_top e2 ?_
  refine hk_i2c dL_law_2015 rfl f2 ?_
  refine hk_aload_n dL_law_2016 rfl rfl rfl ?_
  refine hl_callS dL_law_2017 rfl ls_L_214 (cl_ore (h := hm) hfl hA hj.I ho1 hoA) rfl rfl (by decide) ⟨by omega, by omega⟩ (Nat.le_of_ble_eq_true rfl) (hk_ki fun v1 h1 q1 => ?_) hk_nx
  refine hk_istore dL_law_2020 rfl (by decide) rfl ?_
  rcases q1 with ⟨z, rfl, f9, hf9, rfl⟩ | ⟨z, rfl, rfl⟩
  · skip
    have hR := hl_R1 (f1 := f9) (S' := S) hA hw hd ho hod
    obtain ⟨A9, thr9, -, -, hw1, -, -, -⟩ := id hR
    obtain ⟨fs1, hat1⟩ := hm_Wd_at hw1
    refine hk_aload_n dL_law_2022 rfl rfl rfl ?_
    refine hk_aload_n dL_law_2023 rfl rfl rfl ?_
    refine hk_iload dL_law_2024 rfl rfl ?_
    refine hk_iconst (v := nI 1) dL_law_2026 rfl (by decide) ?_
    refine hk_iadd dL_law_2027 rfl ?_
    refine cx_top (nI_add _ _) ?_
    refine hl_sld rfl (by omega) dL_law_2028 rfl (by omega) ?_
    refine cx_top e1 ?_
    refine hk_aload_n dL_law_2029 rfl rfl rfl ?_
    refine hk_iload dL_law_2030 rfl rfl ?_
    refine hk_iconst (v := nI 2) dL_law_2032 rfl (by decide) ?_
    refine hk_iadd dL_law_2033 rfl ?_
    refine cx_top (nI_add _ _) ?_
    refine hl_sld rfl (by omega) dL_law_2034 rfl (by omega) ?_
    refine cx_top e2 ?_
    refine hk_i2c dL_law_2035 rfl f2 ?_
    refine hk_callV dL_law_2036 rfl mv_L_216 (cm_ore hfl hw1) rfl rfl hat1 rfl rfl (by decide) ⟨by omega, by omega⟩ (Nat.le_of_ble_eq_true rfl) (hk_ki fun v2 h2 q2 => ?_) hk_nx
    refine hk_istore dL_law_2039 rfl (by decide) rfl ?_
    obtain ⟨g2, hx2, q2⟩ := q2
    rcases q2 with ⟨z2, rfl, hw2⟩ | ⟨z2, hw2⟩
    · skip
      obtain ⟨hq2, hj2, hr2⟩ := st_ore hj ht z
      obtain ⟨hI2, ho3, hod3⟩ := hl_fin hR hx2 hw2 hq2
      obtain ⟨fs2, hat2⟩ := hm_Wd_at hw2
      refine hk_aload_n dL_law_2041 rfl rfl rfl ?_
      refine hk_callV dL_law_2042 rfl mv_L_128 (cm_thrown hfl hw2) rfl rfl hat2 rfl rfl (by decide) ⟨Nat.zero_le _, Nat.zero_le _⟩ (Nat.le_of_ble_eq_true rfl) (hk_ki fun v3 h3 q3 => ?_) hk_nx
      obtain ⟨rfl, rfl⟩ := q3
      refine hk_iload dL_law_2045 rfl rfl ?_
      refine hk_icmp_eq (tgt := 2052) dL_law_2047 (by decide) rfl (fun _ => ?_) (fun zz => absurd rfl zz)
      refine hk_iload dL_law_2052 rfl rfl ?_
      refine hk_if_ne (tgt := 2069) dL_law_2054 (by decide) rfl (fun zz => absurd rfl zz) (fun _ => ?_)
      refine hk_aload_n dL_law_2057 rfl rfl rfl ?_
      refine hk_iconst (v := nI 0) dL_law_2058 rfl (by decide) ?_
      refine hk_lald dL_law_2059 rfl ho3 (vp_in_nI (by decide) (by decide)) ?_
      refine cx_topl (show f9 (nI 0).toNatClampNeg = _ from hf9) ?_
      refine hk_iload dL_law_2060 rfl rfl ?_
      refine hk_i2l dL_law_2062 rfl ?_
      refine hk_lcmp dL_law_2063 rfl ?_
      refine hk_if_eq (tgt := 2069) dL_law_2064 (by decide) rfl (fun _ => ?_) (fun zz => absurd (lg_cmp_0.mpr (congrArg Int32.toInt64 hr2)) zz)
      refine hk_goto (tgt := 2285) dL_law_2069 (by decide) ?_
      exact hl_go KK (by omega) (by omega) hj2 hI2 (hl_lvle _ _ _)
    · exact absurd (ml_tr_z z) z2
  · skip
    have hR := hl_R0 (S' := S) hA hw hd ho hod
    obtain ⟨A9, thr9, -, -, hw1, -, -, -⟩ := id hR
    obtain ⟨fs1, hat1⟩ := hm_Wd_at hw1
    refine hk_aload_n dL_law_2022 rfl rfl rfl ?_
    refine hk_aload_n dL_law_2023 rfl rfl rfl ?_
    refine hk_iload dL_law_2024 rfl rfl ?_
    refine hk_iconst (v := nI 1) dL_law_2026 rfl (by decide) ?_
    refine hk_iadd dL_law_2027 rfl ?_
    refine cx_top (nI_add _ _) ?_
    refine hl_sld rfl (by omega) dL_law_2028 rfl (by omega) ?_
    refine cx_top e1 ?_
    refine hk_aload_n dL_law_2029 rfl rfl rfl ?_
    refine hk_iload dL_law_2030 rfl rfl ?_
    refine hk_iconst (v := nI 2) dL_law_2032 rfl (by decide) ?_
    refine hk_iadd dL_law_2033 rfl ?_
    refine cx_top (nI_add _ _) ?_
    refine hl_sld rfl (by omega) dL_law_2034 rfl (by omega) ?_
    refine cx_top e2 ?_
    refine hk_i2c dL_law_2035 rfl f2 ?_
    refine hk_callV dL_law_2036 rfl mv_L_216 (cm_ore hfl hw1) rfl rfl hat1 rfl rfl (by decide) ⟨by omega, by omega⟩ (Nat.le_of_ble_eq_true rfl) (hk_ki fun v2 h2 q2 => ?_) hk_nx
    refine hk_istore dL_law_2039 rfl (by decide) rfl ?_
    obtain ⟨g2, hx2, q2⟩ := q2
    rcases q2 with ⟨z2, rfl, hw2⟩ | ⟨z2, hw2⟩
    · exact absurd z2 (ml_tr_p z (by decide)).1
    · skip
      obtain ⟨hI2, ho3, hod3⟩ := hl_fin hR hx2 hw2 hm_q.rf
      obtain ⟨fs2, hat2⟩ := hm_Wd_at hw2
      refine hk_aload_n dL_law_2041 rfl rfl rfl ?_
      refine hk_callV dL_law_2042 rfl mv_L_128 (cm_thrown hfl hw2) rfl rfl hat2 rfl rfl (by decide) ⟨Nat.zero_le _, Nat.zero_le _⟩ (Nat.le_of_ble_eq_true rfl) (hk_ki fun v3 h3 q3 => ?_) hk_nx
      obtain ⟨rfl, rfl⟩ := q3
      refine hk_iload dL_law_2045 rfl rfl ?_
      refine hk_icmp_eq (tgt := 2052) dL_law_2047 (by decide) rfl (fun _ => ?_) (fun zz => absurd rfl zz)
      refine hk_iload dL_law_2052 rfl rfl ?_
      refine hk_if_ne (tgt := 2069) dL_law_2054 (by decide) rfl (fun _ => ?_) (fun zz => absurd zz (nI_ne0 (Nat.pos_of_ne_zero (ml_tr_p z (by decide)).1) (ml_tr_p z (by decide)).2))
      refine hk_goto (tgt := 2285) dL_law_2069 (by decide) ?_
      exact hl_go KK (by omega) (by omega) (hj.up (Nat.le_succ t)) hI2 (hl_lvle _ _ _)
theorem lc_wealth {w1 w2 w3 w4 u1 u2 u3 u4 : Int32} (hfl : l.stackTraces = false) (hj : hJ S c nc nb t) (ht : t < 512) (hL : 5 * t + 5 ≤ hk_K G 1101) (hw0 : hl_I G x m o od S c nc nb h) (hk : 220 ≤ k) (hn : 8000 ≤ n) (e1 : nI (hk_K G (4000 + (5 * t + 1))) = w1) (e2 : nI (hk_K G (4000 + (5 * t + 2))) = w2) (e3 : nI (hk_K G (4000 + (5 * t + 3))) = w3) (e4 : nI (hk_K G (4000 + (5 * t + 4))) = w4) (f1 : (w1.toUInt32 % 65536).toInt32 = u1) (f2 : (w2.toUInt32 % 65536).toInt32 = u2) (f3 : (w3.toUInt32 % 65536).toInt32 = u3) (f4 : (w4.toUInt32 % 65536).toInt32 = u4) (KK : hl_KK G l x m o od t (k - 220) (n - 8000)) : hk_W G l 12 yL_law cL_law 9 (some .boolean) [] hl_Qe hk_no k n h 2072 (hl_lv G x m o od t) [] := by
  obtain ⟨A, g, hm, thr, f, fd, hA, rfl, hw, hd, ho, hod, rfl⟩ := hw0
  unfold hl_lv
  obtain ⟨ho1, hoA⟩ := hl_oA hw hd ho
  refine hk_aload_n dL_law_2072 rfl rfl rfl ?_
  refine hk_aload_n dL_law_2073 rfl rfl rfl ?_
  refine hk_iload dL_law_2074 rfl rfl ?_
  refine hk_iconst (v := nI 1) dL_law_2076 rfl (by decide) ?_
  refine hk_iadd dL_law_2077 rfl ?_
  refine cx_top (nI_add _ _) ?_
  refine hl_sld rfl (by omega) dL_law_2078 rfl (by omega) ?_
  refine cx_top e1 ?_
  refine hk_aload_n dL_law_2079 rfl rfl rfl ?_
  refine hl_callS dL_law_2080 rfl ls_L_217 (cl_wealth (h := hm) hfl hA hj.I ho1 hoA) rfl rfl (by decide) ⟨by omega, by omega⟩ (Nat.le_of_ble_eq_true rfl) (hk_ki fun v1 h1 q1 => ?_) hk_nx
  refine hk_istore dL_law_2083 rfl (by decide) rfl ?_
  rcases q1 with ⟨z, rfl, f9, hf9, rfl⟩ | ⟨z, rfl, rfl⟩
  · skip
    have hR := hl_R1 (f1 := f9) (S' := S) hA hw hd ho hod
    obtain ⟨A9, thr9, -, -, hw1, -, -, -⟩ := id hR
    obtain ⟨fs1, hat1⟩ := hm_Wd_at hw1
    refine hk_aload_n dL_law_2085 rfl rfl rfl ?_
    refine hk_aload_n dL_law_2086 rfl rfl rfl ?_
    refine hk_iload dL_law_2087 rfl rfl ?_
    refine hk_iconst (v := nI 1) dL_law_2089 rfl (by decide) ?_
    refine hk_iadd dL_law_2090 rfl ?_
    refine cx_top (nI_add _ _) ?_
    refine hl_sld rfl (by omega) dL_law_2091 rfl (by omega) ?_
    refine cx_top e1 ?_
    refine hk_callV dL_law_2092 rfl mv_L_219 (cm_wealth hfl hw1 hj.C) rfl rfl hat1 rfl rfl (by decide) ⟨by omega, by omega⟩ (Nat.le_of_ble_eq_true rfl) (hk_kl fun v2 h2 q2 => ?_) hk_nx
    refine hk_lstore dL_law_2095 rfl (by decide) rfl ?_
    obtain ⟨g2, hx2, q2⟩ := q2
    rcases q2 with ⟨z2, rfl, hw2⟩ | ⟨z2, hw2⟩
    · skip
      obtain ⟨hq2, hj2, hr2⟩ := st_wealth hj ht z
      obtain ⟨hI2, ho3, hod3⟩ := hl_fin hR hx2 hw2 hq2
      obtain ⟨fs2, hat2⟩ := hm_Wd_at hw2
      refine hk_aload_n dL_law_2097 rfl rfl rfl ?_
      refine hk_callV dL_law_2098 rfl mv_L_128 (cm_thrown hfl hw2) rfl rfl hat2 rfl rfl (by decide) ⟨Nat.zero_le _, Nat.zero_le _⟩ (Nat.le_of_ble_eq_true rfl) (hk_ki fun v3 h3 q3 => ?_) hk_nx
      obtain ⟨rfl, rfl⟩ := q3
      refine hk_iload dL_law_2101 rfl rfl ?_
      refine hk_icmp_eq (tgt := 2108) dL_law_2103 (by decide) rfl (fun _ => ?_) (fun zz => absurd rfl zz)
      refine hk_iload dL_law_2108 rfl rfl ?_
      refine hk_if_ne (tgt := 2124) dL_law_2110 (by decide) rfl (fun zz => absurd rfl zz) (fun _ => ?_)
      refine hk_aload_n dL_law_2113 rfl rfl rfl ?_
      refine hk_iconst (v := nI 0) dL_law_2114 rfl (by decide) ?_
      refine hk_lald dL_law_2115 rfl ho3 (vp_in_nI (by decide) (by decide)) ?_
      refine cx_topl (show f9 (nI 0).toNatClampNeg = _ from hf9) ?_
      refine hk_lload dL_law_2116 rfl rfl ?_
      refine hk_lcmp dL_law_2118 rfl ?_
      refine hk_if_eq (tgt := 2124) dL_law_2119 (by decide) rfl (fun _ => ?_) (fun zz => absurd (lg_cmp_0.mpr (hr2)) zz)
      refine hk_goto (tgt := 2285) dL_law_2124 (by decide) ?_
      exact hl_go KK (by omega) (by omega) hj2 hI2 (hl_lvle _ _ _)
    · exact absurd (ml_tr_z z) z2
  · skip
    have hR := hl_R0 (S' := S) hA hw hd ho hod
    obtain ⟨A9, thr9, -, -, hw1, -, -, -⟩ := id hR
    obtain ⟨fs1, hat1⟩ := hm_Wd_at hw1
    refine hk_aload_n dL_law_2085 rfl rfl rfl ?_
    refine hk_aload_n dL_law_2086 rfl rfl rfl ?_
    refine hk_iload dL_law_2087 rfl rfl ?_
    refine hk_iconst (v := nI 1) dL_law_2089 rfl (by decide) ?_
    refine hk_iadd dL_law_2090 rfl ?_
    refine cx_top (nI_add _ _) ?_
    refine hl_sld rfl (by omega) dL_law_2091 rfl (by omega) ?_
    refine cx_top e1 ?_
    refine hk_callV dL_law_2092 rfl mv_L_219 (cm_wealth hfl hw1 hj.C) rfl rfl hat1 rfl rfl (by decide) ⟨by omega, by omega⟩ (Nat.le_of_ble_eq_true rfl) (hk_kl fun v2 h2 q2 => ?_) hk_nx
    refine hk_lstore dL_law_2095 rfl (by decide) rfl ?_
    obtain ⟨g2, hx2, q2⟩ := q2
    rcases q2 with ⟨z2, rfl, hw2⟩ | ⟨z2, hw2⟩
    · exact absurd z2 (ml_tr_p z (by decide)).1
    · skip
      obtain ⟨hI2, ho3, hod3⟩ := hl_fin hR hx2 hw2 hm_q.rf
      obtain ⟨fs2, hat2⟩ := hm_Wd_at hw2
      refine hk_aload_n dL_law_2097 rfl rfl rfl ?_
      refine hk_callV dL_law_2098 rfl mv_L_128 (cm_thrown hfl hw2) rfl rfl hat2 rfl rfl (by decide) ⟨Nat.zero_le _, Nat.zero_le _⟩ (Nat.le_of_ble_eq_true rfl) (hk_ki fun v3 h3 q3 => ?_) hk_nx
      obtain ⟨rfl, rfl⟩ := q3
      refine hk_iload dL_law_2101 rfl rfl ?_
      refine hk_icmp_eq (tgt := 2108) dL_law_2103 (by decide) rfl (fun _ => ?_) (fun zz => absurd rfl zz)
      refine hk_iload dL_law_2108 rfl rfl ?_
      refine hk_if_ne (tgt := 2124) dL_law_2110 (by decide) rfl (fun _ => ?_) (fun zz => absurd zz (nI_ne0 (Nat.pos_of_ne_zero (ml_tr_p z (by decide)).1) (ml_tr_p z (by decide)).2))
      refine hk_goto (tgt := 2285) dL_law_2124 (by decide) ?_
      exact hl_go KK (by omega) (by omega) (hj.up (Nat.le_succ t)) hI2 (hl_lvle _ _ _)
theorem lc_lost {w1 w2 w3 w4 u1 u2 u3 u4 : Int32} (hfl : l.stackTraces = false) (hj : hJ S c nc nb t) (ht : t < 512) (hL : 5 * t + 5 ≤ hk_K G 1101) (hw0 : hl_I G x m o od S c nc nb h) (hk : 220 ≤ k) (hn : 8000 ≤ n) (e1 : nI (hk_K G (4000 + (5 * t + 1))) = w1) (e2 : nI (hk_K G (4000 + (5 * t + 2))) = w2) (e3 : nI (hk_K G (4000 + (5 * t + 3))) = w3) (e4 : nI (hk_K G (4000 + (5 * t + 4))) = w4) (f1 : (w1.toUInt32 % 65536).toInt32 = u1) (f2 : (w2.toUInt32 % 65536).toInt32 = u2) (f3 : (w3.toUInt32 % 65536).toInt32 = u3) (f4 : (w4.toUInt32 % 65536).toInt32 = u4) (KK : hl_KK G l x m o od t (k - 220) (n - 8000)) : hk_W G l 12 yL_law cL_law 9 (some .boolean) [] hl_Qe hk_no k n h 2127 (hl_lv G x m o od t) [] := by
  obtain ⟨A, g, hm, thr, f, fd, hA, rfl, hw, hd, ho, hod, rfl⟩ := hw0
  unfold hl_lv
  refine hk_aload_n dL_law_2127 rfl rfl rfl ?_
  refine hl_cl hA rfl dL_law_2128 rfl mv_L_220 (ct_X6_lost (S := S) (h := hm) hfl hA) rfl rfl (by decide) ⟨Nat.zero_le _, Nat.zero_le _⟩ (Nat.le_of_ble_eq_true rfl) (fun _ => ?_) (fun E hx => hx.elim)
  have hR := hl_R0 (S' := S) hA hw hd ho hod
  obtain ⟨A9, thr9, -, -, hw1, -, -, -⟩ := id hR
  obtain ⟨fs1, hat1⟩ := hm_Wd_at hw1
  refine hk_aload_n dL_law_2131 rfl rfl rfl ?_
  refine hk_callV dL_law_2132 rfl mv_L_224 (cm_lost hfl hw1) rfl rfl hat1 rfl rfl (by decide) ⟨by omega, by omega⟩ (Nat.le_of_ble_eq_true rfl) (hk_kl fun v2 h2 q2 => ?_) hk_nx
  obtain ⟨g2, hx2, q2⟩ := q2
  rcases q2 with ⟨z2, rfl, hw2⟩ | ⟨z2, hw2⟩
  · skip
    obtain ⟨hI2, -, -⟩ := hl_fin hR hx2 hw2 hm_q.rf
    refine hk_lcmp dL_law_2135 rfl ?_
    refine hk_if_eq (tgt := 2285) dL_law_2136 (by decide) rfl (fun _ => ?_) (fun zz => absurd (lg_cmp_0.mpr rfl) zz)
    exact hl_go KK (by omega) (by omega) (hj.up (Nat.le_succ t)) hI2 (hl_lvle _ _ _)
  · exact absurd rfl z2
end LC6

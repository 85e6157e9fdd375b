theorem dL_law_2141 : decode cL_law 2141 = .ok (.aload_n 1, 1) := by decide +kernel
theorem dL_law_2142 : decode cL_law 2142 = .ok (.aload 4, 2) := by decide +kernel
theorem dL_law_2144 : decode cL_law 2144 = .ok (.invokestatic 225, 3) := by decide +kernel
theorem dL_law_2147 : decode cL_law 2147 = .ok (.istore 6, 2) := by decide +kernel
theorem dL_law_2149 : decode cL_law 2149 = .ok (.aload_n 2, 1) := by decide +kernel
theorem dL_law_2150 : decode cL_law 2150 = .ok (.invokevirtual 228, 3) := by decide +kernel
theorem dL_law_2153 : decode cL_law 2153 = .ok (.fstore 7, 2) := by decide +kernel
theorem dL_law_2155 : decode cL_law 2155 = .ok (.aload_n 2, 1) := by decide +kernel
theorem dL_law_2156 : decode cL_law 2156 = .ok (.invokevirtual 128, 3) := by decide +kernel
theorem dL_law_2159 : decode cL_law 2159 = .ok (.iload 6, 2) := by decide +kernel
theorem dL_law_2161 : decode cL_law 2161 = .ok (.if_icmp .eq 5, 3) := by decide +kernel
theorem dL_law_2166 : decode cL_law 2166 = .ok (.iload 6, 2) := by decide +kernel
theorem dL_law_2168 : decode cL_law 2168 = .ok (.ifCond .ne 36, 3) := by decide +kernel
theorem dL_law_2171 : decode cL_law 2171 = .ok (.aload 4, 2) := by decide +kernel
theorem dL_law_2173 : decode cL_law 2173 = .ok (.iconst 0, 1) := by decide +kernel
theorem dL_law_2174 : decode cL_law 2174 = .ok (.daload, 1) := by decide +kernel
theorem dL_law_2175 : decode cL_law 2175 = .ok (.fload 7, 2) := by decide +kernel
theorem dL_law_2177 : decode cL_law 2177 = .ok (.f2d, 1) := by decide +kernel
theorem dL_law_2178 : decode cL_law 2178 = .ok (.dcmp .l, 1) := by decide +kernel
theorem dL_law_2179 : decode cL_law 2179 = .ok (.ifCond .eq 25, 3) := by decide +kernel
theorem dL_law_2204 : decode cL_law 2204 = .ok (.goto 81, 3) := by decide +kernel
theorem dL_law_2207 : decode cL_law 2207 = .ok (.aload_n 1, 1) := by decide +kernel
theorem dL_law_2208 : decode cL_law 2208 = .ok (.aload 4, 2) := by decide +kernel
theorem dL_law_2210 : decode cL_law 2210 = .ok (.invokestatic 229, 3) := by decide +kernel
theorem dL_law_2213 : decode cL_law 2213 = .ok (.istore 6, 2) := by decide +kernel
theorem dL_law_2215 : decode cL_law 2215 = .ok (.aload_n 2, 1) := by decide +kernel
theorem dL_law_2216 : decode cL_law 2216 = .ok (.invokevirtual 231, 3) := by decide +kernel
theorem dL_law_2219 : decode cL_law 2219 = .ok (.dstore 7, 2) := by decide +kernel
theorem dL_law_2221 : decode cL_law 2221 = .ok (.aload_n 2, 1) := by decide +kernel
theorem dL_law_2222 : decode cL_law 2222 = .ok (.invokevirtual 128, 3) := by decide +kernel
theorem dL_law_2225 : decode cL_law 2225 = .ok (.iload 6, 2) := by decide +kernel
theorem dL_law_2227 : decode cL_law 2227 = .ok (.if_icmp .eq 5, 3) := by decide +kernel
theorem dL_law_2232 : decode cL_law 2232 = .ok (.iload 6, 2) := by decide +kernel
theorem dL_law_2234 : decode cL_law 2234 = .ok (.ifCond .ne 35, 3) := by decide +kernel
theorem dL_law_2237 : decode cL_law 2237 = .ok (.aload 4, 2) := by decide +kernel
theorem dL_law_2239 : decode cL_law 2239 = .ok (.iconst 0, 1) := by decide +kernel
theorem dL_law_2240 : decode cL_law 2240 = .ok (.daload, 1) := by decide +kernel
theorem dL_law_2241 : decode cL_law 2241 = .ok (.dload 7, 2) := by decide +kernel
theorem dL_law_2243 : decode cL_law 2243 = .ok (.dcmp .l, 1) := by decide +kernel
theorem dL_law_2244 : decode cL_law 2244 = .ok (.ifCond .eq 25, 3) := by decide +kernel
theorem dL_law_2269 : decode cL_law 2269 = .ok (.goto 16, 3) := by decide +kernel
theorem dL_law_2272 : decode cL_law 2272 = .ok (.aload_n 1, 1) := by decide +kernel
theorem dL_law_2273 : decode cL_law 2273 = .ok (.invokevirtual 232, 3) := by decide +kernel
theorem dL_law_2276 : decode cL_law 2276 = .ok (.aload_n 2, 1) := by decide +kernel
theorem dL_law_2277 : decode cL_law 2277 = .ok (.invokevirtual 236, 3) := by decide +kernel
theorem dL_law_2280 : decode cL_law 2280 = .ok (.if_icmp .eq 5, 3) := by decide +kernel
section LC7
variable {G : hk_G} {l : Launch} {x m o od c nc nb t k n : Nat} {S : hs_S} {h : hk_H}
theorem lc_lightShare {w1 w2 w3 w4 u1 u2 u3 u4 : Int32} (hfl : l.stackTraces = false) (hj : hJ S c nc nb t) (ht : t < 512) (hL : 5 * t + 5 ≤ hk_K G 1101) (hw0 : hl_I G x m o od S c nc nb h) (hk : 220 ≤ k) (hn : 8000 ≤ n) (e1 : nI (hk_K G (4000 + (5 * t + 1))) = w1) (e2 : nI (hk_K G (4000 + (5 * t + 2))) = w2) (e3 : nI (hk_K G (4000 + (5 * t + 3))) = w3) (e4 : nI (hk_K G (4000 + (5 * t + 4))) = w4) (f1 : (w1.toUInt32 % 65536).toInt32 = u1) (f2 : (w2.toUInt32 % 65536).toInt32 = u2) (f3 : (w3.toUInt32 % 65536).toInt32 = u3) (f4 : (w4.toUInt32 % 65536).toInt32 = u4) (KK : hl_KK G l x m o od t (k - 220) (n - 8000)) : hk_W G l 12 yL_law cL_law 9 (some .boolean) [] hl_Qe hk_no k n h 2141 (hl_lv G x m o od t) [] := by
  obtain ⟨A, g, hm, thr, f, fd, hA, rfl, hw, hd, ho, hod, rfl⟩ := hw0
  unfold hl_lv
  obtain ⟨ho1, hoA⟩ := hl_oA hw hd hod
  refine hk_aload_n dL_law_2141 rfl rfl rfl ?_
  refine hk_aload dL_law_2142 rfl rfl ?_
  refine hl_callS dL_law_2144 rfl ls_L_225 (cl_lightShare (h := hm) hfl hA hj.I (fun e => (ls_n hj e).1) (fun e => (ls_n hj e).2) ho1 hoA) rfl rfl (by decide) ⟨by omega, by omega⟩ (Nat.le_of_ble_eq_true rfl) (hk_ki fun v1 h1 q1 => ?_) hk_nx
  refine hk_istore dL_law_2147 rfl (by decide) rfl ?_
  rcases q1 with ⟨z, rfl, f9, hf9, rfl⟩ | ⟨z, rfl, rfl⟩
  · skip
    have hR := hl_R2 (fd1 := f9) (S' := S) hA hw hd ho hod
    obtain ⟨A9, thr9, -, -, hw1, -, -, -⟩ := id hR
    obtain ⟨fs1, hat1⟩ := hm_Wd_at hw1
    refine hk_aload_n dL_law_2149 rfl rfl rfl ?_
    refine hk_callV dL_law_2150 rfl mv_L_228 (cm_lightShare hfl hw1 hj.C (fun e => by rw [ls_e hj, al_e hj]; exact (ls_n hj e).1)) rfl rfl hat1 rfl rfl (by decide) ⟨by omega, by omega⟩ (Nat.le_of_ble_eq_true rfl) (hk_kf fun v2 h2 q2 => ?_) hk_nx
    refine hk_fstore dL_law_2153 rfl (by decide) rfl ?_
    obtain ⟨g2, hx2, q2⟩ := q2
    rcases q2 with ⟨z2, rfl, hw2⟩ | ⟨z2, hw2⟩
    · skip
      obtain ⟨hq2, hj2, hr2⟩ := st_lightShare hj ht z
      obtain ⟨hI2, ho3, hod3⟩ := hl_fin hR hx2 hw2 hq2
      obtain ⟨fs2, hat2⟩ := hm_Wd_at hw2
      refine hk_aload_n dL_law_2155 rfl rfl rfl ?_
      refine hk_callV dL_law_2156 rfl mv_L_128 (cm_thrown hfl hw2) rfl rfl hat2 rfl rfl (by decide) ⟨Nat.zero_le _, Nat.zero_le _⟩ (Nat.le_of_ble_eq_true rfl) (hk_ki fun v3 h3 q3 => ?_) hk_nx
      obtain ⟨rfl, rfl⟩ := q3
      refine hk_iload dL_law_2159 rfl rfl ?_
      refine hk_icmp_eq (tgt := 2166) dL_law_2161 (by decide) rfl (fun _ => ?_) (fun zz => absurd rfl zz)
      refine hk_iload dL_law_2166 rfl rfl ?_
      refine hk_if_ne (tgt := 2204) dL_law_2168 (by decide) rfl (fun zz => absurd rfl zz) (fun _ => ?_)
      refine hk_aload dL_law_2171 rfl rfl ?_
      refine hk_iconst (v := nI 0) dL_law_2173 rfl (by decide) ?_
      refine hk_dald dL_law_2174 rfl hod3 (vp_in_nI (by decide) (by decide)) ?_
      refine hl_topd (show f9 (nI 0).toNatClampNeg = _ from hf9) ?_
      refine hk_fload dL_law_2175 rfl rfl ?_
      have hnf := (ls_n hj (fun e => by unfold cd_U at z; rw [if_pos e] at z; cases z)).2
      refine hk_f2d dL_law_2177 rfl (by rw [← hr2]; exact hnf) ?_
      refine hk_dcmp dL_law_2178 rfl ?_
      refine hk_if_eq (tgt := 2204) dL_law_2179 (by decide) rfl (fun _ => ?_) (fun zz => absurd (by rw [← hr2]; exact fcmp_z hnf) zz)
      refine hk_goto (tgt := 2285) dL_law_2204 (by decide) ?_
      exact hl_go KK (by omega) (by omega) hj2 hI2 (hl_lvle _ _ _)
    · exact absurd (ml_tr_z z) z2
  · skip
    have hR := hl_R0 (S' := S) hA hw hd ho hod
    obtain ⟨A9, thr9, -, -, hw1, -, -, -⟩ := id hR
    obtain ⟨fs1, hat1⟩ := hm_Wd_at hw1
    refine hk_aload_n dL_law_2149 rfl rfl rfl ?_
    refine hk_callV dL_law_2150 rfl mv_L_228 (cm_lightShare hfl hw1 hj.C (fun e => by rw [ls_e hj, al_e hj]; exact (ls_n hj e).1)) rfl rfl hat1 rfl rfl (by decide) ⟨by omega, by omega⟩ (Nat.le_of_ble_eq_true rfl) (hk_kf fun v2 h2 q2 => ?_) hk_nx
    refine hk_fstore dL_law_2153 rfl (by decide) rfl ?_
    obtain ⟨g2, hx2, q2⟩ := q2
    rcases q2 with ⟨z2, rfl, hw2⟩ | ⟨z2, hw2⟩
    · exact absurd z2 (ml_tr_p z (by decide)).1
    · skip
      obtain ⟨hI2, ho3, hod3⟩ := hl_fin hR hx2 hw2 hm_q.rf
      obtain ⟨fs2, hat2⟩ := hm_Wd_at hw2
      refine hk_aload_n dL_law_2155 rfl rfl rfl ?_
      refine hk_callV dL_law_2156 rfl mv_L_128 (cm_thrown hfl hw2) rfl rfl hat2 rfl rfl (by decide) ⟨Nat.zero_le _, Nat.zero_le _⟩ (Nat.le_of_ble_eq_true rfl) (hk_ki fun v3 h3 q3 => ?_) hk_nx
      obtain ⟨rfl, rfl⟩ := q3
      refine hk_iload dL_law_2159 rfl rfl ?_
      refine hk_icmp_eq (tgt := 2166) dL_law_2161 (by decide) rfl (fun _ => ?_) (fun zz => absurd rfl zz)
      refine hk_iload dL_law_2166 rfl rfl ?_
      refine hk_if_ne (tgt := 2204) dL_law_2168 (by decide) rfl (fun _ => ?_) (fun zz => absurd zz (nI_ne0 (Nat.pos_of_ne_zero (ml_tr_p z (by decide)).1) (ml_tr_p z (by decide)).2))
      refine hk_goto (tgt := 2285) dL_law_2204 (by decide) ?_
      exact hl_go KK (by omega) (by omega) (hj.up (Nat.le_succ t)) hI2 (hl_lvle _ _ _)
theorem lc_meanWeight {w1 w2 w3 w4 u1 u2 u3 u4 : Int32} (hfl : l.stackTraces = false) (hj : hJ S c nc nb t) (ht : t < 512) (hL : 5 * t + 5 ≤ hk_K G 1101) (hw0 : hl_I G x m o od S c nc nb h) (hk : 220 ≤ k) (hn : 8000 ≤ n) (e1 : nI (hk_K G (4000 + (5 * t + 1))) = w1) (e2 : nI (hk_K G (4000 + (5 * t + 2))) = w2) (e3 : nI (hk_K G (4000 + (5 * t + 3))) = w3) (e4 : nI (hk_K G (4000 + (5 * t + 4))) = w4) (f1 : (w1.toUInt32 % 65536).toInt32 = u1) (f2 : (w2.toUInt32 % 65536).toInt32 = u2) (f3 : (w3.toUInt32 % 65536).toInt32 = u3) (f4 : (w4.toUInt32 % 65536).toInt32 = u4) (KK : hl_KK G l x m o od t (k - 220) (n - 8000)) : hk_W G l 12 yL_law cL_law 9 (some .boolean) [] hl_Qe hk_no k n h 2207 (hl_lv G x m o od t) [] := by
  obtain ⟨A, g, hm, thr, f, fd, hA, rfl, hw, hd, ho, hod, rfl⟩ := hw0
  unfold hl_lv
  obtain ⟨ho1, hoA⟩ := hl_oA hw hd hod
  refine hk_aload_n dL_law_2207 rfl rfl rfl ?_
  refine hk_aload dL_law_2208 rfl rfl ?_
  refine hl_callS dL_law_2210 rfl ls_L_229 (cl_meanWeight (h := hm) hfl hA hj.I (fun e => mw_n hj ht e) ho1 hoA) rfl rfl (by decide) ⟨by omega, by omega⟩ (Nat.le_of_ble_eq_true rfl) (hk_ki fun v1 h1 q1 => ?_) hk_nx
  refine hk_istore dL_law_2213 rfl (by decide) rfl ?_
  rcases q1 with ⟨z, rfl, f9, hf9, rfl⟩ | ⟨z, rfl, rfl⟩
  · skip
    have hR := hl_R2 (fd1 := f9) (S' := S) hA hw hd ho hod
    obtain ⟨A9, thr9, -, -, hw1, -, -, -⟩ := id hR
    obtain ⟨fs1, hat1⟩ := hm_Wd_at hw1
    refine hk_aload_n dL_law_2215 rfl rfl rfl ?_
    refine hk_callV dL_law_2216 rfl mv_L_231 (cm_meanWeight hfl hw1 hj.C (fun e => by rw [wt_e hj, al_e hj]; exact mw_n hj ht e)) rfl rfl hat1 rfl rfl (by decide) ⟨by omega, by omega⟩ (Nat.le_of_ble_eq_true rfl) (hk_kd fun v2 h2 q2 => ?_) hk_nx
    refine hk_dstore dL_law_2219 rfl (by decide) rfl ?_
    obtain ⟨g2, hx2, q2⟩ := q2
    rcases q2 with ⟨z2, rfl, hw2⟩ | ⟨z2, hw2⟩
    · skip
      obtain ⟨hq2, hj2, hr2⟩ := st_meanWeight hj ht z
      obtain ⟨hI2, ho3, hod3⟩ := hl_fin hR hx2 hw2 hq2
      obtain ⟨fs2, hat2⟩ := hm_Wd_at hw2
      refine hk_aload_n dL_law_2221 rfl rfl rfl ?_
      refine hk_callV dL_law_2222 rfl mv_L_128 (cm_thrown hfl hw2) rfl rfl hat2 rfl rfl (by decide) ⟨Nat.zero_le _, Nat.zero_le _⟩ (Nat.le_of_ble_eq_true rfl) (hk_ki fun v3 h3 q3 => ?_) hk_nx
      obtain ⟨rfl, rfl⟩ := q3
      refine hk_iload dL_law_2225 rfl rfl ?_
      refine hk_icmp_eq (tgt := 2232) dL_law_2227 (by decide) rfl (fun _ => ?_) (fun zz => absurd rfl zz)
      refine hk_iload dL_law_2232 rfl rfl ?_
      refine hk_if_ne (tgt := 2269) dL_law_2234 (by decide) rfl (fun zz => absurd rfl zz) (fun _ => ?_)
      refine hk_aload dL_law_2237 rfl rfl ?_
      refine hk_iconst (v := nI 0) dL_law_2239 rfl (by decide) ?_
      refine hk_dald dL_law_2240 rfl hod3 (vp_in_nI (by decide) (by decide)) ?_
      refine hl_topd (show f9 (nI 0).toNatClampNeg = _ from hf9) ?_
      refine hk_dload dL_law_2241 rfl rfl ?_
      have hnf := mw_n hj ht (fun e => by unfold cd_U at z; rw [if_pos e] at z; cases z)
      refine hk_dcmp dL_law_2243 rfl ?_
      refine hk_if_eq (tgt := 2269) dL_law_2244 (by decide) rfl (fun _ => ?_) (fun zz => absurd (by rw [← hr2]; exact fcmp_z hnf) zz)
      refine hk_goto (tgt := 2285) dL_law_2269 (by decide) ?_
      exact hl_go KK (by omega) (by omega) hj2 hI2 (hl_lvle _ _ _)
    · exact absurd (ml_tr_z z) z2
  · skip
    have hR := hl_R0 (S' := S) hA hw hd ho hod
    obtain ⟨A9, thr9, -, -, hw1, -, -, -⟩ := id hR
    obtain ⟨fs1, hat1⟩ := hm_Wd_at hw1
    refine hk_aload_n dL_law_2215 rfl rfl rfl ?_
    refine hk_callV dL_law_2216 rfl mv_L_231 (cm_meanWeight hfl hw1 hj.C (fun e => by rw [wt_e hj, al_e hj]; exact mw_n hj ht e)) rfl rfl hat1 rfl rfl (by decide) ⟨by omega, by omega⟩ (Nat.le_of_ble_eq_true rfl) (hk_kd fun v2 h2 q2 => ?_) hk_nx
    refine hk_dstore dL_law_2219 rfl (by decide) rfl ?_
    obtain ⟨g2, hx2, q2⟩ := q2
    rcases q2 with ⟨z2, rfl, hw2⟩ | ⟨z2, hw2⟩
    · exact absurd z2 (ml_tr_p z (by decide)).1
    · skip
      obtain ⟨hI2, ho3, hod3⟩ := hl_fin hR hx2 hw2 hm_q.rf
      obtain ⟨fs2, hat2⟩ := hm_Wd_at hw2
      refine hk_aload_n dL_law_2221 rfl rfl rfl ?_
      refine hk_callV dL_law_2222 rfl mv_L_128 (cm_thrown hfl hw2) rfl rfl hat2 rfl rfl (by decide) ⟨Nat.zero_le _, Nat.zero_le _⟩ (Nat.le_of_ble_eq_true rfl) (hk_ki fun v3 h3 q3 => ?_) hk_nx
      obtain ⟨rfl, rfl⟩ := q3
      refine hk_iload dL_law_2225 rfl rfl ?_
      refine hk_icmp_eq (tgt := 2232) dL_law_2227 (by decide) rfl (fun _ => ?_) (fun zz => absurd rfl zz)
      refine hk_iload dL_law_2232 rfl rfl ?_
      refine hk_if_ne (tgt := 2269) dL_law_2234 (by decide) rfl (fun _ => ?_) (fun zz => absurd zz (nI_ne0 (Nat.pos_of_ne_zero (ml_tr_p z (by decide)).1) (ml_tr_p z (by decide)).2))
      refine hk_goto (tgt := 2285) dL_law_2269 (by decide) ?_
      exact hl_go KK (by omega) (by omega) (hj.up (Nat.le_succ t)) hI2 (hl_lvle _ _ _)
theorem lc_isSound {w1 w2 w3 w4 u1 u2 u3 u4 : Int32} (hfl : l.stackTraces = false) (hj : hJ S c nc nb t) (ht : t < 512) (hL : 5 * t + 5 ≤ hk_K G 1101) (hw0 : hl_I G x m o od S c nc nb h) (hk : 220 ≤ k) (hn : 8000 ≤ n) (e1 : nI (hk_K G (4000 + (5 * t + 1))) = w1) (e2 : nI (hk_K G (4000 + (5 * t + 2))) = w2) (e3 : nI (hk_K G (4000 + (5 * t + 3))) = w3) (e4 : nI (hk_K G (4000 + (5 * t + 4))) = w4) (f1 : (w1.toUInt32 % 65536).toInt32 = u1) (f2 : (w2.toUInt32 % 65536).toInt32 = u2) (f3 : (w3.toUInt32 % 65536).toInt32 = u3) (f4 : (w4.toUInt32 % 65536).toInt32 = u4) (KK : hl_KK G l x m o od t (k - 220) (n - 8000)) : hk_W G l 12 yL_law cL_law 9 (some .boolean) [] hl_Qe hk_no k n h 2272 (hl_lv G x m o od t) [] := by
  obtain ⟨A, g, hm, thr, f, fd, hA, rfl, hw, hd, ho, hod, rfl⟩ := hw0
  unfold hl_lv
  refine hk_aload_n dL_law_2272 rfl rfl rfl ?_
  refine hl_cl hA rfl dL_law_2273 rfl mv_L_232 (ct_X6_isSound (h := hm) hfl hA hj.2.1.1 hj.2.1.2.1 hj.hb8 (sn_1 hj) (sn_2 hj) (sn_3 hj) (sn_w hj (by decide)) (sn_w hj (by decide)) (sn_g hj)) rfl rfl (by decide) ⟨Nat.zero_le _, Nat.zero_le _⟩ (Nat.le_of_ble_eq_true rfl) (fun _ => ?_) (fun E hx => hx.elim)
  have hR := hl_R0 (S' := S) hA hw hd ho hod
  obtain ⟨A9, thr9, -, -, hw1, -, -, -⟩ := id hR
  obtain ⟨fs1, hat1⟩ := hm_Wd_at hw1
  refine hk_aload_n dL_law_2276 rfl rfl rfl ?_
  refine hk_callV dL_law_2277 rfl mv_L_236 (cm_isSound hfl hw1) rfl rfl hat1 rfl rfl (by decide) ⟨by omega, by omega⟩ (Nat.le_of_ble_eq_true rfl) (hk_ki fun v2 h2 q2 => ?_) hk_nx
  obtain ⟨g2, hx2, q2⟩ := q2
  rcases q2 with ⟨z2, rfl, hw2⟩ | ⟨z2, hw2⟩
  · skip
    obtain ⟨hI2, -, -⟩ := hl_fin hR hx2 hw2 hm_q.rf
    refine hk_icmp_eq (tgt := 2285) dL_law_2280 (by decide) rfl (fun _ => ?_) (fun zz => absurd rfl zz)
    exact hl_go KK (by omega) (by omega) (hj.up (Nat.le_succ t)) hI2 (hl_lvle _ _ _)
  · exact absurd rfl z2
end LC7

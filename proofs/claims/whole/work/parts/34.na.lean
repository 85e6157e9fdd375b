section CM14
variable {G : hk_G} {l : Launch} {S : hs_S} {c nc nb m : Nat} {thr : Int32} {g h : hk_H}
def hs_wd (S : hs_S) (c nc a b m k : Nat) : hs_S × Int32 := if k ≤ cs_loose S b m nc then (cs_cadd (cs_gl b a m nc S k).1 a b (-(nI k * S.1 9 m)), nI 112) else (hs_fails S b c nc, nI 120)
theorem cm_withdraw {v t mt q : Int32} (hfl : l.stackTraces = false) (hw : hm_Wd G m S c nc nb thr g h) (hC : mi_C S c nc) (h70 : S.1 7 0 = nI 99) (hdg : ∀ a, a < 6 → S.1 19 (a * 6 + a) = nI 0) : hk_Ctr G l 9 yX9_withdraw cX9_withdraw 7 (some .char) 200 7900 [.ref m, .int v, .int t, .int mt, .int q] h (hk_qi fun rv h1 => ml_Q G m (ml_tr [1, 2, 3, 4] (cd_withdraw S c v t mt q)) S c nc nb ((hs_wd S c nc (vN v) (vN t) (cs_m mt) (vN q)).1) (c) (nc) (nb) g (rv = (hs_wd S c nc (vN v) (vN t) (cs_m mt) (vN q)).2) h1) hk_no := by
  obtain ⟨A, M, rfl, rfl, ok, hk, rfl⟩ := hw
  have hc1 := ok.1.2.1
  have hc := ok.1.2.2
  have hnc := ok.2.1.2
  have hnb := ok.2.2.1.2
  refine hk_enter (by decide) hfl (Nat.le_of_ble_eq_true rfl) rfl ?_
  refine hk_aload_n dX9_withdraw_0 rfl rfl rfl ?_
  refine hk_iload_n dX9_withdraw_1 rfl rfl rfl ?_
  refine hk_iload_n dX9_withdraw_2 rfl rfl rfl ?_
  refine hk_iload_n dX9_withdraw_3 rfl rfl rfl ?_
  refine hk_iload dX9_withdraw_4 rfl rfl ?_
  refine hk_iconst (v := nI 1) dX9_withdraw_6 rfl (by decide) ?_
  refine hk_callV dX9_withdraw_7 rfl mv_X9_149 (cm_ng1 hfl hk ok) rfl rfl (hm_g0 hk) rfl rfl (by decide) ⟨Nat.zero_le _, Nat.zero_le _⟩ (Nat.le_of_ble_eq_true rfl) (hk_ki fun rv1 h1 q1 => ?_) hk_nx
  obtain ⟨rfl, rfl⟩ := q1
  refine cx_ifb_eq (tgt := 15) dX9_withdraw_10 (by decide) rfl (fun z10 => ?_) (fun z10 => ?_)
  · skip
    have hng : cd_ng S c 1 v t mt q = 0 := (by have := of_decide_eq_false z10; omega)
    · rw [hng]
      obtain ⟨w1, w2, w3, w4, w5, w6, w7, w8⟩ := cd_ng_0 hng
      obtain ⟨a, ha, rfl⟩ := cd_H_of (by omega) w1
      obtain ⟨b2, hb2, rfl⟩ := cd_H_of (by omega) w2
      obtain ⟨k2, hk21, hk22, rfl⟩ := cd_R_of (by omega) w4
      have vaa : vN (nI a) = a := vN_nI (by omega)
      have vab2 : vN (nI b2) = b2 := vN_nI (by omega)
      have vak2 : vN (nI k2) = k2 := vN_nI (by omega)
      have hab : ¬ b2 = a := fun q => by rw [cd_D_eq q.symm] at w5; cases w5
      have hm := cs_m_lt mt
      have hbd := hm_bd_le k2 (90 - k2)
      rw [show k2 + (90 - k2) = 90 by omega, hm_bd_90] at hbd
      refine hk_ldcS rfl dX9_withdraw_15 rfl ?_
      refine hk_iload_n dX9_withdraw_17 rfl rfl rfl ?_
      refine hk_callJ dX9_withdraw_18 rfl mv_X9_74 (cj_io hfl) rfl rfl (fun U H z => z.2.2.2.1.2.2.1) (by decide) ⟨Nat.zero_le _, Nat.zero_le _⟩ (Nat.le_of_ble_eq_true rfl) (hk_ki fun v h1 q => ?_) hk_nx
      obtain ⟨rfl, rfl⟩ := q
      refine cx_top (cs_ixm w3) ?_
      refine hk_istore dX9_withdraw_21 rfl (by decide) rfl ?_
      refine hk_aload_n dX9_withdraw_23 rfl rfl rfl ?_
      refine hk_aload_n dX9_withdraw_24 rfl rfl rfl ?_
      refine hk_getf dX9_withdraw_25 rfl fl_X9_35 (hm_g0 hk) rfl ?_
      refine hk_iload_n dX9_withdraw_28 rfl rfl rfl ?_
      refine hx_aaldI dX9_withdraw_29 rfl (hm_g10 hk) (show _ < 6 by omega) (by decide) (if_pos (show _ < 6 by omega)) ?_
      refine hk_iload_n dX9_withdraw_30 rfl rfl rfl ?_
      refine hx_iald dX9_withdraw_31 rfl (hm_g11 hk (by omega)) (show _ < 6 by omega) (by decide) ?_
      refine cx_top (if_pos (by omega)) ?_
      refine hk_iload dX9_withdraw_32 rfl rfl ?_
      refine hk_aload_n dX9_withdraw_34 rfl rfl rfl ?_
      refine hk_getf dX9_withdraw_35 rfl fl_X9_20 (hm_g0 hk) rfl ?_
      refine hk_iload dX9_withdraw_38 rfl rfl ?_
      refine hx_iald dX9_withdraw_40 rfl (hm_g1 hk) (show _ < 2 by omega) (by decide) ?_
      refine hk_imul dX9_withdraw_41 rfl ?_
      refine hk_icmp_ge (tgt := 49) dX9_withdraw_42 (by decide) rfl (fun z42 => ?_) (fun z42 => ?_)
      · skip
        refine hk_iconst (v := nI 0) dX9_withdraw_49 rfl (by decide) ?_
        refine hk_callV dX9_withdraw_50 rfl mv_X9_80 (cm_isWrong (k := 0) hfl (by decide) hk) rfl rfl (hm_g0 hk) rfl rfl (by decide) ⟨Nat.zero_le _, Nat.zero_le _⟩ (Nat.le_of_ble_eq_true rfl) (hk_ki fun v h1 q => ?_) hk_nx
        obtain ⟨rfl, rfl⟩ := q
        try rw [hm_mt_mt]
        refine cx_ifb_eq (tgt := 58) dX9_withdraw_53 (by decide) rfl (fun z53 => ?_) (fun z53 => ?_)
        · skip
          refine hk_aload_n dX9_withdraw_58 rfl rfl rfl ?_
          refine hk_iload_n dX9_withdraw_59 rfl rfl rfl ?_
          refine hk_iload dX9_withdraw_60 rfl rfl ?_
          refine hk_iload dX9_withdraw_62 rfl rfl ?_
          refine hk_callV dX9_withdraw_64 rfl mv_X9_153 (cm_lightest (K := k2) (M := hm_mt M (nI 0)) hfl hk ok (by omega) hm (by omega)) rfl rfl (hm_g0 hk) rfl rfl (by decide) ⟨by omega, by omega⟩ (Nat.le_of_ble_eq_true rfl) (hk_ko fun rv1 h1 q1 => ?_) hk_nx
          obtain ⟨fl, g2, rfl, hkg, hG, rfl⟩ := q1
          have h9 := mi_W9 (a := b2) (m := cs_m mt) hC (by omega)
          have hln := hf_ou_len (K := k2) h9
          by_cases hle : k2 ≤ cs_loose S b2 (cs_m mt) nc
          · obtain ⟨hL, hgv⟩ := hf_gives (K := k2) (t := a) (fun q => hab q.symm) (by omega) (by omega) h9 hle
            rw [if_pos (by rw [hL]; exact Nat.le_refl _)]
            have okg : hm_ok G (cs_gl b2 a (cs_m mt) nc S k2).1 M A c nc nb := hm_okS ok (fun i hi => by rw [← hgv]; exact hs_gv_ne (by omega) _)
            refine hk_astore dX9_withdraw_67 rfl (by decide) rfl ?_
            refine hk_aload dX9_withdraw_69 rfl rfl ?_
            refine hk_ifnonnull_t (tgt := 82) dX9_withdraw_71 (by decide) ?_
            refine hk_aload dX9_withdraw_82 rfl rfl ?_
            refine hk_iload_n dX9_withdraw_84 rfl rfl rfl ?_
            refine hk_callS dX9_withdraw_85 rfl ms_X9_157 (cm_gives (t := nI a) (M := hm_mt M (nI 0)) hfl hkg ok hG (hf_ou_lt 9) (by rw [hL]; omega)) rfl rfl (by decide) ⟨by omega, by omega⟩ (Nat.le_of_ble_eq_true rfl) (hk_ki fun rv1 h1 q1 => ?_) hk_nx
            rw [hL, hgv] at q1
            obtain ⟨rfl, g3, x3, hk3, rfl⟩ := q1
            have e9 : (cs_gl b2 a (cs_m mt) nc S k2).1.1 9 (cs_m mt) = S.1 9 (cs_m mt) := by rw [← hgv, hs_gv_ne (by decide)]
            refine hk_pop dX9_withdraw_88 rfl rfl ?_
            refine hk_aload_n dX9_withdraw_89 rfl rfl rfl ?_
            refine hk_getf dX9_withdraw_90 rfl fl_X9_35 (hm_g0 hk3) rfl ?_
            refine hk_iload_n dX9_withdraw_93 rfl rfl rfl ?_
            refine hx_aaldI dX9_withdraw_94 rfl (hm_g10 hk3) (show _ < 6 by omega) (by decide) (if_pos (show _ < 6 by omega)) ?_
            refine hk_iload_n dX9_withdraw_95 rfl rfl rfl ?_
            refine hk_dup2 dX9_withdraw_96 rfl rfl rfl ?_
            refine hx_iald dX9_withdraw_97 rfl (hm_g11 hk3 (by omega)) (show _ < 6 by omega) (by decide) ?_
            refine cx_top (if_pos (by omega)) ?_
            refine hk_iload dX9_withdraw_98 rfl rfl ?_
            refine hk_aload_n dX9_withdraw_100 rfl rfl rfl ?_
            refine hk_getf dX9_withdraw_101 rfl fl_X9_20 (hm_g0 hk3) rfl ?_
            refine hk_iload dX9_withdraw_104 rfl rfl ?_
            refine hx_iald dX9_withdraw_106 rfl (hm_g1 hk3) (show _ < 2 by omega) (by decide) ?_
            refine hk_imul dX9_withdraw_107 rfl ?_
            refine hk_isub dX9_withdraw_108 rfl ?_
            refine hx_iast dX9_withdraw_109 rfl (hm_g11 hk3 (by omega)) (show _ < 6 by omega) (by decide) ?_
            refine hx_cg (hm_v19 hk3 (by omega) (by omega)) ?_
            refine hk_bipush (v := nI 112) dX9_withdraw_110 rfl (by decide) ?_
            exact hk_ireturn rfl (rfl) dX9_withdraw_112 (by have ez : cd_withdraw S c (nI a) (nI b2) mt (nI k2) = 0 := (by rw [cd_withdraw_eq hc, hng, vaa, vab2]; exact if_pos z42); simp only [hs_wd, vaa, vab2, vak2, if_pos hle, cs_cadd, ← Int32.sub_eq_add_neg]; exact ⟨_, rfl, g3, x3, Or.inl ⟨by rw [ez]; rfl, rfl, A, hm_mt M (nI 0), rfl, hm_mt0, okg, hk3, by rw [e9]⟩⟩)
          · rw [if_neg (by rw [hln]; omega)]
            refine hk_astoreN dX9_withdraw_67 rfl (by decide) rfl ?_
            refine hk_aloadN dX9_withdraw_69 rfl rfl ?_
            refine hk_ifnonnull_f dX9_withdraw_71 rfl ?_
            refine hk_aload_n dX9_withdraw_74 rfl rfl rfl ?_
            refine hk_iload_n dX9_withdraw_75 rfl rfl rfl ?_
            have h7b : S.1 7 b2 = nI 98 := by rw [if_neg (by decide), vab2] at w6; unfold cd_B at w6; split at w6; assumption; cases w6
            have hb0 : b2 ≠ 0 := fun q => by rw [q, h70] at h7b; exact absurd h7b (by decide)
            refine hk_callV dX9_withdraw_76 rfl mv_X9_161 (cm_fails (M := hm_mt M (nI 0)) hfl hkg ok hC hb2 hb0 h7b (hdg b2 (by omega))) rfl rfl (hm_g0 hkg) rfl rfl (by decide) ⟨by omega, by omega⟩ (Nat.le_of_ble_eq_true rfl) (hk_kv fun h1 q1 => ?_) hk_nx
            obtain ⟨M9, g9, a9, ok9, hk9, x9, rfl⟩ := q1
            refine hk_bipush (v := nI 120) dX9_withdraw_79 rfl (by decide) ?_
            exact hk_ireturn rfl (rfl) dX9_withdraw_81 (by have ez : cd_withdraw S c (nI a) (nI b2) mt (nI k2) = 0 := (by rw [cd_withdraw_eq hc, hng, vaa, vab2]; exact if_pos z42); simp only [hs_wd, vaa, vab2, vak2, if_neg hle]; exact ⟨_, rfl, g9, hG.1.tr x9, Or.inl ⟨by rw [ez]; rfl, rfl, A, M9, rfl, a9.trans hm_mt0, ok9, hk9, rfl⟩⟩)
        · exact absurd z53 (by decide)
      · skip
        refine hk_iconst (v := nI 4) dX9_withdraw_45 rfl (by decide) ?_
        refine hk_goto (tgt := 50) dX9_withdraw_46 (by decide) ?_
        refine hk_callV dX9_withdraw_50 rfl mv_X9_80 (cm_isWrong (k := 4) hfl (by decide) hk) rfl rfl (hm_g0 hk) rfl rfl (by decide) ⟨Nat.zero_le _, Nat.zero_le _⟩ (Nat.le_of_ble_eq_true rfl) (hk_ki fun v h1 q => ?_) hk_nx
        obtain ⟨rfl, rfl⟩ := q
        try rw [hm_mt_mt]
        refine cx_ifb_eq (tgt := 58) dX9_withdraw_53 (by decide) rfl (fun z53 => ?_) (fun z53 => ?_)
        · exact absurd z53 (by decide)
        · skip
          refine hk_iconst (v := nI 0) dX9_withdraw_56 rfl (by decide) ?_
          exact hk_ireturn rfl (rfl) dX9_withdraw_57 (by have e : cd_withdraw S c (nI a) (nI b2) mt (nI k2) = 4 := (by rw [cd_withdraw_eq hc, hng, vaa, vab2]; exact if_neg z42); exact ⟨_, rfl, g, hm_x.rf, Or.inr ⟨by rw [e]; decide, A, hm_mt M (nI 4), rfl, by rw [e]; exact hm_mt0, ok, hk, rfl⟩⟩)
  · skip
    refine hk_iconst (v := nI 0) dX9_withdraw_13 rfl (by decide) ?_
    exact hk_ireturn rfl (rfl) dX9_withdraw_14 (by have h0 : 0 < cd_ng S c 1 v t mt q := of_decide_eq_true z10; have ez : ml_tr [1, 2, 3, 4] (cd_withdraw S c v t mt q) = cd_ng S c 1 v t mt q := (by rw [cd_withdraw_eq hc, cs_sq_n (by omega)]; exact ml_tr4 (Nat.le_trans cd_ng_le (by omega))); exact ⟨_, rfl, g, hm_x.rf, Or.inr ⟨by rw [ez]; omega, A, hm_mt M (nI (cd_ng S c 1 v t mt q)), rfl, by rw [ez]; exact hm_mt0, ok, hk, rfl⟩⟩)
end CM14

section CM6
variable {G : hk_G} {l : Launch} {S : hs_S} {c nc nb m : Nat} {thr : Int32} {g h : hk_H}
theorem cm_mint {v mt q : Int32} (hfl : l.stackTraces = false) (hw : hm_Wd G m S c nc nb thr g h) (h16 : ∀ j, nc ≤ j → S.1 16 j = 0) : hk_Ctr G l 9 yX9_mint cX9_mint 6 (some .int) 180 7425 [.ref m, .int v, .int mt, .int q] h (hk_qi fun rv h1 => ml_Q G m (ml_tr [1, 2, 3, 4] (cd_mint S c nc v mt q)) S c nc nb (cs_mn (vN v) (cs_m mt) nc S (vN q)) (c) (nc + vN q) (nb) g (rv = nI nc) h1) hk_no := by
  obtain ⟨A, M, rfl, rfl, ok, hk, rfl⟩ := hw
  have hc1 := ok.1.2.1
  have hc := ok.1.2.2
  have hnc := ok.2.1.2
  have hnb := ok.2.2.1.2
  refine hk_enter (by decide) hfl (Nat.le_of_ble_eq_true rfl) rfl ?_
  refine hk_aload_n dX9_mint_0 rfl rfl rfl ?_
  refine hk_aload_n dX9_mint_1 rfl rfl rfl ?_
  refine hk_iload_n dX9_mint_2 rfl rfl rfl ?_
  refine hk_callV dX9_mint_3 rfl mv_X9_84 (cm_isHouse hfl hk ok) rfl rfl (hm_g0 hk) rfl rfl (by decide) ⟨Nat.zero_le _, Nat.zero_le _⟩ (Nat.le_of_ble_eq_true rfl) (hk_ki fun v h1 q => ?_) hk_nx
  obtain ⟨rfl, rfl⟩ := q
  refine cx_ifb_ne (tgt := 13) dX9_mint_6 (by decide) rfl (fun z6 => ?_) (fun z6 => ?_)
  · have f6 : cd_H c v = 0 := of_decide_eq_true z6
    obtain ⟨a, ha, rfl⟩ := cd_H_of (by omega) f6
    have vaa : vN (nI a) = a := vN_nI (by omega)
    refine hk_iload_n dX9_mint_13 rfl rfl rfl ?_
    refine hk_callS dX9_mint_14 rfl ms_X9_87 (cm_isMetal hfl) rfl rfl (by decide) ⟨Nat.zero_le _, Nat.zero_le _⟩ (Nat.le_of_ble_eq_true rfl) (hk_ki fun v h1 q => ?_) hk_nx
    obtain ⟨rfl, rfl⟩ := q
    refine cx_ifb_eq (tgt := 30) dX9_mint_17 (by decide) rfl (fun z17 => ?_) (fun z17 => ?_)
    · have f17 : cd_M mt = 2 := cd_M_2 (of_decide_eq_false z17)
      refine hk_iconst (v := nI 2) dX9_mint_30 rfl (by decide) ?_
      refine hk_goto (tgt := 47) dX9_mint_31 (by decide) ?_
      refine hk_callV dX9_mint_47 rfl mv_X9_80 (cm_isWrong (k := 2) hfl (by decide) hk) rfl rfl (hm_g0 hk) rfl rfl (by decide) ⟨Nat.zero_le _, Nat.zero_le _⟩ (Nat.le_of_ble_eq_true rfl) (hk_ki fun v h1 q => ?_) hk_nx
      obtain ⟨rfl, rfl⟩ := q
      try rw [hm_mt_mt]
      refine cx_ifb_eq (tgt := 55) dX9_mint_50 (by decide) rfl (fun z50 => ?_) (fun z50 => ?_)
      · exact absurd z50 (by decide)
      · skip
        refine hk_iconst (v := nI 0) dX9_mint_53 rfl (by decide) ?_
        exact hk_ireturn rfl (rfl) dX9_mint_54 (by have e : cd_mint S c nc (nI a) mt q = 2 := (by simp [cd_mint, cs_sq, f6, vaa, f17]); exact ⟨_, rfl, g, hm_x.rf, Or.inr ⟨by rw [e]; decide, A, hm_mt M (nI 2), rfl, by rw [e]; exact hm_mt0, ok, hk, rfl⟩⟩)
    · have f17 : cd_M mt = 0 := of_decide_eq_true z17
      refine hk_iload_n dX9_mint_20 rfl rfl rfl ?_
      refine hk_iconst (v := nI 1) dX9_mint_21 rfl (by decide) ?_
      refine hk_bipush (v := nI 90) dX9_mint_22 rfl (by decide) ?_
      refine hk_callS dX9_mint_24 rfl ms_X9_60 (cm_isBetween hfl) rfl rfl (by decide) ⟨Nat.zero_le _, Nat.zero_le _⟩ (Nat.le_of_ble_eq_true rfl) (hk_ki fun v h1 q => ?_) hk_nx
      obtain ⟨rfl, rfl⟩ := q
      refine cx_top (congrArg cx_b (cs_bwR _ _)) ?_
      refine cx_ifb_ne (tgt := 34) dX9_mint_27 (by decide) rfl (fun z27 => ?_) (fun z27 => ?_)
      · have f27 : cd_R q 90 = 0 := of_decide_eq_true z27
        obtain ⟨b2, hb21, hb22, rfl⟩ := cd_R_of (by omega) f27
        have vab2 : vN (nI b2) = b2 := vN_nI (by omega)
        refine hk_aload_n dX9_mint_34 rfl rfl rfl ?_
        refine hk_iload_n dX9_mint_35 rfl rfl rfl ?_
        refine hk_callV dX9_mint_36 rfl mv_X9_91 (cm_hasFailed hfl hk ok (by omega)) rfl rfl (hm_g0 hk) rfl rfl (by decide) ⟨Nat.zero_le _, Nat.zero_le _⟩ (Nat.le_of_ble_eq_true rfl) (hk_ki fun v h1 q => ?_) hk_nx
        obtain ⟨rfl, rfl⟩ := q
        refine cx_ifb_eq (tgt := 46) dX9_mint_39 (by decide) rfl (fun z39 => ?_) (fun z39 => ?_)
        · have f39 : cd_O S a = 0 := Decidable.of_not_not (of_decide_eq_false z39)
          refine hk_iconst (v := nI 0) dX9_mint_46 rfl (by decide) ?_
          refine hk_callV dX9_mint_47 rfl mv_X9_80 (cm_isWrong (k := 0) hfl (by decide) hk) rfl rfl (hm_g0 hk) rfl rfl (by decide) ⟨Nat.zero_le _, Nat.zero_le _⟩ (Nat.le_of_ble_eq_true rfl) (hk_ki fun v h1 q => ?_) hk_nx
          obtain ⟨rfl, rfl⟩ := q
          try rw [hm_mt_mt]
          refine cx_ifb_eq (tgt := 55) dX9_mint_50 (by decide) rfl (fun z50 => ?_) (fun z50 => ?_)
          · skip
            have hm := cs_m_lt mt
            refine hk_ldcS rfl dX9_mint_55 rfl ?_
            refine hk_iload_n dX9_mint_57 rfl rfl rfl ?_
            refine hk_callJ dX9_mint_58 rfl mv_X9_74 (cj_io hfl) rfl rfl (fun U H z => z.2.2.2.1.2.2.1) (by decide) ⟨Nat.zero_le _, Nat.zero_le _⟩ (Nat.le_of_ble_eq_true rfl) (hk_ki fun v h1 q => ?_) hk_nx
            obtain ⟨rfl, rfl⟩ := q
            refine cx_top (cs_ixm f17) ?_
            refine hk_istore dX9_mint_61 rfl (by decide) rfl ?_
            refine hk_aload_n dX9_mint_63 rfl rfl rfl ?_
            refine hk_aload_n dX9_mint_64 rfl rfl rfl ?_
            refine hk_getf dX9_mint_65 rfl fl_X9_29 (hm_g0 hk) rfl ?_
            refine hk_iload_n dX9_mint_68 rfl rfl rfl ?_
            refine hx_aaldI dX9_mint_69 rfl (hm_g3 hk) (show _ < 6 by omega) (by decide) (if_pos (show _ < 6 by omega)) ?_
            refine hk_iload dX9_mint_70 rfl rfl ?_
            refine hx_iald dX9_mint_72 rfl (hm_g4 hk (by omega)) (show _ < 2 by omega) (by decide) ?_
            refine cx_top (if_pos (by omega)) ?_
            refine hk_iload_n dX9_mint_73 rfl rfl rfl ?_
            refine hk_aload_n dX9_mint_74 rfl rfl rfl ?_
            refine hk_getf dX9_mint_75 rfl fl_X9_24 (hm_g0 hk) rfl ?_
            refine hk_iload dX9_mint_78 rfl rfl ?_
            refine hx_iald dX9_mint_80 rfl (hm_g2 hk) (show _ < 2 by omega) (by decide) ?_
            refine hk_imul dX9_mint_81 rfl ?_
            refine hk_icmp_lt (tgt := 101) dX9_mint_82 (by decide) rfl (fun z82 => ?_) (fun z82 => ?_)
            · skip
              have f82 : cd_ore S a (cs_m mt) (nI b2 * S.1 10 (cs_m mt)) = 4 := if_neg (Int32.not_le.mpr z82)
              refine hk_iconst (v := nI 4) dX9_mint_101 rfl (by decide) ?_
              refine hk_goto (tgt := 106) dX9_mint_102 (by decide) ?_
              refine hk_callV dX9_mint_106 rfl mv_X9_80 (cm_isWrong (k := 4) hfl (by decide) hk) rfl rfl (hm_g0 hk) rfl rfl (by decide) ⟨Nat.zero_le _, Nat.zero_le _⟩ (Nat.le_of_ble_eq_true rfl) (hk_ki fun v h1 q => ?_) hk_nx
              obtain ⟨rfl, rfl⟩ := q
              try rw [hm_mt_mt]
              refine cx_ifb_eq (tgt := 114) dX9_mint_109 (by decide) rfl (fun z109 => ?_) (fun z109 => ?_)
              · exact absurd z109 (by decide)
              · skip
                refine hk_iconst (v := nI 0) dX9_mint_112 rfl (by decide) ?_
                exact hk_ireturn rfl (rfl) dX9_mint_113 (by have e : cd_mint S c nc (nI a) mt (nI b2) = 4 := (by simp [cd_mint, cs_sq, f6, vaa, f17, f27, vab2, f39, f82]); exact ⟨_, rfl, g, hm_x.rf, Or.inr ⟨by rw [e]; decide, A, hm_mt M (nI 4), rfl, by rw [e]; exact hm_mt0, ok, hk, rfl⟩⟩)
            · skip
              have f82 : cd_ore S a (cs_m mt) (nI b2 * S.1 10 (cs_m mt)) = 0 := if_pos (Int32.not_lt.mp z82)
              refine hk_aload_n dX9_mint_85 rfl rfl rfl ?_
              refine hk_getf dX9_mint_86 rfl fl_X9_32 (hm_g0 hk) rfl ?_
              refine hk_callF dX9_mint_89 rfl mf_X9_56 (cj_size hfl (hm_l1 hk ok)) rfl rfl (hm_l1 hk ok) rfl rfl (by decide) ⟨Nat.zero_le _, Nat.zero_le _⟩ (Nat.le_of_ble_eq_true rfl) (hk_ki fun v h1 q => ?_) hk_nx
              obtain ⟨rfl, rfl⟩ := q
              refine hk_iload_n dX9_mint_94 rfl rfl rfl ?_
              refine hk_iadd dX9_mint_95 rfl ?_
              refine cx_top (nI_add _ _) ?_
              refine hk_bipush (v := nI 90) dX9_mint_96 rfl (by decide) ?_
              refine cx_icmp_le (tgt := 105) (by omega) (by omega) dX9_mint_98 (by decide) rfl (fun z98 => ?_) (fun z98 => ?_)
              · skip
                have f98 : cd_le b2 (90 - nc) = 0 := if_pos (by omega)
                refine hk_iconst (v := nI 0) dX9_mint_105 rfl (by decide) ?_
                refine hk_callV dX9_mint_106 rfl mv_X9_80 (cm_isWrong (k := 0) hfl (by decide) hk) rfl rfl (hm_g0 hk) rfl rfl (by decide) ⟨Nat.zero_le _, Nat.zero_le _⟩ (Nat.le_of_ble_eq_true rfl) (hk_ki fun v h1 q => ?_) hk_nx
                obtain ⟨rfl, rfl⟩ := q
                try rw [hm_mt_mt]
                refine cx_ifb_eq (tgt := 114) dX9_mint_109 (by decide) rfl (fun z109 => ?_) (fun z109 => ?_)
                · skip
                  refine hk_aload_n dX9_mint_114 rfl rfl rfl ?_
                  refine hk_getf dX9_mint_115 rfl fl_X9_32 (hm_g0 hk) rfl ?_
                  refine hk_callF dX9_mint_118 rfl mf_X9_56 (cj_size hfl (hm_l1 hk ok)) rfl rfl (hm_l1 hk ok) rfl rfl (by decide) ⟨Nat.zero_le _, Nat.zero_le _⟩ (Nat.le_of_ble_eq_true rfl) (hk_ki fun v h1 q => ?_) hk_nx
                  obtain ⟨rfl, rfl⟩ := q
                  refine hk_istore dX9_mint_123 rfl (by decide) rfl ?_
                  refine hk_aload_n dX9_mint_125 rfl rfl rfl ?_
                  refine hk_iload_n dX9_mint_126 rfl rfl rfl ?_
                  refine hk_iload dX9_mint_127 rfl rfl ?_
                  refine hk_iload_n dX9_mint_129 rfl rfl rfl ?_
                  have hb1 := hm_bd_le (nc + b2) (90 - (nc + b2))
                  rw [show nc + b2 + (90 - (nc + b2)) = 90 by omega, hm_bd_90] at hb1
                  refine hk_callV dX9_mint_130 rfl mv_X9_99 (cm_mints (k := b2) hfl hk ok (by omega) hm (by omega) h16) rfl rfl (hm_g0 hk) rfl rfl (by decide) ⟨by omega, by omega⟩ (Nat.le_of_ble_eq_true rfl) (hk_kv fun h1 q1 => ?_) hk_nx
                  obtain ⟨A2, M2, g2, a1, a2, a3, a4, rfl, a6⟩ := q1
                  refine hk_iload dX9_mint_133 rfl rfl ?_
                  exact hk_ireturn rfl (rfl) dX9_mint_135 (by have e : cd_mint S c nc (nI a) mt (nI b2) = 0 := (by simp [cd_mint, cs_sq, f6, vaa, f17, f27, vab2, f39, f82, f98]); (try simp only [vaa, vab2]); exact ⟨_, rfl, g2, a6, Or.inl ⟨by rw [e]; rfl, rfl, A2, M2, a1, a2.trans hm_mt0, a3, a4, rfl⟩⟩)
                · exact absurd z109 (by decide)
              · skip
                have f98 : cd_le b2 (90 - nc) = 4 := if_neg (by omega)
                refine hk_iconst (v := nI 4) dX9_mint_101 rfl (by decide) ?_
                refine hk_goto (tgt := 106) dX9_mint_102 (by decide) ?_
                refine hk_callV dX9_mint_106 rfl mv_X9_80 (cm_isWrong (k := 4) hfl (by decide) hk) rfl rfl (hm_g0 hk) rfl rfl (by decide) ⟨Nat.zero_le _, Nat.zero_le _⟩ (Nat.le_of_ble_eq_true rfl) (hk_ki fun v h1 q => ?_) hk_nx
                obtain ⟨rfl, rfl⟩ := q
                try rw [hm_mt_mt]
                refine cx_ifb_eq (tgt := 114) dX9_mint_109 (by decide) rfl (fun z109 => ?_) (fun z109 => ?_)
                · exact absurd z109 (by decide)
                · skip
                  refine hk_iconst (v := nI 0) dX9_mint_112 rfl (by decide) ?_
                  exact hk_ireturn rfl (rfl) dX9_mint_113 (by have e : cd_mint S c nc (nI a) mt (nI b2) = 4 := (by simp [cd_mint, cs_sq, f6, vaa, f17, f27, vab2, f39, f82, f98]); exact ⟨_, rfl, g, hm_x.rf, Or.inr ⟨by rw [e]; decide, A, hm_mt M (nI 4), rfl, by rw [e]; exact hm_mt0, ok, hk, rfl⟩⟩)
          · exact absurd z50 (by decide)
        · have f39 : cd_O S a = 3 := cd_O_3 (of_decide_eq_true z39)
          refine hk_iconst (v := nI 3) dX9_mint_42 rfl (by decide) ?_
          refine hk_goto (tgt := 47) dX9_mint_43 (by decide) ?_
          refine hk_callV dX9_mint_47 rfl mv_X9_80 (cm_isWrong (k := 3) hfl (by decide) hk) rfl rfl (hm_g0 hk) rfl rfl (by decide) ⟨Nat.zero_le _, Nat.zero_le _⟩ (Nat.le_of_ble_eq_true rfl) (hk_ki fun v h1 q => ?_) hk_nx
          obtain ⟨rfl, rfl⟩ := q
          try rw [hm_mt_mt]
          refine cx_ifb_eq (tgt := 55) dX9_mint_50 (by decide) rfl (fun z50 => ?_) (fun z50 => ?_)
          · exact absurd z50 (by decide)
          · skip
            refine hk_iconst (v := nI 0) dX9_mint_53 rfl (by decide) ?_
            exact hk_ireturn rfl (rfl) dX9_mint_54 (by have e : cd_mint S c nc (nI a) mt (nI b2) = 3 := (by simp [cd_mint, cs_sq, f6, vaa, f17, f27, vab2, f39]); exact ⟨_, rfl, g, hm_x.rf, Or.inr ⟨by rw [e]; decide, A, hm_mt M (nI 3), rfl, by rw [e]; exact hm_mt0, ok, hk, rfl⟩⟩)
      · have f27 : cd_R q 90 = 2 := cd_R_2 (of_decide_eq_false z27)
        refine hk_iconst (v := nI 2) dX9_mint_30 rfl (by decide) ?_
        refine hk_goto (tgt := 47) dX9_mint_31 (by decide) ?_
        refine hk_callV dX9_mint_47 rfl mv_X9_80 (cm_isWrong (k := 2) hfl (by decide) hk) rfl rfl (hm_g0 hk) rfl rfl (by decide) ⟨Nat.zero_le _, Nat.zero_le _⟩ (Nat.le_of_ble_eq_true rfl) (hk_ki fun v h1 q => ?_) hk_nx
        obtain ⟨rfl, rfl⟩ := q
        try rw [hm_mt_mt]
        refine cx_ifb_eq (tgt := 55) dX9_mint_50 (by decide) rfl (fun z50 => ?_) (fun z50 => ?_)
        · exact absurd z50 (by decide)
        · skip
          refine hk_iconst (v := nI 0) dX9_mint_53 rfl (by decide) ?_
          exact hk_ireturn rfl (rfl) dX9_mint_54 (by have e : cd_mint S c nc (nI a) mt q = 2 := (by simp [cd_mint, cs_sq, f6, vaa, f17, f27]); exact ⟨_, rfl, g, hm_x.rf, Or.inr ⟨by rw [e]; decide, A, hm_mt M (nI 2), rfl, by rw [e]; exact hm_mt0, ok, hk, rfl⟩⟩)
  · have f6 : cd_H c v = 1 := cd_H_1 (of_decide_eq_false z6)
    refine hk_iconst (v := nI 1) dX9_mint_9 rfl (by decide) ?_
    refine hk_goto (tgt := 47) dX9_mint_10 (by decide) ?_
    refine hk_callV dX9_mint_47 rfl mv_X9_80 (cm_isWrong (k := 1) hfl (by decide) hk) rfl rfl (hm_g0 hk) rfl rfl (by decide) ⟨Nat.zero_le _, Nat.zero_le _⟩ (Nat.le_of_ble_eq_true rfl) (hk_ki fun v h1 q => ?_) hk_nx
    obtain ⟨rfl, rfl⟩ := q
    try rw [hm_mt_mt]
    refine cx_ifb_eq (tgt := 55) dX9_mint_50 (by decide) rfl (fun z50 => ?_) (fun z50 => ?_)
    · exact absurd z50 (by decide)
    · skip
      refine hk_iconst (v := nI 0) dX9_mint_53 rfl (by decide) ?_
      exact hk_ireturn rfl (rfl) dX9_mint_54 (by have e : cd_mint S c nc v mt q = 1 := (by simp [cd_mint, cs_sq, f6]); exact ⟨_, rfl, g, hm_x.rf, Or.inr ⟨by rw [e]; decide, A, hm_mt M (nI 1), rfl, by rw [e]; exact hm_mt0, ok, hk, rfl⟩⟩)
theorem cm_addHouse {v : Int32} (hfl : l.stackTraces = false) (hw : hm_Wd G m S c nc nb thr g h) : hk_Ctr G l 9 yX9_addHouse cX9_addHouse 2 (some .int) 1 20 [.ref m, .int v] h (hk_qi fun rv h1 => ml_Q G m (ml_tr [2, 3] (cd_addHouse c v)) S c nc nb (cs_open S c v) (c + 1) (nc) (nb) g (rv = nI c) h1) hk_no := by
  obtain ⟨A, M, rfl, rfl, ok, hk, rfl⟩ := hw
  have hc1 := ok.1.2.1
  have hc := ok.1.2.2
  have hnc := ok.2.1.2
  have hnb := ok.2.2.1.2
  refine hk_enter (by decide) hfl (Nat.le_of_ble_eq_true rfl) rfl ?_
  refine hk_aload_n dX9_addHouse_0 rfl rfl rfl ?_
  refine hk_iload_n dX9_addHouse_1 rfl rfl rfl ?_
  refine hk_bipush (v := nI 98) dX9_addHouse_2 rfl (by decide) ?_
  refine hk_icmp_eq (tgt := 17) dX9_addHouse_4 (by decide) rfl (fun z4 => ?_) (fun z4 => ?_)
  · skip
    have f4 : cd_a v = 0 := if_pos z4
    refine hk_aload_n dX9_addHouse_17 rfl rfl rfl ?_
    refine hk_getf dX9_addHouse_18 rfl fl_X9_16 (hm_g0 hk) rfl ?_
    refine hk_callF dX9_addHouse_21 rfl mf_X9_56 (cj_size hfl (hm_l0 hk ok)) rfl rfl (hm_l0 hk ok) rfl rfl (by decide) ⟨Nat.zero_le _, Nat.zero_le _⟩ (Nat.le_of_ble_eq_true rfl) (hk_ki fun v h1 q => ?_) hk_nx
    obtain ⟨rfl, rfl⟩ := q
    refine hk_bipush (v := nI 6) dX9_addHouse_26 rfl (by decide) ?_
    refine cx_icmp_ne (tgt := 35) (by omega) (by omega) dX9_addHouse_28 (by decide) rfl (fun z28 => ?_) (fun z28 => ?_)
    · skip
      have f28 : cd_n c 6 3 = 0 := if_pos (by omega)
      refine hk_iconst (v := nI 0) dX9_addHouse_35 rfl (by decide) ?_
      refine hk_callV dX9_addHouse_36 rfl mv_X9_80 (cm_isWrong (k := 0) hfl (by decide) hk) rfl rfl (hm_g0 hk) rfl rfl (by decide) ⟨Nat.zero_le _, Nat.zero_le _⟩ (Nat.le_of_ble_eq_true rfl) (hk_ki fun v h1 q => ?_) hk_nx
      obtain ⟨rfl, rfl⟩ := q
      try rw [hm_mt_mt]
      refine cx_ifb_eq (tgt := 44) dX9_addHouse_39 (by decide) rfl (fun z39 => ?_) (fun z39 => ?_)
      · skip
        obtain ⟨k0, hk0, hk1, hk2, ek⟩ : ∃ k0 : Nat, k0 < 128 ∧ k0 ≠ 120 ∧ (k0 = 98 ∨ k0 = 116) ∧ v = nI k0 := by first | exact ⟨98, by omega, by omega, Or.inl rfl, z4⟩ | exact ⟨116, by omega, by omega, Or.inr rfl, z10⟩
        subst ek
        refine hk_aload_n dX9_addHouse_44 rfl rfl rfl ?_
        refine hk_getf dX9_addHouse_45 rfl fl_X9_16 (hm_g0 hk) rfl ?_
        refine hk_iload_n dX9_addHouse_48 rfl rfl rfl ?_
        refine hk_callS dX9_addHouse_49 rfl ms_X9_44 (cj_cv hfl hk0) rfl rfl (by decide) ⟨Nat.zero_le _, Nat.zero_le _⟩ (Nat.le_of_ble_eq_true rfl) (hk_kr fun x h1 q => ?_) hk_nx
        obtain ⟨rfl, rfl⟩ := q
        refine hk_callF dX9_addHouse_52 rfl mf_X9_50 (cj_add hfl (hm_al (i := 0) hk (by omega) (hm_v32le ok) (hm_n0 ok) (fun z => by rw [← hm_n0 ok]; exact hm_cap ok z) (Or.inl ok.2.2.2.2.1.1)) (hm_ob0 ok) (Or.inl ⟨k0, hk0, rfl⟩)) rfl rfl (hm_l0 hk ok) rfl rfl (by decide) ⟨by omega, by omega⟩ (Nat.le_of_ble_eq_true rfl) (hk_ki fun x h1 q1 => ?_) hk_nx
        obtain ⟨rfl, hgr⟩ := q1
        obtain ⟨A2, M2, g2, a1, a2, a3, a4, rfl, a6⟩ := hm_addK (M := hm_mt M (nI 0)) ok hk (by omega) hk0 hk1 hgr
        rw [← a1]
        refine hk_pop dX9_addHouse_57 rfl rfl ?_
        refine hk_aload_n dX9_addHouse_58 rfl rfl rfl ?_
        refine hk_getf dX9_addHouse_59 rfl fl_X9_16 (hm_g0 a4) rfl ?_
        refine hk_callF dX9_addHouse_62 rfl mf_X9_56 (cj_size hfl (hm_l0 a4 a3)) rfl rfl (hm_l0 a4 a3) rfl rfl (by decide) ⟨Nat.zero_le _, Nat.zero_le _⟩ (Nat.le_of_ble_eq_true rfl) (hk_ki fun x h1 q => ?_) hk_nx
        obtain ⟨rfl, rfl⟩ := q
        refine hk_iconst (v := nI 1) dX9_addHouse_67 rfl (by decide) ?_
        refine hk_isub dX9_addHouse_68 rfl ?_
        refine cx_top ((cx_nsub (by omega)).trans (show nI (c + 1 - 1) = nI c by rw [Nat.add_sub_cancel])) ?_
        exact hk_ireturn rfl (rfl) dX9_addHouse_69 (by have e : cd_addHouse c (nI k0) = 0 := (by simp [cd_addHouse, cs_sq, f4, f28]); exact ⟨_, rfl, g2, a6, Or.inl ⟨by rw [e]; rfl, rfl, A2, M2, rfl, a2.trans hm_mt0, a3, a4, rfl⟩⟩)
      · exact absurd z39 (by decide)
    · skip
      have f28 : cd_n c 6 3 = 3 := if_neg (by omega)
      refine hk_iconst (v := nI 2) dX9_addHouse_31 rfl (by decide) ?_
      refine hk_goto (tgt := 36) dX9_addHouse_32 (by decide) ?_
      refine hk_callV dX9_addHouse_36 rfl mv_X9_80 (cm_isWrong (k := 2) hfl (by decide) hk) rfl rfl (hm_g0 hk) rfl rfl (by decide) ⟨Nat.zero_le _, Nat.zero_le _⟩ (Nat.le_of_ble_eq_true rfl) (hk_ki fun v h1 q => ?_) hk_nx
      obtain ⟨rfl, rfl⟩ := q
      try rw [hm_mt_mt]
      refine cx_ifb_eq (tgt := 44) dX9_addHouse_39 (by decide) rfl (fun z39 => ?_) (fun z39 => ?_)
      · exact absurd z39 (by decide)
      · skip
        refine hk_iconst (v := nI 0) dX9_addHouse_42 rfl (by decide) ?_
        exact hk_ireturn rfl (rfl) dX9_addHouse_43 (by have e : cd_addHouse c v = 3 := (by simp [cd_addHouse, cs_sq, f4, f28]); exact ⟨_, rfl, g, hm_x.rf, Or.inr ⟨by rw [e]; decide, A, hm_mt M (nI 2), rfl, by rw [e]; exact hm_mt0, ok, hk, rfl⟩⟩)
  · skip
    refine hk_iload_n dX9_addHouse_7 rfl rfl rfl ?_
    refine hk_bipush (v := nI 116) dX9_addHouse_8 rfl (by decide) ?_
    refine hk_icmp_eq (tgt := 17) dX9_addHouse_10 (by decide) rfl (fun z10 => ?_) (fun z10 => ?_)
    · skip
      have f10 : cd_a v = 0 := by unfold cd_a; rw [if_neg z4, if_pos z10]
      refine hk_aload_n dX9_addHouse_17 rfl rfl rfl ?_
      refine hk_getf dX9_addHouse_18 rfl fl_X9_16 (hm_g0 hk) rfl ?_
      refine hk_callF dX9_addHouse_21 rfl mf_X9_56 (cj_size hfl (hm_l0 hk ok)) rfl rfl (hm_l0 hk ok) rfl rfl (by decide) ⟨Nat.zero_le _, Nat.zero_le _⟩ (Nat.le_of_ble_eq_true rfl) (hk_ki fun v h1 q => ?_) hk_nx
      obtain ⟨rfl, rfl⟩ := q
      refine hk_bipush (v := nI 6) dX9_addHouse_26 rfl (by decide) ?_
      refine cx_icmp_ne (tgt := 35) (by omega) (by omega) dX9_addHouse_28 (by decide) rfl (fun z28 => ?_) (fun z28 => ?_)
      · skip
        have f28 : cd_n c 6 3 = 0 := if_pos (by omega)
        refine hk_iconst (v := nI 0) dX9_addHouse_35 rfl (by decide) ?_
        refine hk_callV dX9_addHouse_36 rfl mv_X9_80 (cm_isWrong (k := 0) hfl (by decide) hk) rfl rfl (hm_g0 hk) rfl rfl (by decide) ⟨Nat.zero_le _, Nat.zero_le _⟩ (Nat.le_of_ble_eq_true rfl) (hk_ki fun v h1 q => ?_) hk_nx
        obtain ⟨rfl, rfl⟩ := q
        try rw [hm_mt_mt]
        refine cx_ifb_eq (tgt := 44) dX9_addHouse_39 (by decide) rfl (fun z39 => ?_) (fun z39 => ?_)
        · skip
          obtain ⟨k0, hk0, hk1, hk2, ek⟩ : ∃ k0 : Nat, k0 < 128 ∧ k0 ≠ 120 ∧ (k0 = 98 ∨ k0 = 116) ∧ v = nI k0 := by first | exact ⟨98, by omega, by omega, Or.inl rfl, z4⟩ | exact ⟨116, by omega, by omega, Or.inr rfl, z10⟩
          subst ek
          refine hk_aload_n dX9_addHouse_44 rfl rfl rfl ?_
          refine hk_getf dX9_addHouse_45 rfl fl_X9_16 (hm_g0 hk) rfl ?_
          refine hk_iload_n dX9_addHouse_48 rfl rfl rfl ?_
          refine hk_callS dX9_addHouse_49 rfl ms_X9_44 (cj_cv hfl hk0) rfl rfl (by decide) ⟨Nat.zero_le _, Nat.zero_le _⟩ (Nat.le_of_ble_eq_true rfl) (hk_kr fun x h1 q => ?_) hk_nx
          obtain ⟨rfl, rfl⟩ := q
          refine hk_callF dX9_addHouse_52 rfl mf_X9_50 (cj_add hfl (hm_al (i := 0) hk (by omega) (hm_v32le ok) (hm_n0 ok) (fun z => by rw [← hm_n0 ok]; exact hm_cap ok z) (Or.inl ok.2.2.2.2.1.1)) (hm_ob0 ok) (Or.inl ⟨k0, hk0, rfl⟩)) rfl rfl (hm_l0 hk ok) rfl rfl (by decide) ⟨by omega, by omega⟩ (Nat.le_of_ble_eq_true rfl) (hk_ki fun x h1 q1 => ?_) hk_nx
          obtain ⟨rfl, hgr⟩ := q1
          obtain ⟨A2, M2, g2, a1, a2, a3, a4, rfl, a6⟩ := hm_addK (M := hm_mt M (nI 0)) ok hk (by omega) hk0 hk1 hgr
          rw [← a1]
          refine hk_pop dX9_addHouse_57 rfl rfl ?_
          refine hk_aload_n dX9_addHouse_58 rfl rfl rfl ?_
          refine hk_getf dX9_addHouse_59 rfl fl_X9_16 (hm_g0 a4) rfl ?_
          refine hk_callF dX9_addHouse_62 rfl mf_X9_56 (cj_size hfl (hm_l0 a4 a3)) rfl rfl (hm_l0 a4 a3) rfl rfl (by decide) ⟨Nat.zero_le _, Nat.zero_le _⟩ (Nat.le_of_ble_eq_true rfl) (hk_ki fun x h1 q => ?_) hk_nx
          obtain ⟨rfl, rfl⟩ := q
          refine hk_iconst (v := nI 1) dX9_addHouse_67 rfl (by decide) ?_
          refine hk_isub dX9_addHouse_68 rfl ?_
          refine cx_top ((cx_nsub (by omega)).trans (show nI (c + 1 - 1) = nI c by rw [Nat.add_sub_cancel])) ?_
          exact hk_ireturn rfl (rfl) dX9_addHouse_69 (by have e : cd_addHouse c (nI k0) = 0 := (by simp [cd_addHouse, cs_sq, f10, f28]); exact ⟨_, rfl, g2, a6, Or.inl ⟨by rw [e]; rfl, rfl, A2, M2, rfl, a2.trans hm_mt0, a3, a4, rfl⟩⟩)
        · exact absurd z39 (by decide)
      · skip
        have f28 : cd_n c 6 3 = 3 := if_neg (by omega)
        refine hk_iconst (v := nI 2) dX9_addHouse_31 rfl (by decide) ?_
        refine hk_goto (tgt := 36) dX9_addHouse_32 (by decide) ?_
        refine hk_callV dX9_addHouse_36 rfl mv_X9_80 (cm_isWrong (k := 2) hfl (by decide) hk) rfl rfl (hm_g0 hk) rfl rfl (by decide) ⟨Nat.zero_le _, Nat.zero_le _⟩ (Nat.le_of_ble_eq_true rfl) (hk_ki fun v h1 q => ?_) hk_nx
        obtain ⟨rfl, rfl⟩ := q
        try rw [hm_mt_mt]
        refine cx_ifb_eq (tgt := 44) dX9_addHouse_39 (by decide) rfl (fun z39 => ?_) (fun z39 => ?_)
        · exact absurd z39 (by decide)
        · skip
          refine hk_iconst (v := nI 0) dX9_addHouse_42 rfl (by decide) ?_
          exact hk_ireturn rfl (rfl) dX9_addHouse_43 (by have e : cd_addHouse c v = 3 := (by simp [cd_addHouse, cs_sq, f10, f28]); exact ⟨_, rfl, g, hm_x.rf, Or.inr ⟨by rw [e]; decide, A, hm_mt M (nI 2), rfl, by rw [e]; exact hm_mt0, ok, hk, rfl⟩⟩)
    · skip
      have f10 : cd_a v = 2 := by unfold cd_a; rw [if_neg z4, if_neg z10]
      refine hk_iconst (v := nI 1) dX9_addHouse_13 rfl (by decide) ?_
      refine hk_goto (tgt := 36) dX9_addHouse_14 (by decide) ?_
      refine hk_callV dX9_addHouse_36 rfl mv_X9_80 (cm_isWrong (k := 1) hfl (by decide) hk) rfl rfl (hm_g0 hk) rfl rfl (by decide) ⟨Nat.zero_le _, Nat.zero_le _⟩ (Nat.le_of_ble_eq_true rfl) (hk_ki fun v h1 q => ?_) hk_nx
      obtain ⟨rfl, rfl⟩ := q
      try rw [hm_mt_mt]
      refine cx_ifb_eq (tgt := 44) dX9_addHouse_39 (by decide) rfl (fun z39 => ?_) (fun z39 => ?_)
      · exact absurd z39 (by decide)
      · skip
        refine hk_iconst (v := nI 0) dX9_addHouse_42 rfl (by decide) ?_
        exact hk_ireturn rfl (rfl) dX9_addHouse_43 (by have e : cd_addHouse c v = 2 := (by simp [cd_addHouse, cs_sq, f10]); exact ⟨_, rfl, g, hm_x.rf, Or.inr ⟨by rw [e]; decide, A, hm_mt M (nI 1), rfl, by rw [e]; exact hm_mt0, ok, hk, rfl⟩⟩)
theorem hm_nwB {D : Nat → Prop} {h : hk_H} {p q : Nat} {x y z : hk_E} (hp : hk_set h q x p = none) : p ≠ q ∧ hk_set h q z p = none ∧ hk_set (hk_set (hk_set h q x) p y) q z = hk_set (hk_set h q z) p y := by
  have hpq : p ≠ q := fun e => by rw [e, hk_set_eq] at hp; cases hp
  refine ⟨hpq, by rw [hk_set_ne hpq] at hp ⊢; exact hp, ?_⟩
  rw [hk_set_comm hpq.symm, hk_set_set, hk_set_comm hpq]
theorem cm_draw {v t x q : Int32} (hfl : l.stackTraces = false) (hw : hm_Wd G m S c nc nb thr g h) (h26 : ∀ j, nb ≤ j → S.1 26 j = 0) : hk_Ctr G l 9 yX9_draw cX9_draw 5 (some .int) 3 40 [.ref m, .int v, .int t, .int x, .int q] h (hk_qi fun rv h1 => ml_Q G m (ml_tr [1, 2, 3, 4] (cd_draw S c nb v t x q)) S c nc nb (cs_write S nb v t x q) (c) (nc) (nb + 1) g (rv = nI nb) h1) hk_no := by
  obtain ⟨A, M, rfl, rfl, ok, hk, rfl⟩ := hw
  have hc1 := ok.1.2.1
  have hc := ok.1.2.2
  have hnc := ok.2.1.2
  have hnb := ok.2.2.1.2
  refine hk_enter (by decide) hfl (Nat.le_of_ble_eq_true rfl) rfl ?_
  refine hk_aload_n dX9_draw_0 rfl rfl rfl ?_
  refine hk_aload_n dX9_draw_1 rfl rfl rfl ?_
  refine hk_iload_n dX9_draw_2 rfl rfl rfl ?_
  refine hk_callV dX9_draw_3 rfl mv_X9_84 (cm_isHouse hfl hk ok) rfl rfl (hm_g0 hk) rfl rfl (by decide) ⟨Nat.zero_le _, Nat.zero_le _⟩ (Nat.le_of_ble_eq_true rfl) (hk_ki fun v h1 q => ?_) hk_nx
  obtain ⟨rfl, rfl⟩ := q
  refine cx_ifb_eq (tgt := 21) dX9_draw_6 (by decide) rfl (fun z6 => ?_) (fun z6 => ?_)
  · have f6 : cd_H c v = 1 := cd_H_1 (of_decide_eq_false z6)
    refine hk_iconst (v := nI 1) dX9_draw_21 rfl (by decide) ?_
    refine hk_callV dX9_draw_22 rfl mv_X9_80 (cm_isWrong (k := 1) hfl (by decide) hk) rfl rfl (hm_g0 hk) rfl rfl (by decide) ⟨Nat.zero_le _, Nat.zero_le _⟩ (Nat.le_of_ble_eq_true rfl) (hk_ki fun v h1 q => ?_) hk_nx
    obtain ⟨rfl, rfl⟩ := q
    try rw [hm_mt_mt]
    refine cx_ifb_eq (tgt := 30) dX9_draw_25 (by decide) rfl (fun z25 => ?_) (fun z25 => ?_)
    · exact absurd z25 (by decide)
    · skip
      refine hk_iconst (v := nI 0) dX9_draw_28 rfl (by decide) ?_
      exact hk_ireturn rfl (rfl) dX9_draw_29 (by have e : cd_draw S c nb v t x q = 1 := (by first | (simp [cd_draw, cs_sq, cd_K, f6]; done) | (rcases cd_O_or S a with o0 | o0 <;> rcases cd_O_or S b2 with o1 | o1 <;> simp [cd_draw, cs_sq, cd_K, f6, o0, o1])); exact ⟨_, rfl, g, hm_x.rf, Or.inr ⟨by rw [e]; decide, A, hm_mt M (nI 1), rfl, by rw [e]; exact hm_mt0, ok, hk, rfl⟩⟩)
  · have f6 : cd_H c v = 0 := of_decide_eq_true z6
    obtain ⟨a, ha, rfl⟩ := cd_H_of (by omega) f6
    have vaa : vN (nI a) = a := vN_nI (by omega)
    refine hk_aload_n dX9_draw_9 rfl rfl rfl ?_
    refine hk_iload_n dX9_draw_10 rfl rfl rfl ?_
    refine hk_callV dX9_draw_11 rfl mv_X9_84 (cm_isHouse hfl hk ok) rfl rfl (hm_g0 hk) rfl rfl (by decide) ⟨Nat.zero_le _, Nat.zero_le _⟩ (Nat.le_of_ble_eq_true rfl) (hk_ki fun v h1 q => ?_) hk_nx
    obtain ⟨rfl, rfl⟩ := q
    refine cx_ifb_eq (tgt := 21) dX9_draw_14 (by decide) rfl (fun z14 => ?_) (fun z14 => ?_)
    · have f14 : cd_H c t = 1 := cd_H_1 (of_decide_eq_false z14)
      refine hk_iconst (v := nI 1) dX9_draw_21 rfl (by decide) ?_
      refine hk_callV dX9_draw_22 rfl mv_X9_80 (cm_isWrong (k := 1) hfl (by decide) hk) rfl rfl (hm_g0 hk) rfl rfl (by decide) ⟨Nat.zero_le _, Nat.zero_le _⟩ (Nat.le_of_ble_eq_true rfl) (hk_ki fun v h1 q => ?_) hk_nx
      obtain ⟨rfl, rfl⟩ := q
      try rw [hm_mt_mt]
      refine cx_ifb_eq (tgt := 30) dX9_draw_25 (by decide) rfl (fun z25 => ?_) (fun z25 => ?_)
      · exact absurd z25 (by decide)
      · skip
        refine hk_iconst (v := nI 0) dX9_draw_28 rfl (by decide) ?_
        exact hk_ireturn rfl (rfl) dX9_draw_29 (by have e : cd_draw S c nb (nI a) t x q = 1 := (by first | (simp [cd_draw, cs_sq, cd_K, f6, vaa, f14]; done) | (rcases cd_O_or S a with o0 | o0 <;> rcases cd_O_or S b2 with o1 | o1 <;> simp [cd_draw, cs_sq, cd_K, f6, vaa, f14, o0, o1])); exact ⟨_, rfl, g, hm_x.rf, Or.inr ⟨by rw [e]; decide, A, hm_mt M (nI 1), rfl, by rw [e]; exact hm_mt0, ok, hk, rfl⟩⟩)
    · have f14 : cd_H c t = 0 := of_decide_eq_true z14
      obtain ⟨b2, hb2, rfl⟩ := cd_H_of (by omega) f14
      have vab2 : vN (nI b2) = b2 := vN_nI (by omega)
      refine hk_iconst (v := nI 0) dX9_draw_17 rfl (by decide) ?_
      refine hk_goto (tgt := 22) dX9_draw_18 (by decide) ?_
      refine hk_callV dX9_draw_22 rfl mv_X9_80 (cm_isWrong (k := 0) hfl (by decide) hk) rfl rfl (hm_g0 hk) rfl rfl (by decide) ⟨Nat.zero_le _, Nat.zero_le _⟩ (Nat.le_of_ble_eq_true rfl) (hk_ki fun v h1 q => ?_) hk_nx
      obtain ⟨rfl, rfl⟩ := q
      try rw [hm_mt_mt]
      refine cx_ifb_eq (tgt := 30) dX9_draw_25 (by decide) rfl (fun z25 => ?_) (fun z25 => ?_)
      · skip
        refine hk_aload_n dX9_draw_30 rfl rfl rfl ?_
        refine hk_iload_n dX9_draw_31 rfl rfl rfl ?_
        refine hk_iconst (v := nI 1) dX9_draw_32 rfl (by decide) ?_
        refine hk_sipush (v := nI 9999) dX9_draw_33 rfl (by decide) ?_
        refine hk_callS dX9_draw_36 rfl ms_X9_60 (cm_isBetween hfl) rfl rfl (by decide) ⟨Nat.zero_le _, Nat.zero_le _⟩ (Nat.le_of_ble_eq_true rfl) (hk_ki fun v h1 q => ?_) hk_nx
        obtain ⟨rfl, rfl⟩ := q
        refine cx_top (congrArg cx_b (cs_bwR _ _)) ?_
        refine cx_ifb_eq (tgt := 58) dX9_draw_39 (by decide) rfl (fun z39 => ?_) (fun z39 => ?_)
        · have f39 : cd_R x 9999 = 2 := cd_R_2 (of_decide_eq_false z39)
          refine hk_iconst (v := nI 2) dX9_draw_58 rfl (by decide) ?_
          refine hk_goto (tgt := 101) dX9_draw_59 (by decide) ?_
          refine hk_callV dX9_draw_101 rfl mv_X9_80 (cm_isWrong (k := 2) hfl (by decide) hk) rfl rfl (hm_g0 hk) rfl rfl (by decide) ⟨Nat.zero_le _, Nat.zero_le _⟩ (Nat.le_of_ble_eq_true rfl) (hk_ki fun v h1 q => ?_) hk_nx
          obtain ⟨rfl, rfl⟩ := q
          try rw [hm_mt_mt]
          refine cx_ifb_eq (tgt := 109) dX9_draw_104 (by decide) rfl (fun z104 => ?_) (fun z104 => ?_)
          · exact absurd z104 (by decide)
          · skip
            refine hk_iconst (v := nI 0) dX9_draw_107 rfl (by decide) ?_
            exact hk_ireturn rfl (rfl) dX9_draw_108 (by have e : cd_draw S c nb (nI a) (nI b2) x q = 2 := (by first | (simp [cd_draw, cs_sq, cd_K, f6, vaa, f14, vab2, f39]; done) | (rcases cd_O_or S a with o0 | o0 <;> rcases cd_O_or S b2 with o1 | o1 <;> simp [cd_draw, cs_sq, cd_K, f6, vaa, f14, vab2, f39, o0, o1])); exact ⟨_, rfl, g, hm_x.rf, Or.inr ⟨by rw [e]; decide, A, hm_mt M (nI 2), rfl, by rw [e]; exact hm_mt0, ok, hk, rfl⟩⟩)
        · have f39 : cd_R x 9999 = 0 := of_decide_eq_true z39
          refine hk_iload dX9_draw_42 rfl rfl ?_
          refine hk_iconst (v := nI 1) dX9_draw_44 rfl (by decide) ?_
          refine hk_bipush (v := nI 9) dX9_draw_45 rfl (by decide) ?_
          refine hk_callS dX9_draw_47 rfl ms_X9_60 (cm_isBetween hfl) rfl rfl (by decide) ⟨Nat.zero_le _, Nat.zero_le _⟩ (Nat.le_of_ble_eq_true rfl) (hk_ki fun v h1 q => ?_) hk_nx
          obtain ⟨rfl, rfl⟩ := q
          refine cx_top (congrArg cx_b (cs_bwR _ _)) ?_
          refine cx_ifb_eq (tgt := 58) dX9_draw_50 (by decide) rfl (fun z50 => ?_) (fun z50 => ?_)
          · have f50 : cd_R q 9 = 2 := cd_R_2 (of_decide_eq_false z50)
            refine hk_iconst (v := nI 2) dX9_draw_58 rfl (by decide) ?_
            refine hk_goto (tgt := 101) dX9_draw_59 (by decide) ?_
            refine hk_callV dX9_draw_101 rfl mv_X9_80 (cm_isWrong (k := 2) hfl (by decide) hk) rfl rfl (hm_g0 hk) rfl rfl (by decide) ⟨Nat.zero_le _, Nat.zero_le _⟩ (Nat.le_of_ble_eq_true rfl) (hk_ki fun v h1 q => ?_) hk_nx
            obtain ⟨rfl, rfl⟩ := q
            try rw [hm_mt_mt]
            refine cx_ifb_eq (tgt := 109) dX9_draw_104 (by decide) rfl (fun z104 => ?_) (fun z104 => ?_)
            · exact absurd z104 (by decide)
            · skip
              refine hk_iconst (v := nI 0) dX9_draw_107 rfl (by decide) ?_
              exact hk_ireturn rfl (rfl) dX9_draw_108 (by have e : cd_draw S c nb (nI a) (nI b2) x q = 2 := (by first | (simp [cd_draw, cs_sq, cd_K, f6, vaa, f14, vab2, f39, f50]; done) | (rcases cd_O_or S a with o0 | o0 <;> rcases cd_O_or S b2 with o1 | o1 <;> simp [cd_draw, cs_sq, cd_K, f6, vaa, f14, vab2, f39, f50, o0, o1])); exact ⟨_, rfl, g, hm_x.rf, Or.inr ⟨by rw [e]; decide, A, hm_mt M (nI 2), rfl, by rw [e]; exact hm_mt0, ok, hk, rfl⟩⟩)
          · have f50 : cd_R q 9 = 0 := of_decide_eq_true z50
            refine hk_iload_n dX9_draw_53 rfl rfl rfl ?_
            refine hk_iload_n dX9_draw_54 rfl rfl rfl ?_
            refine cx_icmp_ne (tgt := 62) (by omega) (by omega) dX9_draw_55 (by decide) rfl (fun z55 => ?_) (fun z55 => ?_)
            · skip
              have f55 : cd_D (nI a) (nI b2) = 0 := cd_D_ne z55
              refine hk_aload_n dX9_draw_62 rfl rfl rfl ?_
              refine hk_iload_n dX9_draw_63 rfl rfl rfl ?_
              refine hk_callV dX9_draw_64 rfl mv_X9_91 (cm_hasFailed hfl hk ok (by omega)) rfl rfl (hm_g0 hk) rfl rfl (by decide) ⟨Nat.zero_le _, Nat.zero_le _⟩ (Nat.le_of_ble_eq_true rfl) (hk_ki fun v h1 q => ?_) hk_nx
              obtain ⟨rfl, rfl⟩ := q
              refine cx_ifb_ne (tgt := 78) dX9_draw_67 (by decide) rfl (fun z67 => ?_) (fun z67 => ?_)
              · have f67 : cd_O S a = 3 := cd_O_3 (of_decide_eq_true z67)
                refine hk_iconst (v := nI 3) dX9_draw_78 rfl (by decide) ?_
                refine hk_goto (tgt := 101) dX9_draw_79 (by decide) ?_
                refine hk_callV dX9_draw_101 rfl mv_X9_80 (cm_isWrong (k := 3) hfl (by decide) hk) rfl rfl (hm_g0 hk) rfl rfl (by decide) ⟨Nat.zero_le _, Nat.zero_le _⟩ (Nat.le_of_ble_eq_true rfl) (hk_ki fun v h1 q => ?_) hk_nx
                obtain ⟨rfl, rfl⟩ := q
                try rw [hm_mt_mt]
                refine cx_ifb_eq (tgt := 109) dX9_draw_104 (by decide) rfl (fun z104 => ?_) (fun z104 => ?_)
                · exact absurd z104 (by decide)
                · skip
                  refine hk_iconst (v := nI 0) dX9_draw_107 rfl (by decide) ?_
                  exact hk_ireturn rfl (rfl) dX9_draw_108 (by have e : cd_draw S c nb (nI a) (nI b2) x q = 3 := (by first | (simp [cd_draw, cs_sq, cd_K, f6, vaa, f14, vab2, f39, f50, f55, f67]; done) | (rcases cd_O_or S a with o0 | o0 <;> rcases cd_O_or S b2 with o1 | o1 <;> simp [cd_draw, cs_sq, cd_K, f6, vaa, f14, vab2, f39, f50, f55, f67, o0, o1])); exact ⟨_, rfl, g, hm_x.rf, Or.inr ⟨by rw [e]; decide, A, hm_mt M (nI 3), rfl, by rw [e]; exact hm_mt0, ok, hk, rfl⟩⟩)
              · have f67 : cd_O S a = 0 := Decidable.of_not_not (of_decide_eq_false z67)
                refine hk_aload_n dX9_draw_70 rfl rfl rfl ?_
                refine hk_iload_n dX9_draw_71 rfl rfl rfl ?_
                refine hk_callV dX9_draw_72 rfl mv_X9_91 (cm_hasFailed hfl hk ok (by omega)) rfl rfl (hm_g0 hk) rfl rfl (by decide) ⟨Nat.zero_le _, Nat.zero_le _⟩ (Nat.le_of_ble_eq_true rfl) (hk_ki fun v h1 q => ?_) hk_nx
                obtain ⟨rfl, rfl⟩ := q
                refine cx_ifb_eq (tgt := 82) dX9_draw_75 (by decide) rfl (fun z75 => ?_) (fun z75 => ?_)
                · have f75 : cd_O S b2 = 0 := Decidable.of_not_not (of_decide_eq_false z75)
                  refine hk_aload_n dX9_draw_82 rfl rfl rfl ?_
                  refine hk_getf dX9_draw_83 rfl fl_X9_38 (hm_g0 hk) rfl ?_
                  refine hk_callF dX9_draw_86 rfl mf_X9_56 (cj_size hfl (hm_l2 hk ok)) rfl rfl (hm_l2 hk ok) rfl rfl (by decide) ⟨Nat.zero_le _, Nat.zero_le _⟩ (Nat.le_of_ble_eq_true rfl) (hk_ki fun v h1 q => ?_) hk_nx
                  obtain ⟨rfl, rfl⟩ := q
                  refine hk_bipush (v := nI 12) dX9_draw_91 rfl (by decide) ?_
                  refine cx_icmp_ne (tgt := 100) (by omega) (by omega) dX9_draw_93 (by decide) rfl (fun z93 => ?_) (fun z93 => ?_)
                  · skip
                    have f93 : cd_n nb 12 4 = 0 := if_pos (by omega)
                    refine hk_iconst (v := nI 0) dX9_draw_100 rfl (by decide) ?_
                    refine hk_callV dX9_draw_101 rfl mv_X9_80 (cm_isWrong (k := 0) hfl (by decide) hk) rfl rfl (hm_g0 hk) rfl rfl (by decide) ⟨Nat.zero_le _, Nat.zero_le _⟩ (Nat.le_of_ble_eq_true rfl) (hk_ki fun v h1 q => ?_) hk_nx
                    obtain ⟨rfl, rfl⟩ := q
                    try rw [hm_mt_mt]
                    refine cx_ifb_eq (tgt := 109) dX9_draw_104 (by decide) rfl (fun z104 => ?_) (fun z104 => ?_)
                    · skip
                      refine hk_aload_n dX9_draw_109 rfl rfl rfl ?_
                      refine hk_getf dX9_draw_110 rfl fl_X9_38 (hm_g0 hk) rfl ?_
                      refine hk_new dX9_draw_113 rfl nw_X9_182 (by decide) (fun w0 hw0 => ?_)
                      refine hk_dup dX9_draw_116 rfl rfl ?_
                      refine hk_iload_n dX9_draw_117 rfl rfl rfl ?_
                      refine hk_iload_n dX9_draw_118 rfl rfl rfl ?_
                      refine hk_iload_n dX9_draw_119 rfl rfl rfl ?_
                      have hn0 : A 0 ≠ w0 := fun e => by rw [← e] at hw0; exact nomatch (hw0.symm.trans (hm_g0 (M := hm_mt M (nI 0)) hk))
                      refine hk_aload_n dX9_draw_120 rfl rfl rfl ?_
                      refine hk_getf dX9_draw_121 rfl fl_X9_184 ((hk_set_ne hn0).trans (hm_g0 hk)) rfl ?_
                      refine hk_iload dX9_draw_124 rfl rfl ?_
                      refine hk_iadd dX9_draw_126 rfl ?_
                      refine hk_callI dX9_draw_127 rfl mi_X9_187 (cb_bill hfl hk_set_eq) rfl rfl (by decide) (by decide) (Nat.le_of_ble_eq_true rfl) (hk_kv fun h1 q1 => ?_) hk_nx
                      obtain ⟨p, hp, rfl⟩ := q1
                      obtain ⟨hpq, hp2, e2⟩ := hm_nwB (D := fun _ => True) (y := .inr (6, [.int 0, .ref (hk_K G 1001), .int (nI 0)])) (z := .inr (14, [.int (nI a), .int (nI b2), .int x, .int (S.1 33 0 + q), .ref p, .int (nI a), .int (nI 0)])) hp
                      refine hx_cg e2 ?_
                      obtain ⟨hk5, e5, x5⟩ := hm_okg (M := hm_mt M (nI 0)) (x := .inr (14, [.int (nI a), .int (nI b2), .int x, .int (S.1 33 0 + q), .ref p, .int (nI a), .int (nI 0)])) hk hw0
                      have hp3 := hp2
                      rw [e5] at hp3
                      obtain ⟨hk6, e6, x6⟩ := hm_okg (M := hm_mt M (nI 0)) (x := .inr (6, [.int 0, .ref (hk_K G 1001), .int (nI 0)])) hk5 hp3
                      rw [e5]
                      refine hx_cg e6 ?_
                      refine hk_callF dX9_draw_130 rfl mf_X9_50 (cj_add hfl (hm_al (i := 2) hk6 (by omega) (hm_v32le ok) (hm_n2 ok) (fun z => by rw [← hm_n2 ok]; exact hm_cap ok z) ok.2.2.2.2.2.2.1.1) (hm_ob2 hk6 ok) (Or.inr (Or.inr ⟨14, _, hm_gnd hk6 ((hk_set_ne hpq.symm).trans hk_set_eq), Or.inl rfl⟩))) rfl rfl (hm_l2 hk6 ok) rfl rfl (by decide) ⟨by omega, by omega⟩ (Nat.le_of_ble_eq_true rfl) (hk_ki fun y1 h1 q1 => ?_) hk_nx
                      obtain ⟨rfl, hgr⟩ := q1
                      obtain ⟨A2, M2, g2, a1, a2, a3, a4, rfl, a6⟩ := hm_addB (M := hm_mt M (nI 0)) ok hk hw0 hp2 (by omega) (h26 nb (Nat.le_refl _)) (cx_ne1 (by omega)) hgr
                      rw [← a1]
                      refine hk_pop dX9_draw_135 rfl rfl ?_
                      refine hk_aload_n dX9_draw_136 rfl rfl rfl ?_
                      refine hk_getf dX9_draw_137 rfl fl_X9_38 (hm_g0 a4) rfl ?_
                      refine hk_callF dX9_draw_140 rfl mf_X9_56 (cj_size hfl (hm_l2 a4 a3)) rfl rfl (hm_l2 a4 a3) rfl rfl (by decide) ⟨Nat.zero_le _, Nat.zero_le _⟩ (Nat.le_of_ble_eq_true rfl) (hk_ki fun y1 h1 q1 => ?_) hk_nx
                      obtain ⟨rfl, rfl⟩ := q1
                      refine hk_iconst (v := nI 1) dX9_draw_145 rfl (by decide) ?_
                      refine hk_isub dX9_draw_146 rfl ?_
                      refine cx_top ((cx_nsub (by omega)).trans (show nI (nb + 1 - 1) = nI nb by rw [Nat.add_sub_cancel])) ?_
                      exact hk_ireturn rfl (rfl) dX9_draw_147 (by have e : cd_draw S c nb (nI a) (nI b2) x q = 0 := (by simp [cd_draw, cs_sq, f6, vaa, f14, vab2, f39, f50, f55, f67, f75, f93]); (try simp only [vaa, vab2]); exact ⟨_, rfl, g2, a6, Or.inl ⟨by rw [e]; rfl, rfl, A2, M2, rfl, a2.trans hm_mt0, a3, a4, rfl⟩⟩)
                    · exact absurd z104 (by decide)
                  · skip
                    have f93 : cd_n nb 12 4 = 4 := if_neg (by omega)
                    refine hk_iconst (v := nI 4) dX9_draw_96 rfl (by decide) ?_
                    refine hk_goto (tgt := 101) dX9_draw_97 (by decide) ?_
                    refine hk_callV dX9_draw_101 rfl mv_X9_80 (cm_isWrong (k := 4) hfl (by decide) hk) rfl rfl (hm_g0 hk) rfl rfl (by decide) ⟨Nat.zero_le _, Nat.zero_le _⟩ (Nat.le_of_ble_eq_true rfl) (hk_ki fun v h1 q => ?_) hk_nx
                    obtain ⟨rfl, rfl⟩ := q
                    try rw [hm_mt_mt]
                    refine cx_ifb_eq (tgt := 109) dX9_draw_104 (by decide) rfl (fun z104 => ?_) (fun z104 => ?_)
                    · exact absurd z104 (by decide)
                    · skip
                      refine hk_iconst (v := nI 0) dX9_draw_107 rfl (by decide) ?_
                      exact hk_ireturn rfl (rfl) dX9_draw_108 (by have e : cd_draw S c nb (nI a) (nI b2) x q = 4 := (by first | (simp [cd_draw, cs_sq, cd_K, f6, vaa, f14, vab2, f39, f50, f55, f67, f75, f93]; done) | (rcases cd_O_or S a with o0 | o0 <;> rcases cd_O_or S b2 with o1 | o1 <;> simp [cd_draw, cs_sq, cd_K, f6, vaa, f14, vab2, f39, f50, f55, f67, f75, f93, o0, o1])); exact ⟨_, rfl, g, hm_x.rf, Or.inr ⟨by rw [e]; decide, A, hm_mt M (nI 4), rfl, by rw [e]; exact hm_mt0, ok, hk, rfl⟩⟩)
                · have f75 : cd_O S b2 = 3 := cd_O_3 (of_decide_eq_true z75)
                  refine hk_iconst (v := nI 3) dX9_draw_78 rfl (by decide) ?_
                  refine hk_goto (tgt := 101) dX9_draw_79 (by decide) ?_
                  refine hk_callV dX9_draw_101 rfl mv_X9_80 (cm_isWrong (k := 3) hfl (by decide) hk) rfl rfl (hm_g0 hk) rfl rfl (by decide) ⟨Nat.zero_le _, Nat.zero_le _⟩ (Nat.le_of_ble_eq_true rfl) (hk_ki fun v h1 q => ?_) hk_nx
                  obtain ⟨rfl, rfl⟩ := q
                  try rw [hm_mt_mt]
                  refine cx_ifb_eq (tgt := 109) dX9_draw_104 (by decide) rfl (fun z104 => ?_) (fun z104 => ?_)
                  · exact absurd z104 (by decide)
                  · skip
                    refine hk_iconst (v := nI 0) dX9_draw_107 rfl (by decide) ?_
                    exact hk_ireturn rfl (rfl) dX9_draw_108 (by have e : cd_draw S c nb (nI a) (nI b2) x q = 3 := (by first | (simp [cd_draw, cs_sq, cd_K, f6, vaa, f14, vab2, f39, f50, f55, f67, f75]; done) | (rcases cd_O_or S a with o0 | o0 <;> rcases cd_O_or S b2 with o1 | o1 <;> simp [cd_draw, cs_sq, cd_K, f6, vaa, f14, vab2, f39, f50, f55, f67, f75, o0, o1])); exact ⟨_, rfl, g, hm_x.rf, Or.inr ⟨by rw [e]; decide, A, hm_mt M (nI 3), rfl, by rw [e]; exact hm_mt0, ok, hk, rfl⟩⟩)
            · skip
              have f55 : cd_D (nI a) (nI b2) = 2 := cd_D_eq z55
              refine hk_iconst (v := nI 2) dX9_draw_58 rfl (by decide) ?_
              refine hk_goto (tgt := 101) dX9_draw_59 (by decide) ?_
              refine hk_callV dX9_draw_101 rfl mv_X9_80 (cm_isWrong (k := 2) hfl (by decide) hk) rfl rfl (hm_g0 hk) rfl rfl (by decide) ⟨Nat.zero_le _, Nat.zero_le _⟩ (Nat.le_of_ble_eq_true rfl) (hk_ki fun v h1 q => ?_) hk_nx
              obtain ⟨rfl, rfl⟩ := q
              try rw [hm_mt_mt]
              refine cx_ifb_eq (tgt := 109) dX9_draw_104 (by decide) rfl (fun z104 => ?_) (fun z104 => ?_)
              · exact absurd z104 (by decide)
              · skip
                refine hk_iconst (v := nI 0) dX9_draw_107 rfl (by decide) ?_
                exact hk_ireturn rfl (rfl) dX9_draw_108 (by have e : cd_draw S c nb (nI a) (nI b2) x q = 2 := (by first | (simp [cd_draw, cs_sq, cd_K, f6, vaa, f14, vab2, f39, f50, f55]; done) | (rcases cd_O_or S a with o0 | o0 <;> rcases cd_O_or S b2 with o1 | o1 <;> simp [cd_draw, cs_sq, cd_K, f6, vaa, f14, vab2, f39, f50, f55, o0, o1])); exact ⟨_, rfl, g, hm_x.rf, Or.inr ⟨by rw [e]; decide, A, hm_mt M (nI 2), rfl, by rw [e]; exact hm_mt0, ok, hk, rfl⟩⟩)
      · exact absurd z25 (by decide)
end CM6

section CM6
variable {G : hk_G} {l : Launch} {S : hs_S} {c nc nb m : Nat} {thr : Int32} {g h : hk_H}
theorem cm_mint {v mt q : Int32} (hfl : l.stackTraces = false) (hw : hm_Wd G m S c nc nb thr g h) (h16 : ∀ j, nc ≤ j → S.1 16 j = 0) : hk_Ctr G l 9 yX9_mint cX9_mint 6 (some .int) 180 7425 [.ref m, .int v, .int mt, .int q] h (hk_qi fun rv h1 => ml_Q G m (ml_tr [1, 2, 3, 4] (cd_mint S c nc v mt q)) S c nc nb (cs_mn (vN v) (cs_m mt) nc S (vN q)) (c) (nc + vN q) (nb) g (rv = nI nc) h1) hk_no := by
  obtain ⟨A, M, rfl, rfl, ok, hk, rfl⟩ := hw
  have hc1 := ok.1.2.1
  have hc := ok.1.2.2
  have hnc := ok.2.1.2
  have hnb := ok.2.2.1.2
  refine hk_enter (by decide) hfl (Nat.le_of_ble_eq_true rfl) rfl ?_
  refine hk_aload_n dX9_mint_0 rfl rfl rfl ?_
  refine hk_aload_n dX9_mint_1 rfl rfl rfl ?_
  refine hk_iload_n dX9_mint_2 rfl rfl rfl ?_
  refine hk_callV dX9_mint_3 rfl mv_X9_84 (cm_isHouse hfl hk ok) rfl rfl (hm_g0 hk) rfl rfl (by decide) ⟨Nat.zero_le _, Nat.zero_le _⟩ (Nat.le_of_ble_eq_true rfl) (hk_ki fun v h1 q => ?_) hk_nx
  obtain ⟨rfl, rfl⟩ := q
  refine cx_ifb_ne (tgt := 13) dX9_mint_6 (by decide) rfl (fun z6 => ?_) (fun z6 => ?_)
  · have f6 : cd_H c v = 0 := of_decide_eq_true z6
    obtain ⟨a, ha, rfl⟩ := cd_H_of (by omega) f6
    have vaa : vN (nI a) = a := vN_nI (by omega)
    refine hk_iload_n dX9_mint_13 rfl rfl rfl ?_
    refine hk_callS dX9_mint_14 rfl ms_X9_87 (cm_isMetal hfl) rfl rfl (by decide) ⟨Nat.zero_le _, Nat.zero_le _⟩ (Nat.le_of_ble_eq_true rfl) (hk_ki fun v h1 q => ?_) hk_nx
    obtain ⟨rfl, rfl⟩ := q
    refine cx_ifb_eq (tgt := 30) dX9_mint_17 (by decide) rfl (fun z17 => ?_) (fun z17 => ?_)
    · have f17 : cd_M mt = 2 := cd_M_2 (of_decide_eq_false z17)
      refine hk_iconst (v := nI 2) dX9_mint_30 rfl (by decide) ?_
      refine hk_goto (tgt := 47) dX9_mint_31 (by decide) ?_
      refine hk_callV dX9_mint_47 rfl mv_X9_80 (cm_isWrong (k := 2) hfl (by decide) hk) rfl rfl (hm_g0 hk) rfl rfl (by decide) ⟨Nat.zero_le _, Nat.zero_le _⟩ (Nat.le_of_ble_eq_true rfl) (hk_ki fun v h1 q => ?_) hk_nx
      obtain ⟨rfl, rfl⟩ := q
      try rw [hm_mt_mt]
      refine cx_ifb_eq (tgt := 55) dX9_mint_50 (by decide) rfl (fun z50 => ?_) (fun z50 => ?_)
      · exact absurd z50 (by decide)
      · skip
        refine hk_iconst (v := nI 0) dX9_mint_53 rfl (by decide) ?_
        exact hk_ireturn rfl (rfl) dX9_mint_54 (by have e : cd_mint S c nc (nI a) mt q = 2 := (by simp [cd_mint, cs_sq, f6, vaa, f17]); exact ⟨_, rfl, g, hm_x.rf, Or.inr ⟨by rw [e]; decide, A, hm_mt M (nI 2), rfl, by rw [e]; exact hm_mt0, ok, hk, rfl⟩⟩)
    · have f17 : cd_M mt = 0 := of_decide_eq_true z17
      refine hk_iload_n dX9_mint_20 rfl rfl rfl ?_
      refine hk_iconst (v := nI 1) dX9_mint_21 rfl (by decide) ?_
      refine hk_bipush (v := nI 90) dX9_mint_22 rfl (by decide) ?_
      refine hk_callS dX9_mint_24 rfl ms_X9_60 (cm_isBetween hfl) rfl rfl (by decide) ⟨Nat.zero_le _, Nat.zero_le _⟩ (Nat.le_of_ble_eq_true rfl) (hk_ki fun v h1 q => ?_) hk_nx
      obtain ⟨rfl, rfl⟩ := q
      refine cx_top (congrArg cx_b (cs_bwR _ _)) ?_
      refine cx_ifb_ne (tgt := 34) dX9_mint_27 (by decide) rfl (fun z27 => ?_) (fun z27 => ?_)
      · have f27 : cd_R q 90 = 0 := of_decide_eq_true z27
        obtain ⟨b2, hb21, hb22, rfl⟩ := cd_R_of (by omega) f27
        have vab2 : vN (nI b2) = b2 := vN_nI (by omega)
        refine hk_aload_n dX9_mint_34 rfl rfl rfl ?_
        refine hk_iload_n dX9_mint_35 rfl rfl rfl ?_
        refine hk_callV dX9_mint_36 rfl mv_X9_91 (cm_hasFailed hfl hk ok (by omega)) rfl rfl (hm_g0 hk) rfl rfl (by decide) ⟨Nat.zero_le _, Nat.zero_le _⟩ (Nat.le_of_ble_eq_true rfl) (hk_ki fun v h1 q => ?_) hk_nx
        obtain ⟨rfl, rfl⟩ := q
        refine cx_ifb_eq (tgt := 46) dX9_mint_39 (by decide) rfl (fun z39 => ?_) (fun z39 => ?_)
        · have f39 : cd_O S a = 0 := Decidable.of_not_not (of_decide_eq_false z39)
          refine hk_iconst (v := nI 0) dX9_mint_46 rfl (by decide) ?_
          refine hk_callV dX9_mint_47 rfl mv_X9_80 (cm_isWrong (k := 0) hfl (by decide) hk) rfl rfl (hm_g0 hk) rfl rfl (by decide) ⟨Nat.zero_le _, Nat.zero_le _⟩ (Nat.le_of_ble_eq_true rfl) (hk_ki fun v h1 q => ?_) hk_nx
          obtain ⟨rfl, rfl⟩ := q
          try rw [hm_mt_mt]
          refine cx_ifb_eq (tgt := 55) dX9_mint_50 (by decide) rfl (fun z50 => ?_) (fun z50 => ?_)
          · skip
            have hm := cs_m_lt mt
            refine hk_ldcS rfl dX9_mint_55 rfl ?_
            refine hk_iload_n dX9_mint_57 rfl rfl rfl ?_
            refine hk_callJ dX9_mint_58 rfl mv_X9_74 (cj_io hfl) rfl rfl (fun U H z => z.2.2.2.1.2.2.1) (by decide) ⟨Nat.zero_le _, Nat.zero_le _⟩ (Nat.le_of_ble_eq_true rfl) (hk_ki fun v h1 q => ?_) hk_nx
            obtain ⟨rfl, rfl⟩ := q
            refine cx_top (cs_ixm f17) ?_
            refine hk_istore dX9_mint_61 rfl (by decide) rfl ?_
            refine hk_aload_n dX9_mint_63 rfl rfl rfl ?_
            refine hk_aload_n dX9_mint_64 rfl rfl rfl ?_
            refine hk_getf dX9_mint_65 rfl fl_X9_29 (hm_g0 hk) rfl ?_
            refine hk_iload_n dX9_mint_68 rfl rfl rfl ?_
            refine hx_aaldI dX9_mint_69 rfl (hm_g3 hk) (show _ < 6 by omega) (by decide) (if_pos (show _ < 6 by omega)) ?_
            refine hk_iload dX9_mint_70 rfl rfl ?_
            refine hx_iald dX9_mint_72 rfl (hm_g4 hk (by omega)) (show _ < 2 by omega) (by decide) ?_
            refine cx_top (if_pos (by omega)) ?_
            refine hk_iload_n dX9_mint_73 rfl rfl rfl ?_
            refine hk_aload_n dX9_mint_74 rfl rfl rfl ?_
            refine hk_getf dX9_mint_75 rfl fl_X9_24 (hm_g0 hk) rfl ?_
            refine hk_iload dX9_mint_78 rfl rfl ?_
            refine hx_iald dX9_mint_80 rfl (hm_g2 hk) (show _ < 2 by omega) (by decide) ?_
            refine hk_imul dX9_mint_81 rfl ?_
            refine hk_icmp_lt (tgt := 101) dX9_mint_82 (by decide) rfl (fun z82 => ?_) (fun z82 => ?_)
            · skip
              have f82 : cd_ore S a (cs_m mt) (nI b2 * S.1 10 (cs_m mt)) = 4 := if_neg (Int32.not_le.mpr z82)
              refine hk_iconst (v := nI 4) dX9_mint_101 rfl (by decide) ?_
              refine hk_goto (tgt := 106) dX9_mint_102 (by decide) ?_
              refine hk_callV dX9_mint_106 rfl mv_X9_80 (cm_isWrong (k := 4) hfl (by decide) hk) rfl rfl (hm_g0 hk) rfl rfl (by decide) ⟨Nat.zero_le _, Nat.zero_le _⟩ (Nat.le_of_ble_eq_true rfl) (hk_ki fun v h1 q => ?_) hk_nx
              obtain ⟨rfl, rfl⟩ := q
              try rw [hm_mt_mt]
              refine cx_ifb_eq (tgt := 114) dX9_mint_109 (by decide) rfl (fun z109 => ?_) (fun z109 => ?_)
              · exact absurd z109 (by decide)
              · skip
                refine hk_iconst (v := nI 0) dX9_mint_112 rfl (by decide) ?_
                exact hk_ireturn rfl (rfl) dX9_mint_113 (by have e : cd_mint S c nc (nI a) mt (nI b2) = 4 := (by simp [cd_mint, cs_sq, f6, vaa, f17, f27, vab2, f39, f82]); exact ⟨_, rfl, g, hm_x.rf, Or.inr ⟨by rw [e]; decide, A, hm_mt M (nI 4), rfl, by rw [e]; exact hm_mt0, ok, hk, rfl⟩⟩)
            · skip
              have f82 : cd_ore S a (cs_m mt) (nI b2 * S.1 10 (cs_m mt)) = 0 := if_pos (Int32.not_lt.mp z82)
              refine hk_aload_n dX9_mint_85 rfl rfl rfl ?_
              refine hk_getf dX9_mint_86 rfl fl_X9_32 (hm_g0 hk) rfl ?_
              refine hk_callF dX9_mint_89 rfl mf_X9_56 (cj_size hfl (hm_l1 hk ok)) rfl rfl (hm_l1 hk ok) rfl rfl (by decide) ⟨Nat.zero_le _, Nat.zero_le _⟩ (Nat.le_of_ble_eq_true rfl) (hk_ki fun v h1 q => ?_) hk_nx
              obtain ⟨rfl, rfl⟩ := q
              refine hk_iload_n dX9_mint_94 rfl rfl rfl ?_
              refine hk_iadd dX9_mint_95 rfl ?_
              refine cx_top (nI_add _ _) ?_
              refine hk_bipush (v := nI 90) dX9_mint_96 rfl (by decide) ?_
              refine cx_icmp_le (tgt := 105) (by omega) (by omega) dX9_mint_98 (by decide) rfl (fun z98 => ?_) (fun z98 => ?_)
              · skip
                have f98 : cd_le b2 (90 - nc) = 0 := if_pos (by omega)
                refine hk_iconst (v := nI 0) dX9_mint_105 rfl (by decide) ?_
                refine hk_callV dX9_mint_106 rfl mv_X9_80 (cm_isWrong (k := 0) hfl (by decide) hk) rfl rfl (hm_g0 hk) rfl rfl (by decide) ⟨Nat.zero_le _, Nat.zero_le _⟩ (Nat.le_of_ble_eq_true rfl) (hk_ki fun v h1 q => ?_) hk_nx
                obtain ⟨rfl, rfl⟩ := q
                try rw [hm_mt_mt]
                refine cx_ifb_eq (tgt := 114) dX9_mint_109 (by decide) rfl (fun z109 => ?_) (fun z109 => ?_)
                · skip
                  refine hk_aload_n dX9_mint_114 rfl rfl rfl ?_
                  refine hk_getf dX9_mint_115 rfl fl_X9_32 (hm_g0 hk) rfl ?_
                  refine hk_callF dX9_mint_118 rfl mf_X9_56 (cj_size hfl (hm_l1 hk ok)) rfl rfl (hm_l1 hk ok) rfl rfl (by decide) ⟨Nat.zero_le _, Nat.zero_le _⟩ (Nat.le_of_ble_eq_true rfl) (hk_ki fun v h1 q => ?_) hk_nx
                  obtain ⟨rfl, rfl⟩ := q
                  refine hk_istore dX9_mint_123 rfl (by decide) rfl ?_
                  refine hk_aload_n dX9_mint_125 rfl rfl rfl ?_
                  refine hk_iload_n dX9_mint_126 rfl rfl rfl ?_
                  refine hk_iload dX9_mint_127 rfl rfl ?_
                  refine hk_iload_n dX9_mint_129 rfl rfl rfl ?_
                  have hb1 := hm_bd_le (nc + b2) (90 - (nc + b2))
                  rw [show nc + b2 + (90 - (nc + b2)) = 90 by omega, hm_bd_90] at hb1
                  refine hk_callV dX9_mint_130 rfl mv_X9_99 (cm_mints (k := b2) hfl hk ok (by omega) hm (by omega) h16) rfl rfl (hm_g0 hk) rfl rfl (by decide) ⟨by omega, by omega⟩ (Nat.le_of_ble_eq_true rfl) (hk_kv fun h1 q1 => ?_) hk_nx
                  obtain ⟨A2, M2, g2, a1, a2, a3, a4, rfl, a6⟩ := q1
                  refine hk_iload dX9_mint_133 rfl rfl ?_
                  exact hk_ireturn rfl (rfl) dX9_mint_135 (by have ez : cd_mint S c nc (nI a) mt (nI b2) = 0 := (by simp [cd_mint, cs_sq, f6, vaa, f17, f27, vab2, f39, f82, f98]); (try simp only [vaa, vab2]); exact ⟨_, rfl, g2, a6, Or.inl ⟨by rw [ez]; rfl, rfl, A2, M2, a1, a2.trans hm_mt0, a3, a4, rfl⟩⟩)
                · exact absurd z109 (by decide)
              · skip
                have f98 : cd_le b2 (90 - nc) = 4 := if_neg (by omega)
                refine hk_iconst (v := nI 4) dX9_mint_101 rfl (by decide) ?_
                refine hk_goto (tgt := 106) dX9_mint_102 (by decide) ?_
                refine hk_callV dX9_mint_106 rfl mv_X9_80 (cm_isWrong (k := 4) hfl (by decide) hk) rfl rfl (hm_g0 hk) rfl rfl (by decide) ⟨Nat.zero_le _, Nat.zero_le _⟩ (Nat.le_of_ble_eq_true rfl) (hk_ki fun v h1 q => ?_) hk_nx
                obtain ⟨rfl, rfl⟩ := q
                try rw [hm_mt_mt]
                refine cx_ifb_eq (tgt := 114) dX9_mint_109 (by decide) rfl (fun z109 => ?_) (fun z109 => ?_)
                · exact absurd z109 (by decide)
                · skip
                  refine hk_iconst (v := nI 0) dX9_mint_112 rfl (by decide) ?_
                  exact hk_ireturn rfl (rfl) dX9_mint_113 (by have e : cd_mint S c nc (nI a) mt (nI b2) = 4 := (by simp [cd_mint, cs_sq, f6, vaa, f17, f27, vab2, f39, f82, f98]); exact ⟨_, rfl, g, hm_x.rf, Or.inr ⟨by rw [e]; decide, A, hm_mt M (nI 4), rfl, by rw [e]; exact hm_mt0, ok, hk, rfl⟩⟩)
          · exact absurd z50 (by decide)
        · have f39 : cd_O S a = 3 := cd_O_3 (of_decide_eq_true z39)
          refine hk_iconst (v := nI 3) dX9_mint_42 rfl (by decide) ?_
          refine hk_goto (tgt := 47) dX9_mint_43 (by decide) ?_
          refine hk_callV dX9_mint_47 rfl mv_X9_80 (cm_isWrong (k := 3) hfl (by decide) hk) rfl rfl (hm_g0 hk) rfl rfl (by decide) ⟨Nat.zero_le _, Nat.zero_le _⟩ (Nat.le_of_ble_eq_true rfl) (hk_ki fun v h1 q => ?_) hk_nx
          obtain ⟨rfl, rfl⟩ := q
          try rw [hm_mt_mt]
          refine cx_ifb_eq (tgt := 55) dX9_mint_50 (by decide) rfl (fun z50 => ?_) (fun z50 => ?_)
          · exact absurd z50 (by decide)
          · skip
            refine hk_iconst (v := nI 0) dX9_mint_53 rfl (by decide) ?_
            exact hk_ireturn rfl (rfl) dX9_mint_54 (by have e : cd_mint S c nc (nI a) mt (nI b2) = 3 := (by simp [cd_mint, cs_sq, f6, vaa, f17, f27, vab2, f39]); exact ⟨_, rfl, g, hm_x.rf, Or.inr ⟨by rw [e]; decide, A, hm_mt M (nI 3), rfl, by rw [e]; exact hm_mt0, ok, hk, rfl⟩⟩)
      · have f27 : cd_R q 90 = 2 := cd_R_2 (of_decide_eq_false z27)
        refine hk_iconst (v := nI 2) dX9_mint_30 rfl (by decide) ?_
        refine hk_goto (tgt := 47) dX9_mint_31 (by decide) ?_
        refine hk_callV dX9_mint_47 rfl mv_X9_80 (cm_isWrong (k := 2) hfl (by decide) hk) rfl rfl (hm_g0 hk) rfl rfl (by decide) ⟨Nat.zero_le _, Nat.zero_le _⟩ (Nat.le_of_ble_eq_true rfl) (hk_ki fun v h1 q => ?_) hk_nx
        obtain ⟨rfl, rfl⟩ := q
        try rw [hm_mt_mt]
        refine cx_ifb_eq (tgt := 55) dX9_mint_50 (by decide) rfl (fun z50 => ?_) (fun z50 => ?_)
        · exact absurd z50 (by decide)
        · skip
          refine hk_iconst (v := nI 0) dX9_mint_53 rfl (by decide) ?_
          exact hk_ireturn rfl (rfl) dX9_mint_54 (by have e : cd_mint S c nc (nI a) mt q = 2 := (by simp [cd_mint, cs_sq, f6, vaa, f17, f27]); exact ⟨_, rfl, g, hm_x.rf, Or.inr ⟨by rw [e]; decide, A, hm_mt M (nI 2), rfl, by rw [e]; exact hm_mt0, ok, hk, rfl⟩⟩)
  · have f6 : cd_H c v = 1 := cd_H_1 (of_decide_eq_false z6)
    refine hk_iconst (v := nI 1) dX9_mint_9 rfl (by decide) ?_
    refine hk_goto (tgt := 47) dX9_mint_10 (by decide) ?_
    refine hk_callV dX9_mint_47 rfl mv_X9_80 (cm_isWrong (k := 1) hfl (by decide) hk) rfl rfl (hm_g0 hk) rfl rfl (by decide) ⟨Nat.zero_le _, Nat.zero_le _⟩ (Nat.le_of_ble_eq_true rfl) (hk_ki fun v h1 q => ?_) hk_nx
    obtain ⟨rfl, rfl⟩ := q
    try rw [hm_mt_mt]
    refine cx_ifb_eq (tgt := 55) dX9_mint_50 (by decide) rfl (fun z50 => ?_) (fun z50 => ?_)
    · exact absurd z50 (by decide)
    · skip
      refine hk_iconst (v := nI 0) dX9_mint_53 rfl (by decide) ?_
      exact hk_ireturn rfl (rfl) dX9_mint_54 (by have e : cd_mint S c nc v mt q = 1 := (by simp [cd_mint, cs_sq, f6]); exact ⟨_, rfl, g, hm_x.rf, Or.inr ⟨by rw [e]; decide, A, hm_mt M (nI 1), rfl, by rw [e]; exact hm_mt0, ok, hk, rfl⟩⟩)
theorem cm_addHouse {v : Int32} (hfl : l.stackTraces = false) (hw : hm_Wd G m S c nc nb thr g h) : hk_Ctr G l 9 yX9_addHouse cX9_addHouse 2 (some .int) 1 20 [.ref m, .int v] h (hk_qi fun rv h1 => ml_Q G m (ml_tr [2, 3] (cd_addHouse c v)) S c nc nb (cs_open S c v) (c + 1) (nc) (nb) g (rv = nI c) h1) hk_no := by
  obtain ⟨A, M, rfl, rfl, ok, hk, rfl⟩ := hw
  have hc1 := ok.1.2.1
  have hc := ok.1.2.2
  have hnc := ok.2.1.2
  have hnb := ok.2.2.1.2
  refine hk_enter (by decide) hfl (Nat.le_of_ble_eq_true rfl) rfl ?_
  refine hk_aload_n dX9_addHouse_0 rfl rfl rfl ?_
  refine hk_iload_n dX9_addHouse_1 rfl rfl rfl ?_
  refine hk_bipush (v := nI 98) dX9_addHouse_2 rfl (by decide) ?_
  refine hk_icmp_eq (tgt := 17) dX9_addHouse_4 (by decide) rfl (fun z4 => ?_) (fun z4 => ?_)
  · skip
    have f4 : cd_a v = 0 := if_pos z4
    refine hk_aload_n dX9_addHouse_17 rfl rfl rfl ?_
    refine hk_getf dX9_addHouse_18 rfl fl_X9_16 (hm_g0 hk) rfl ?_
    refine hk_callF dX9_addHouse_21 rfl mf_X9_56 (cj_size hfl (hm_l0 hk ok)) rfl rfl (hm_l0 hk ok) rfl rfl (by decide) ⟨Nat.zero_le _, Nat.zero_le _⟩ (Nat.le_of_ble_eq_true rfl) (hk_ki fun v h1 q => ?_) hk_nx
    obtain ⟨rfl, rfl⟩ := q
    refine hk_bipush (v := nI 6) dX9_addHouse_26 rfl (by decide) ?_
    refine cx_icmp_ne (tgt := 35) (by omega) (by omega) dX9_addHouse_28 (by decide) rfl (fun z28 => ?_) (fun z28 => ?_)
    · skip
      have f28 : cd_n c 6 3 = 0 := if_pos (by omega)
      refine hk_iconst (v := nI 0) dX9_addHouse_35 rfl (by decide) ?_
      refine hk_callV dX9_addHouse_36 rfl mv_X9_80 (cm_isWrong (k := 0) hfl (by decide) hk) rfl rfl (hm_g0 hk) rfl rfl (by decide) ⟨Nat.zero_le _, Nat.zero_le _⟩ (Nat.le_of_ble_eq_true rfl) (hk_ki fun v h1 q => ?_) hk_nx
      obtain ⟨rfl, rfl⟩ := q
      try rw [hm_mt_mt]
      refine cx_ifb_eq (tgt := 44) dX9_addHouse_39 (by decide) rfl (fun z39 => ?_) (fun z39 => ?_)
      · skip
        obtain ⟨k0, hk0, hk1, hk2, ek⟩ : ∃ k0 : Nat, k0 < 128 ∧ k0 ≠ 120 ∧ (k0 = 98 ∨ k0 = 116) ∧ v = nI k0 := by first | exact ⟨98, by omega, by omega, Or.inl rfl, z4⟩ | exact ⟨116, by omega, by omega, Or.inr rfl, z10⟩
        subst ek
        refine hk_aload_n dX9_addHouse_44 rfl rfl rfl ?_
        refine hk_getf dX9_addHouse_45 rfl fl_X9_16 (hm_g0 hk) rfl ?_
        refine hk_iload_n dX9_addHouse_48 rfl rfl rfl ?_
        refine hk_callS dX9_addHouse_49 rfl ms_X9_44 (cj_cv hfl hk0) rfl rfl (by decide) ⟨Nat.zero_le _, Nat.zero_le _⟩ (Nat.le_of_ble_eq_true rfl) (hk_kr fun x h1 q => ?_) hk_nx
        obtain ⟨rfl, rfl⟩ := q
        refine hk_callF dX9_addHouse_52 rfl mf_X9_50 (cj_add hfl (hm_al (i := 0) hk (by omega) (hm_v32le ok) (hm_n0 ok) (fun z => by rw [← hm_n0 ok]; exact hm_cap ok z) (Or.inl ok.2.2.2.2.1.1)) (hm_ob0 ok) (Or.inl ⟨k0, hk0, rfl⟩)) rfl rfl (hm_l0 hk ok) rfl rfl (by decide) ⟨by omega, by omega⟩ (Nat.le_of_ble_eq_true rfl) (hk_ki fun x h1 q1 => ?_) hk_nx
        obtain ⟨rfl, hgr⟩ := q1
        obtain ⟨A2, M2, g2, a1, a2, a3, a4, rfl, a6⟩ := hm_addK (M := hm_mt M (nI 0)) ok hk (by omega) hk0 hk1 hgr
        rw [← a1]
        refine hk_pop dX9_addHouse_57 rfl rfl ?_
        refine hk_aload_n dX9_addHouse_58 rfl rfl rfl ?_
        refine hk_getf dX9_addHouse_59 rfl fl_X9_16 (hm_g0 a4) rfl ?_
        refine hk_callF dX9_addHouse_62 rfl mf_X9_56 (cj_size hfl (hm_l0 a4 a3)) rfl rfl (hm_l0 a4 a3) rfl rfl (by decide) ⟨Nat.zero_le _, Nat.zero_le _⟩ (Nat.le_of_ble_eq_true rfl) (hk_ki fun x h1 q => ?_) hk_nx
        obtain ⟨rfl, rfl⟩ := q
        refine hk_iconst (v := nI 1) dX9_addHouse_67 rfl (by decide) ?_
        refine hk_isub dX9_addHouse_68 rfl ?_
        refine cx_top ((cx_nsub (by omega)).trans (show nI (c + 1 - 1) = nI c by rw [Nat.add_sub_cancel])) ?_
        exact hk_ireturn rfl (rfl) dX9_addHouse_69 (by have ez : cd_addHouse c (nI k0) = 0 := (by simp [cd_addHouse, cs_sq, f4, f28]); exact ⟨_, rfl, g2, a6, Or.inl ⟨by rw [ez]; rfl, rfl, A2, M2, rfl, a2.trans hm_mt0, a3, a4, rfl⟩⟩)
      · exact absurd z39 (by decide)
    · skip
      have f28 : cd_n c 6 3 = 3 := if_neg (by omega)
      refine hk_iconst (v := nI 2) dX9_addHouse_31 rfl (by decide) ?_
      refine hk_goto (tgt := 36) dX9_addHouse_32 (by decide) ?_
      refine hk_callV dX9_addHouse_36 rfl mv_X9_80 (cm_isWrong (k := 2) hfl (by decide) hk) rfl rfl (hm_g0 hk) rfl rfl (by decide) ⟨Nat.zero_le _, Nat.zero_le _⟩ (Nat.le_of_ble_eq_true rfl) (hk_ki fun v h1 q => ?_) hk_nx
      obtain ⟨rfl, rfl⟩ := q
      try rw [hm_mt_mt]
      refine cx_ifb_eq (tgt := 44) dX9_addHouse_39 (by decide) rfl (fun z39 => ?_) (fun z39 => ?_)
      · exact absurd z39 (by decide)
      · skip
        refine hk_iconst (v := nI 0) dX9_addHouse_42 rfl (by decide) ?_
        exact hk_ireturn rfl (rfl) dX9_addHouse_43 (by have e : cd_addHouse c v = 3 := (by simp [cd_addHouse, cs_sq, f4, f28]); exact ⟨_, rfl, g, hm_x.rf, Or.inr ⟨by rw [e]; decide, A, hm_mt M (nI 2), rfl, by rw [e]; exact hm_mt0, ok, hk, rfl⟩⟩)
  · skip
    refine hk_iload_n dX9_addHouse_7 rfl rfl rfl ?_
    refine hk_bipush (v := nI 116) dX9_addHouse_8 rfl (by decide) ?_
    refine hk_icmp_eq (tgt := 17) dX9_addHouse_10 (by decide) rfl (fun z10 => ?_) (fun z10 => ?_)
    · skip
      have f10 : cd_a v = 0 := by unfold cd_a; rw [if_neg z4, if_pos z10]
      refine hk_aload_n dX9_addHouse_17 rfl rfl rfl ?_
      refine hk_getf dX9_addHouse_18 rfl fl_X9_16 (hm_g0 hk) rfl ?_
      refine hk_callF dX9_addHouse_21 rfl mf_X9_56 (cj_size hfl (hm_l0 hk ok)) rfl rfl (hm_l0 hk ok) rfl rfl (by decide) ⟨Nat.zero_le _, Nat.zero_le _⟩ (Nat.le_of_ble_eq_true rfl) (hk_ki fun v h1 q => ?_) hk_nx
      obtain ⟨rfl, rfl⟩ := q
      refine hk_bipush (v := nI 6) dX9_addHouse_26 rfl (by decide) ?_
      refine cx_icmp_ne (tgt := 35) (by omega) (by omega) dX9_addHouse_28 (by decide) rfl (fun z28 => ?_) (fun z28 => ?_)
      · skip
        have f28 : cd_n c 6 3 = 0 := if_pos (by omega)
        refine hk_iconst (v := nI 0) dX9_addHouse_35 rfl (by decide) ?_
        refine hk_callV dX9_addHouse_36 rfl mv_X9_80 (cm_isWrong (k := 0) hfl (by decide) hk) rfl rfl (hm_g0 hk) rfl rfl (by decide) ⟨Nat.zero_le _, Nat.zero_le _⟩ (Nat.le_of_ble_eq_true rfl) (hk_ki fun v h1 q => ?_) hk_nx
        obtain ⟨rfl, rfl⟩ := q
        try rw [hm_mt_mt]
        refine cx_ifb_eq (tgt := 44) dX9_addHouse_39 (by decide) rfl (fun z39 => ?_) (fun z39 => ?_)
        · skip
          obtain ⟨k0, hk0, hk1, hk2, ek⟩ : ∃ k0 : Nat, k0 < 128 ∧ k0 ≠ 120 ∧ (k0 = 98 ∨ k0 = 116) ∧ v = nI k0 := by first | exact ⟨98, by omega, by omega, Or.inl rfl, z4⟩ | exact ⟨116, by omega, by omega, Or.inr rfl, z10⟩
          subst ek
          refine hk_aload_n dX9_addHouse_44 rfl rfl rfl ?_
          refine hk_getf dX9_addHouse_45 rfl fl_X9_16 (hm_g0 hk) rfl ?_
          refine hk_iload_n dX9_addHouse_48 rfl rfl rfl ?_
          refine hk_callS dX9_addHouse_49 rfl ms_X9_44 (cj_cv hfl hk0) rfl rfl (by decide) ⟨Nat.zero_le _, Nat.zero_le _⟩ (Nat.le_of_ble_eq_true rfl) (hk_kr fun x h1 q => ?_) hk_nx
          obtain ⟨rfl, rfl⟩ := q
          refine hk_callF dX9_addHouse_52 rfl mf_X9_50 (cj_add hfl (hm_al (i := 0) hk (by omega) (hm_v32le ok) (hm_n0 ok) (fun z => by rw [← hm_n0 ok]; exact hm_cap ok z) (Or.inl ok.2.2.2.2.1.1)) (hm_ob0 ok) (Or.inl ⟨k0, hk0, rfl⟩)) rfl rfl (hm_l0 hk ok) rfl rfl (by decide) ⟨by omega, by omega⟩ (Nat.le_of_ble_eq_true rfl) (hk_ki fun x h1 q1 => ?_) hk_nx
          obtain ⟨rfl, hgr⟩ := q1
          obtain ⟨A2, M2, g2, a1, a2, a3, a4, rfl, a6⟩ := hm_addK (M := hm_mt M (nI 0)) ok hk (by omega) hk0 hk1 hgr
          rw [← a1]
          refine hk_pop dX9_addHouse_57 rfl rfl ?_
          refine hk_aload_n dX9_addHouse_58 rfl rfl rfl ?_
          refine hk_getf dX9_addHouse_59 rfl fl_X9_16 (hm_g0 a4) rfl ?_
          refine hk_callF dX9_addHouse_62 rfl mf_X9_56 (cj_size hfl (hm_l0 a4 a3)) rfl rfl (hm_l0 a4 a3) rfl rfl (by decide) ⟨Nat.zero_le _, Nat.zero_le _⟩ (Nat.le_of_ble_eq_true rfl) (hk_ki fun x h1 q => ?_) hk_nx
          obtain ⟨rfl, rfl⟩ := q
          refine hk_iconst (v := nI 1) dX9_addHouse_67 rfl (by decide) ?_
          refine hk_isub dX9_addHouse_68 rfl ?_
          refine cx_top ((cx_nsub (by omega)).trans (show nI (c + 1 - 1) = nI c by rw [Nat.add_sub_cancel])) ?_
          exact hk_ireturn rfl (rfl) dX9_addHouse_69 (by have ez : cd_addHouse c (nI k0) = 0 := (by simp [cd_addHouse, cs_sq, f10, f28]); exact ⟨_, rfl, g2, a6, Or.inl ⟨by rw [ez]; rfl, rfl, A2, M2, rfl, a2.trans hm_mt0, a3, a4, rfl⟩⟩)
        · exact absurd z39 (by decide)
      · skip
        have f28 : cd_n c 6 3 = 3 := if_neg (by omega)
        refine hk_iconst (v := nI 2) dX9_addHouse_31 rfl (by decide) ?_
        refine hk_goto (tgt := 36) dX9_addHouse_32 (by decide) ?_
        refine hk_callV dX9_addHouse_36 rfl mv_X9_80 (cm_isWrong (k := 2) hfl (by decide) hk) rfl rfl (hm_g0 hk) rfl rfl (by decide) ⟨Nat.zero_le _, Nat.zero_le _⟩ (Nat.le_of_ble_eq_true rfl) (hk_ki fun v h1 q => ?_) hk_nx
        obtain ⟨rfl, rfl⟩ := q
        try rw [hm_mt_mt]
        refine cx_ifb_eq (tgt := 44) dX9_addHouse_39 (by decide) rfl (fun z39 => ?_) (fun z39 => ?_)
        · exact absurd z39 (by decide)
        · skip
          refine hk_iconst (v := nI 0) dX9_addHouse_42 rfl (by decide) ?_
          exact hk_ireturn rfl (rfl) dX9_addHouse_43 (by have e : cd_addHouse c v = 3 := (by simp [cd_addHouse, cs_sq, f10, f28]); exact ⟨_, rfl, g, hm_x.rf, Or.inr ⟨by rw [e]; decide, A, hm_mt M (nI 2), rfl, by rw [e]; exact hm_mt0, ok, hk, rfl⟩⟩)
    · skip
      have f10 : cd_a v = 2 := by unfold cd_a; rw [if_neg z4, if_neg z10]
      refine hk_iconst (v := nI 1) dX9_addHouse_13 rfl (by decide) ?_
      refine hk_goto (tgt := 36) dX9_addHouse_14 (by decide) ?_
      refine hk_callV dX9_addHouse_36 rfl mv_X9_80 (cm_isWrong (k := 1) hfl (by decide) hk) rfl rfl (hm_g0 hk) rfl rfl (by decide) ⟨Nat.zero_le _, Nat.zero_le _⟩ (Nat.le_of_ble_eq_true rfl) (hk_ki fun v h1 q => ?_) hk_nx
      obtain ⟨rfl, rfl⟩ := q
      try rw [hm_mt_mt]
      refine cx_ifb_eq (tgt := 44) dX9_addHouse_39 (by decide) rfl (fun z39 => ?_) (fun z39 => ?_)
      · exact absurd z39 (by decide)
      · skip
        refine hk_iconst (v := nI 0) dX9_addHouse_42 rfl (by decide) ?_
        exact hk_ireturn rfl (rfl) dX9_addHouse_43 (by have e : cd_addHouse c v = 2 := (by simp [cd_addHouse, cs_sq, f10]); exact ⟨_, rfl, g, hm_x.rf, Or.inr ⟨by rw [e]; decide, A, hm_mt M (nI 1), rfl, by rw [e]; exact hm_mt0, ok, hk, rfl⟩⟩)
theorem hm_nwB {D : Nat → Prop} {h : hk_H} {p q : Nat} {x y z : hk_E} (hp : hk_set h q x p = none) : p ≠ q ∧ hk_set h q z p = none ∧ hk_set (hk_set (hk_set h q x) p y) q z = hk_set (hk_set h q z) p y := by
  have hpq : p ≠ q := fun e => by rw [e, hk_set_eq] at hp; cases hp
  refine ⟨hpq, by rw [hk_set_ne hpq] at hp ⊢; exact hp, ?_⟩
  rw [hk_set_comm hpq.symm, hk_set_set, hk_set_comm hpq]
theorem cm_draw {v t x q : Int32} (hfl : l.stackTraces = false) (hw : hm_Wd G m S c nc nb thr g h) (h26 : ∀ j, nb ≤ j → S.1 26 j = 0) : hk_Ctr G l 9 yX9_draw cX9_draw 5 (some .int) 3 40 [.ref m, .int v, .int t, .int x, .int q] h (hk_qi fun rv h1 => ml_Q G m (ml_tr [1, 2, 3, 4] (cd_draw S c nb v t x q)) S c nc nb (cs_write S nb v t x q) (c) (nc) (nb + 1) g (rv = nI nb) h1) hk_no := by
  obtain ⟨A, M, rfl, rfl, ok, hk, rfl⟩ := hw
  have hc1 := ok.1.2.1
  have hc := ok.1.2.2
  have hnc := ok.2.1.2
  have hnb := ok.2.2.1.2
  refine hk_enter (by decide) hfl (Nat.le_of_ble_eq_true rfl) rfl ?_
  refine hk_aload_n dX9_draw_0 rfl rfl rfl ?_
  refine hk_aload_n dX9_draw_1 rfl rfl rfl ?_
  refine hk_iload_n dX9_draw_2 rfl rfl rfl ?_
  refine hk_callV dX9_draw_3 rfl mv_X9_84 (cm_isHouse hfl hk ok) rfl rfl (hm_g0 hk) rfl rfl (by decide) ⟨Nat.zero_le _, Nat.zero_le _⟩ (Nat.le_of_ble_eq_true rfl) (hk_ki fun v h1 q => ?_) hk_nx
  obtain ⟨rfl, rfl⟩ := q
  refine cx_ifb_eq (tgt := 21) dX9_draw_6 (by decide) rfl (fun z6 => ?_) (fun z6 => ?_)
  · have f6 : cd_H c v = 1 := cd_H_1 (of_decide_eq_false z6)
    refine hk_iconst (v := nI 1) dX9_draw_21 rfl (by decide) ?_
    refine hk_callV dX9_draw_22 rfl mv_X9_80 (cm_isWrong (k := 1) hfl (by decide) hk) rfl rfl (hm_g0 hk) rfl rfl (by decide) ⟨Nat.zero_le _, Nat.zero_le _⟩ (Nat.le_of_ble_eq_true rfl) (hk_ki fun v h1 q => ?_) hk_nx
    obtain ⟨rfl, rfl⟩ := q
    try rw [hm_mt_mt]
    refine cx_ifb_eq (tgt := 30) dX9_draw_25 (by decide) rfl (fun z25 => ?_) (fun z25 => ?_)
    · exact absurd z25 (by decide)
    · skip
      refine hk_iconst (v := nI 0) dX9_draw_28 rfl (by decide) ?_
      exact hk_ireturn rfl (rfl) dX9_draw_29 (by have e : cd_draw S c nb v t x q = 1 := (by first | (simp [cd_draw, cs_sq, cd_K, f6]; done) | (rcases cd_O_or S a with o0 | o0 <;> rcases cd_O_or S b2 with o1 | o1 <;> simp [cd_draw, cs_sq, cd_K, f6, o0, o1])); exact ⟨_, rfl, g, hm_x.rf, Or.inr ⟨by rw [e]; decide, A, hm_mt M (nI 1), rfl, by rw [e]; exact hm_mt0, ok, hk, rfl⟩⟩)
  · have f6 : cd_H c v = 0 := of_decide_eq_true z6
    obtain ⟨a, ha, rfl⟩ := cd_H_of (by omega) f6
    have vaa : vN (nI a) = a := vN_nI (by omega)
    refine hk_aload_n dX9_draw_9 rfl rfl rfl ?_
    refine hk_iload_n dX9_draw_10 rfl rfl rfl ?_
    refine hk_callV dX9_draw_11 rfl mv_X9_84 (cm_isHouse hfl hk ok) rfl rfl (hm_g0 hk) rfl rfl (by decide) ⟨Nat.zero_le _, Nat.zero_le _⟩ (Nat.le_of_ble_eq_true rfl) (hk_ki fun v h1 q => ?_) hk_nx
    obtain ⟨rfl, rfl⟩ := q
    refine cx_ifb_eq (tgt := 21) dX9_draw_14 (by decide) rfl (fun z14 => ?_) (fun z14 => ?_)
    · have f14 : cd_H c t = 1 := cd_H_1 (of_decide_eq_false z14)
      refine hk_iconst (v := nI 1) dX9_draw_21 rfl (by decide) ?_
      refine hk_callV dX9_draw_22 rfl mv_X9_80 (cm_isWrong (k := 1) hfl (by decide) hk) rfl rfl (hm_g0 hk) rfl rfl (by decide) ⟨Nat.zero_le _, Nat.zero_le _⟩ (Nat.le_of_ble_eq_true rfl) (hk_ki fun v h1 q => ?_) hk_nx
      obtain ⟨rfl, rfl⟩ := q
      try rw [hm_mt_mt]
      refine cx_ifb_eq (tgt := 30) dX9_draw_25 (by decide) rfl (fun z25 => ?_) (fun z25 => ?_)
      · exact absurd z25 (by decide)
      · skip
        refine hk_iconst (v := nI 0) dX9_draw_28 rfl (by decide) ?_
        exact hk_ireturn rfl (rfl) dX9_draw_29 (by have e : cd_draw S c nb (nI a) t x q = 1 := (by first | (simp [cd_draw, cs_sq, cd_K, f6, vaa, f14]; done) | (rcases cd_O_or S a with o0 | o0 <;> rcases cd_O_or S b2 with o1 | o1 <;> simp [cd_draw, cs_sq, cd_K, f6, vaa, f14, o0, o1])); exact ⟨_, rfl, g, hm_x.rf, Or.inr ⟨by rw [e]; decide, A, hm_mt M (nI 1), rfl, by rw [e]; exact hm_mt0, ok, hk, rfl⟩⟩)
    · have f14 : cd_H c t = 0 := of_decide_eq_true z14
      obtain ⟨b2, hb2, rfl⟩ := cd_H_of (by omega) f14
      have vab2 : vN (nI b2) = b2 := vN_nI (by omega)
      refine hk_iconst (v := nI 0) dX9_draw_17 rfl (by decide) ?_
      refine hk_goto (tgt := 22) dX9_draw_18 (by decide) ?_
      refine hk_callV dX9_draw_22 rfl mv_X9_80 (cm_isWrong (k := 0) hfl (by decide) hk) rfl rfl (hm_g0 hk) rfl rfl (by decide) ⟨Nat.zero_le _, Nat.zero_le _⟩ (Nat.le_of_ble_eq_true rfl) (hk_ki fun v h1 q => ?_) hk_nx
      obtain ⟨rfl, rfl⟩ := q
      try rw [hm_mt_mt]
      refine cx_ifb_eq (tgt := 30) dX9_draw_25 (by decide) rfl (fun z25 => ?_) (fun z25 => ?_)
      · skip
        refine hk_aload_n dX9_draw_30 rfl rfl rfl ?_
        refine hk_iload_n dX9_draw_31 rfl rfl rfl ?_
        refine hk_iconst (v := nI 1) dX9_draw_32 rfl (by decide) ?_
        refine hk_sipush (v := nI 9999) dX9_draw_33 rfl (by decide) ?_
        refine hk_callS dX9_draw_36 rfl ms_X9_60 (cm_isBetween hfl) rfl rfl (by decide) ⟨Nat.zero_le _, Nat.zero_le _⟩ (Nat.le_of_ble_eq_true rfl) (hk_ki fun v h1 q => ?_) hk_nx
        obtain ⟨rfl, rfl⟩ := q
        refine cx_top (congrArg cx_b (cs_bwR _ _)) ?_
        refine cx_ifb_eq (tgt := 58) dX9_draw_39 (by decide) rfl (fun z39 => ?_) (fun z39 => ?_)
        · have f39 : cd_R x 9999 = 2 := cd_R_2 (of_decide_eq_false z39)
          refine hk_iconst (v := nI 2) dX9_draw_58 rfl (by decide) ?_
          refine hk_goto (tgt := 101) dX9_draw_59 (by decide) ?_
          refine hk_callV dX9_draw_101 rfl mv_X9_80 (cm_isWrong (k := 2) hfl (by decide) hk) rfl rfl (hm_g0 hk) rfl rfl (by decide) ⟨Nat.zero_le _, Nat.zero_le _⟩ (Nat.le_of_ble_eq_true rfl) (hk_ki fun v h1 q => ?_) hk_nx
          obtain ⟨rfl, rfl⟩ := q
          try rw [hm_mt_mt]
          refine cx_ifb_eq (tgt := 109) dX9_draw_104 (by decide) rfl (fun z104 => ?_) (fun z104 => ?_)
          · exact absurd z104 (by decide)
          · skip
            refine hk_iconst (v := nI 0) dX9_draw_107 rfl (by decide) ?_
            exact hk_ireturn rfl (rfl) dX9_draw_108 (by have e : cd_draw S c nb (nI a) (nI b2) x q = 2 := (by first | (simp [cd_draw, cs_sq, cd_K, f6, vaa, f14, vab2, f39]; done) | (rcases cd_O_or S a with o0 | o0 <;> rcases cd_O_or S b2 with o1 | o1 <;> simp [cd_draw, cs_sq, cd_K, f6, vaa, f14, vab2, f39, o0, o1])); exact ⟨_, rfl, g, hm_x.rf, Or.inr ⟨by rw [e]; decide, A, hm_mt M (nI 2), rfl, by rw [e]; exact hm_mt0, ok, hk, rfl⟩⟩)
        · have f39 : cd_R x 9999 = 0 := of_decide_eq_true z39
          refine hk_iload dX9_draw_42 rfl rfl ?_
          refine hk_iconst (v := nI 1) dX9_draw_44 rfl (by decide) ?_
          refine hk_bipush (v := nI 9) dX9_draw_45 rfl (by decide) ?_
          refine hk_callS dX9_draw_47 rfl ms_X9_60 (cm_isBetween hfl) rfl rfl (by decide) ⟨Nat.zero_le _, Nat.zero_le _⟩ (Nat.le_of_ble_eq_true rfl) (hk_ki fun v h1 q => ?_) hk_nx
          obtain ⟨rfl, rfl⟩ := q
          refine cx_top (congrArg cx_b (cs_bwR _ _)) ?_
          refine cx_ifb_eq (tgt := 58) dX9_draw_50 (by decide) rfl (fun z50 => ?_) (fun z50 => ?_)
          · have f50 : cd_R q 9 = 2 := cd_R_2 (of_decide_eq_false z50)
            refine hk_iconst (v := nI 2) dX9_draw_58 rfl (by decide) ?_
            refine hk_goto (tgt := 101) dX9_draw_59 (by decide) ?_
            refine hk_callV dX9_draw_101 rfl mv_X9_80 (cm_isWrong (k := 2) hfl (by decide) hk) rfl rfl (hm_g0 hk) rfl rfl (by decide) ⟨Nat.zero_le _, Nat.zero_le _⟩ (Nat.le_of_ble_eq_true rfl) (hk_ki fun v h1 q => ?_) hk_nx
            obtain ⟨rfl, rfl⟩ := q
            try rw [hm_mt_mt]
            refine cx_ifb_eq (tgt := 109) dX9_draw_104 (by decide) rfl (fun z104 => ?_) (fun z104 => ?_)
            · exact absurd z104 (by decide)
            · skip
              refine hk_iconst (v := nI 0) dX9_draw_107 rfl (by decide) ?_
              exact hk_ireturn rfl (rfl) dX9_draw_108 (by have e : cd_draw S c nb (nI a) (nI b2) x q = 2 := (by first | (simp [cd_draw, cs_sq, cd_K, f6, vaa, f14, vab2, f39, f50]; done) | (rcases cd_O_or S a with o0 | o0 <;> rcases cd_O_or S b2 with o1 | o1 <;> simp [cd_draw, cs_sq, cd_K, f6, vaa, f14, vab2, f39, f50, o0, o1])); exact ⟨_, rfl, g, hm_x.rf, Or.inr ⟨by rw [e]; decide, A, hm_mt M (nI 2), rfl, by rw [e]; exact hm_mt0, ok, hk, rfl⟩⟩)
          · have f50 : cd_R q 9 = 0 := of_decide_eq_true z50
            refine hk_iload_n dX9_draw_53 rfl rfl rfl ?_
            refine hk_iload_n dX9_draw_54 rfl rfl rfl ?_
            refine cx_icmp_ne (tgt := 62) (by omega) (by omega) dX9_draw_55 (by decide) rfl (fun z55 => ?_) (fun z55 => ?_)
            · skip
              have f55 : cd_D (nI a) (nI b2) = 0 := cd_D_ne z55
              refine hk_aload_n dX9_draw_62 rfl rfl rfl ?_
              refine hk_iload_n dX9_draw_63 rfl rfl rfl ?_
              refine hk_callV dX9_draw_64 rfl mv_X9_91 (cm_hasFailed hfl hk ok (by omega)) rfl rfl (hm_g0 hk) rfl rfl (by decide) ⟨Nat.zero_le _, Nat.zero_le _⟩ (Nat.le_of_ble_eq_true rfl) (hk_ki fun v h1 q => ?_) hk_nx
              obtain ⟨rfl, rfl⟩ := q
              refine cx_ifb_ne (tgt := 78) dX9_draw_67 (by decide) rfl (fun z67 => ?_) (fun z67 => ?_)
              · have f67 : cd_O S a = 3 := cd_O_3 (of_decide_eq_true z67)
                refine hk_iconst (v := nI 3) dX9_draw_78 rfl (by decide) ?_
                refine hk_goto (tgt := 101) dX9_draw_79 (by decide) ?_
                refine hk_callV dX9_draw_101 rfl mv_X9_80 (cm_isWrong (k := 3) hfl (by decide) hk) rfl rfl (hm_g0 hk) rfl rfl (by decide) ⟨Nat.zero_le _, Nat.zero_le _⟩ (Nat.le_of_ble_eq_true rfl) (hk_ki fun v h1 q => ?_) hk_nx
                obtain ⟨rfl, rfl⟩ := q
                try rw [hm_mt_mt]
                refine cx_ifb_eq (tgt := 109) dX9_draw_104 (by decide) rfl (fun z104 => ?_) (fun z104 => ?_)
                · exact absurd z104 (by decide)
                · skip
                  refine hk_iconst (v := nI 0) dX9_draw_107 rfl (by decide) ?_
                  exact hk_ireturn rfl (rfl) dX9_draw_108 (by have e : cd_draw S c nb (nI a) (nI b2) x q = 3 := (by first | (simp [cd_draw, cs_sq, cd_K, f6, vaa, f14, vab2, f39, f50, f55, f67]; done) | (rcases cd_O_or S a with o0 | o0 <;> rcases cd_O_or S b2 with o1 | o1 <;> simp [cd_draw, cs_sq, cd_K, f6, vaa, f14, vab2, f39, f50, f55, f67, o0, o1])); exact ⟨_, rfl, g, hm_x.rf, Or.inr ⟨by rw [e]; decide, A, hm_mt M (nI 3), rfl, by rw [e]; exact hm_mt0, ok, hk, rfl⟩⟩)
              · have f67 : cd_O S a = 0 := Decidable.of_not_not (of_decide_eq_false z67)
                refine hk_aload_n dX9_draw_70 rfl rfl rfl ?_
                refine hk_iload_n dX9_draw_71 rfl rfl rfl ?_
                refine hk_callV dX9_draw_72 rfl mv_X9_91 (cm_hasFailed hfl hk ok (by omega)) rfl rfl (hm_g0 hk) rfl rfl (by decide) ⟨Nat.zero_le _, Nat.zero_le _⟩ (Nat.le_of_ble_eq_true rfl) (hk_ki fun v h1 q => ?_) hk_nx
                obtain ⟨rfl, rfl⟩ := q
                refine cx_ifb_eq (tgt := 82) dX9_draw_75 (by decide) rfl (fun z75 => ?_) (fun z75 => ?_)
                · have f75 : cd_O S b2 = 0 := Decidable.of_not_not (of_decide_eq_false z75)
                  refine hk_aload_n dX9_draw_82 rfl rfl rfl ?_
                  refine hk_getf dX9_draw_83 rfl fl_X9_38 (hm_g0 hk) rfl ?_
                  refine hk_callF dX9_draw_86 rfl mf_X9_56 (cj_size hfl (hm_l2 hk ok)) rfl rfl (hm_l2 hk ok) rfl rfl (by decide) ⟨Nat.zero_le _, Nat.zero_le _⟩ (Nat.le_of_ble_eq_true rfl) (hk_ki fun v h1 q => ?_) hk_nx
                  obtain ⟨rfl, rfl⟩ := q
                  refine hk_bipush (v := nI 12) dX9_draw_91 rfl (by decide) ?_
                  refine cx_icmp_ne (tgt := 100) (by omega) (by omega) dX9_draw_93 (by decide) rfl (fun z93 => ?_) (fun z93 => ?_)
                  · skip
                    have f93 : cd_n nb 12 4 = 0 := if_pos (by omega)
                    refine hk_iconst (v := nI 0) dX9_draw_100 rfl (by decide) ?_
                    refine hk_callV dX9_draw_101 rfl mv_X9_80 (cm_isWrong (k := 0) hfl (by decide) hk) rfl rfl (hm_g0 hk) rfl rfl (by decide) ⟨Nat.zero_le _, Nat.zero_le _⟩ (Nat.le_of_ble_eq_true rfl) (hk_ki fun v h1 q => ?_) hk_nx
                    obtain ⟨rfl, rfl⟩ := q
                    try rw [hm_mt_mt]
                    refine cx_ifb_eq (tgt := 109) dX9_draw_104 (by decide) rfl (fun z104 => ?_) (fun z104 => ?_)
                    · skip
                      refine hk_aload_n dX9_draw_109 rfl rfl rfl ?_
                      refine hk_getf dX9_draw_110 rfl fl_X9_38 (hm_g0 hk) rfl ?_
                      refine hk_new dX9_draw_113 rfl nw_X9_182 (by decide) (fun w0 hw0 => ?_)
                      refine hk_dup dX9_draw_116 rfl rfl ?_
                      refine hk_iload_n dX9_draw_117 rfl rfl rfl ?_
                      refine hk_iload_n dX9_draw_118 rfl rfl rfl ?_
                      refine hk_iload_n dX9_draw_119 rfl rfl rfl ?_
                      have hn0 : A 0 ≠ w0 := fun e => by rw [← e] at hw0; exact nomatch (hw0.symm.trans (hm_g0 (M := hm_mt M (nI 0)) hk))
                      refine hk_aload_n dX9_draw_120 rfl rfl rfl ?_
                      refine hk_getf dX9_draw_121 rfl fl_X9_184 ((hk_set_ne hn0).trans (hm_g0 hk)) rfl ?_
                      refine hk_iload dX9_draw_124 rfl rfl ?_
                      refine hk_iadd dX9_draw_126 rfl ?_
                      refine hk_callI dX9_draw_127 rfl mi_X9_187 (cb_bill hfl hk_set_eq) rfl rfl (by decide) (by decide) (Nat.le_of_ble_eq_true rfl) (hk_kv fun h1 q1 => ?_) hk_nx
                      obtain ⟨p, hp, rfl⟩ := q1
                      obtain ⟨hpq, hp2, e2⟩ := hm_nwB (D := fun _ => True) (y := .inr (6, [.int 0, .ref (hk_K G 1001), .int (nI 0)])) (z := .inr (14, [.int (nI a), .int (nI b2), .int x, .int (S.1 33 0 + q), .ref p, .int (nI a), .int (nI 0)])) hp
                      refine hx_cg e2 ?_
                      obtain ⟨hk5, e5, x5⟩ := hm_okg (M := hm_mt M (nI 0)) (x := .inr (14, [.int (nI a), .int (nI b2), .int x, .int (S.1 33 0 + q), .ref p, .int (nI a), .int (nI 0)])) hk hw0
                      have hp3 := hp2
                      rw [e5] at hp3
                      obtain ⟨hk6, e6, x6⟩ := hm_okg (M := hm_mt M (nI 0)) (x := .inr (6, [.int 0, .ref (hk_K G 1001), .int (nI 0)])) hk5 hp3
                      rw [e5]
                      refine hx_cg e6 ?_
                      refine hk_callF dX9_draw_130 rfl mf_X9_50 (cj_add hfl (hm_al (i := 2) hk6 (by omega) (hm_v32le ok) (hm_n2 ok) (fun z => by rw [← hm_n2 ok]; exact hm_cap ok z) ok.2.2.2.2.2.2.1.1) (hm_ob2 hk6 ok) (Or.inr (Or.inr ⟨14, _, hm_gnd hk6 ((hk_set_ne hpq.symm).trans hk_set_eq), Or.inl rfl⟩))) rfl rfl (hm_l2 hk6 ok) rfl rfl (by decide) ⟨by omega, by omega⟩ (Nat.le_of_ble_eq_true rfl) (hk_ki fun y1 h1 q1 => ?_) hk_nx
                      obtain ⟨rfl, hgr⟩ := q1
                      obtain ⟨A2, M2, g2, a1, a2, a3, a4, rfl, a6⟩ := hm_addB (M := hm_mt M (nI 0)) ok hk hw0 hp2 (by omega) (h26 nb (Nat.le_refl _)) (cx_ne1 (by omega)) hgr
                      rw [← a1]
                      refine hk_pop dX9_draw_135 rfl rfl ?_
                      refine hk_aload_n dX9_draw_136 rfl rfl rfl ?_
                      refine hk_getf dX9_draw_137 rfl fl_X9_38 (hm_g0 a4) rfl ?_
                      refine hk_callF dX9_draw_140 rfl mf_X9_56 (cj_size hfl (hm_l2 a4 a3)) rfl rfl (hm_l2 a4 a3) rfl rfl (by decide) ⟨Nat.zero_le _, Nat.zero_le _⟩ (Nat.le_of_ble_eq_true rfl) (hk_ki fun y1 h1 q1 => ?_) hk_nx
                      obtain ⟨rfl, rfl⟩ := q1
                      refine hk_iconst (v := nI 1) dX9_draw_145 rfl (by decide) ?_
                      refine hk_isub dX9_draw_146 rfl ?_
                      refine cx_top ((cx_nsub (by omega)).trans (show nI (nb + 1 - 1) = nI nb by rw [Nat.add_sub_cancel])) ?_
                      exact hk_ireturn rfl (rfl) dX9_draw_147 (by have ez : cd_draw S c nb (nI a) (nI b2) x q = 0 := (by simp [cd_draw, cs_sq, f6, vaa, f14, vab2, f39, f50, f55, f67, f75, f93]); (try simp only [vaa, vab2]); exact ⟨_, rfl, g2, a6, Or.inl ⟨by rw [ez]; rfl, rfl, A2, M2, rfl, a2.trans hm_mt0, a3, a4, rfl⟩⟩)
                    · exact absurd z104 (by decide)
                  · skip
                    have f93 : cd_n nb 12 4 = 4 := if_neg (by omega)
                    refine hk_iconst (v := nI 4) dX9_draw_96 rfl (by decide) ?_
                    refine hk_goto (tgt := 101) dX9_draw_97 (by decide) ?_
                    refine hk_callV dX9_draw_101 rfl mv_X9_80 (cm_isWrong (k := 4) hfl (by decide) hk) rfl rfl (hm_g0 hk) rfl rfl (by decide) ⟨Nat.zero_le _, Nat.zero_le _⟩ (Nat.le_of_ble_eq_true rfl) (hk_ki fun v h1 q => ?_) hk_nx
                    obtain ⟨rfl, rfl⟩ := q
                    try rw [hm_mt_mt]
                    refine cx_ifb_eq (tgt := 109) dX9_draw_104 (by decide) rfl (fun z104 => ?_) (fun z104 => ?_)
                    · exact absurd z104 (by decide)
                    · skip
                      refine hk_iconst (v := nI 0) dX9_draw_107 rfl (by decide) ?_
                      exact hk_ireturn rfl (rfl) dX9_draw_108 (by have e : cd_draw S c nb (nI a) (nI b2) x q = 4 := (by first | (simp [cd_draw, cs_sq, cd_K, f6, vaa, f14, vab2, f39, f50, f55, f67, f75, f93]; done) | (rcases cd_O_or S a with o0 | o0 <;> rcases cd_O_or S b2 with o1 | o1 <;> simp [cd_draw, cs_sq, cd_K, f6, vaa, f14, vab2, f39, f50, f55, f67, f75, f93, o0, o1])); exact ⟨_, rfl, g, hm_x.rf, Or.inr ⟨by rw [e]; decide, A, hm_mt M (nI 4), rfl, by rw [e]; exact hm_mt0, ok, hk, rfl⟩⟩)
                · have f75 : cd_O S b2 = 3 := cd_O_3 (of_decide_eq_true z75)
                  refine hk_iconst (v := nI 3) dX9_draw_78 rfl (by decide) ?_
                  refine hk_goto (tgt := 101) dX9_draw_79 (by decide) ?_
                  refine hk_callV dX9_draw_101 rfl mv_X9_80 (cm_isWrong (k := 3) hfl (by decide) hk) rfl rfl (hm_g0 hk) rfl rfl (by decide) ⟨Nat.zero_le _, Nat.zero_le _⟩ (Nat.le_of_ble_eq_true rfl) (hk_ki fun v h1 q => ?_) hk_nx
                  obtain ⟨rfl, rfl⟩ := q
                  try rw [hm_mt_mt]
                  refine cx_ifb_eq (tgt := 109) dX9_draw_104 (by decide) rfl (fun z104 => ?_) (fun z104 => ?_)
                  · exact absurd z104 (by decide)
                  · skip
                    refine hk_iconst (v := nI 0) dX9_draw_107 rfl (by decide) ?_
                    exact hk_ireturn rfl (rfl) dX9_draw_108 (by have e : cd_draw S c nb (nI a) (nI b2) x q = 3 := (by first | (simp [cd_draw, cs_sq, cd_K, f6, vaa, f14, vab2, f39, f50, f55, f67, f75]; done) | (rcases cd_O_or S a with o0 | o0 <;> rcases cd_O_or S b2 with o1 | o1 <;> simp [cd_draw, cs_sq, cd_K, f6, vaa, f14, vab2, f39, f50, f55, f67, f75, o0, o1])); exact ⟨_, rfl, g, hm_x.rf, Or.inr ⟨by rw [e]; decide, A, hm_mt M (nI 3), rfl, by rw [e]; exact hm_mt0, ok, hk, rfl⟩⟩)
            · skip
              have f55 : cd_D (nI a) (nI b2) = 2 := cd_D_eq z55
              refine hk_iconst (v := nI 2) dX9_draw_58 rfl (by decide) ?_
              refine hk_goto (tgt := 101) dX9_draw_59 (by decide) ?_
              refine hk_callV dX9_draw_101 rfl mv_X9_80 (cm_isWrong (k := 2) hfl (by decide) hk) rfl rfl (hm_g0 hk) rfl rfl (by decide) ⟨Nat.zero_le _, Nat.zero_le _⟩ (Nat.le_of_ble_eq_true rfl) (hk_ki fun v h1 q => ?_) hk_nx
              obtain ⟨rfl, rfl⟩ := q
              try rw [hm_mt_mt]
              refine cx_ifb_eq (tgt := 109) dX9_draw_104 (by decide) rfl (fun z104 => ?_) (fun z104 => ?_)
              · exact absurd z104 (by decide)
              · skip
                refine hk_iconst (v := nI 0) dX9_draw_107 rfl (by decide) ?_
                exact hk_ireturn rfl (rfl) dX9_draw_108 (by have e : cd_draw S c nb (nI a) (nI b2) x q = 2 := (by first | (simp [cd_draw, cs_sq, cd_K, f6, vaa, f14, vab2, f39, f50, f55]; done) | (rcases cd_O_or S a with o0 | o0 <;> rcases cd_O_or S b2 with o1 | o1 <;> simp [cd_draw, cs_sq, cd_K, f6, vaa, f14, vab2, f39, f50, f55, o0, o1])); exact ⟨_, rfl, g, hm_x.rf, Or.inr ⟨by rw [e]; decide, A, hm_mt M (nI 2), rfl, by rw [e]; exact hm_mt0, ok, hk, rfl⟩⟩)
      · exact absurd z25 (by decide)
theorem hm_l3 {S : hs_S} {M : hm_M} {A : Nat → Nat} {c nc nb j e : Nat} (hk : ha_ok (hm_D S M) A g) (ok : hm_ok G S M A c nc nb) (hj : j < nb) (he : S.1 26 j = nI e) (he5 : e < 2 ^ 31) : hm_h G S M A g (A (33 + j)) = some (.inr (6, [.int (M.1 (13 + j)), .ref (hm_ed G M A (3 + j)), .int (nI e)])) := by
  have h := hm_g30 (i := 3 + j) (G := G) hk (by have := hm_v32lt ok hj; omega) (hm_v32le ok)
  rw [show 30 + (3 + j) = 33 + j by omega] at h
  rw [h]
  unfold hm_ls hm_ed
  rw [hm_n3, he, vN_nI he5, show 10 + (3 + j) = 13 + j by omega]
theorem hm_b3 {S : hs_S} {M : hm_M} {A : Nat → Nat} {c nc nb j : Nat} (hk : ha_ok (hm_D S M) A g) (ok : hm_ok G S M A c nc nb) (hj : j < nb) (h1 : ¬ S.1 24 j = -1) : hm_h G S M A g (A (200 + j)) = some (.inr (14, [.int (S.1 20 j), .int (S.1 21 j), .int (S.1 22 j), .int (S.1 23 j), .ref (A (33 + j)), .int (S.1 24 j), .int (nI 0)])) := by
  rw [hm_g200 hk (hm_v32lt ok hj)]
  unfold hm_bi
  rw [if_neg h1, if_neg h1]
theorem hm_ea_i {M : hm_M} {f1 : Nat → Option Nat} {i n v0 : Nat} (h1 : f1 = va_up (va_cpy (M.2.1 i) (M.2.1 i) 0 1 n) 0 (some v0)) : hm_ea (M.2.1 i) n v0 f1 := by
  subst h1
  refine ⟨if_pos rfl, fun q hq => ?_⟩
  unfold va_up
  rw [if_neg (by omega)]
  unfold va_cpy
  rw [if_pos (by omega)]
  exact congrArg (M.2.1 i) (by omega)
theorem cm_endorse {v t : Int32} (hfl : l.stackTraces = false) (hw : hm_Wd G m S c nc nb thr g h) (h24 : ∀ j, j < nb → S.1 24 j = -1 ∨ ∃ a, a < c ∧ S.1 24 j = nI a) : hk_Ctr G l 9 yX9_endorse cX9_endorse 5 (some .int) 1 10 [.ref m, .int v, .int t] h (hk_qi fun rv h1 => ml_Q G m (ml_tr [1, 2, 3, 4] (cd_endorse S c nb v t)) S c nc nb (cs_endorse S v t) (c) (nc) (nb) g (rv = S.1 24 (vN v)) h1) hk_no := by
  obtain ⟨A, M, rfl, rfl, ok, hk, rfl⟩ := hw
  have hc1 := ok.1.2.1
  have hc := ok.1.2.2
  have hnc := ok.2.1.2
  have hnb := ok.2.2.1.2
  refine hk_enter (by decide) hfl (Nat.le_of_ble_eq_true rfl) rfl ?_
  refine hk_aload_n dX9_endorse_0 rfl rfl rfl ?_
  refine hk_aload_n dX9_endorse_1 rfl rfl rfl ?_
  refine hk_iload_n dX9_endorse_2 rfl rfl rfl ?_
  refine hk_callV dX9_endorse_3 rfl mv_X9_188 (cm_isBill hfl hk ok) rfl rfl (hm_g0 hk) rfl rfl (by decide) ⟨Nat.zero_le _, Nat.zero_le _⟩ (Nat.le_of_ble_eq_true rfl) (hk_ki fun v h1 q => ?_) hk_nx
  obtain ⟨rfl, rfl⟩ := q
  refine cx_ifb_eq (tgt := 21) dX9_endorse_6 (by decide) rfl (fun z6 => ?_) (fun z6 => ?_)
  · have f6 : cd_H nb v = 1 := cd_H_1 (of_decide_eq_false z6)
    refine hk_iconst (v := nI 1) dX9_endorse_21 rfl (by decide) ?_
    refine hk_callV dX9_endorse_22 rfl mv_X9_80 (cm_isWrong (k := 1) hfl (by decide) hk) rfl rfl (hm_g0 hk) rfl rfl (by decide) ⟨Nat.zero_le _, Nat.zero_le _⟩ (Nat.le_of_ble_eq_true rfl) (hk_ki fun v h1 q => ?_) hk_nx
    obtain ⟨rfl, rfl⟩ := q
    try rw [hm_mt_mt]
    refine cx_ifb_eq (tgt := 30) dX9_endorse_25 (by decide) rfl (fun z25 => ?_) (fun z25 => ?_)
    · exact absurd z25 (by decide)
    · skip
      refine hk_iconst (v := nI 0) dX9_endorse_28 rfl (by decide) ?_
      exact hk_ireturn rfl (rfl) dX9_endorse_29 (by have e : cd_endorse S c nb v t = 1 := (by first | (simp [cd_endorse, cs_sq, cd_K, f6]; done) | (rcases cd_O_or S b2 with o0 | o0 <;> simp [cd_endorse, cs_sq, cd_K, f6, o0])); exact ⟨_, rfl, g, hm_x.rf, Or.inr ⟨by rw [e]; decide, A, hm_mt M (nI 1), rfl, by rw [e]; exact hm_mt0, ok, hk, rfl⟩⟩)
  · have f6 : cd_H nb v = 0 := of_decide_eq_true z6
    obtain ⟨a, ha, rfl⟩ := cd_H_of (by omega) f6
    have vaa : vN (nI a) = a := vN_nI (by omega)
    refine hk_aload_n dX9_endorse_9 rfl rfl rfl ?_
    refine hk_iload_n dX9_endorse_10 rfl rfl rfl ?_
    refine hk_callV dX9_endorse_11 rfl mv_X9_84 (cm_isHouse hfl hk ok) rfl rfl (hm_g0 hk) rfl rfl (by decide) ⟨Nat.zero_le _, Nat.zero_le _⟩ (Nat.le_of_ble_eq_true rfl) (hk_ki fun v h1 q => ?_) hk_nx
    obtain ⟨rfl, rfl⟩ := q
    refine cx_ifb_eq (tgt := 21) dX9_endorse_14 (by decide) rfl (fun z14 => ?_) (fun z14 => ?_)
    · have f14 : cd_H c t = 1 := cd_H_1 (of_decide_eq_false z14)
      refine hk_iconst (v := nI 1) dX9_endorse_21 rfl (by decide) ?_
      refine hk_callV dX9_endorse_22 rfl mv_X9_80 (cm_isWrong (k := 1) hfl (by decide) hk) rfl rfl (hm_g0 hk) rfl rfl (by decide) ⟨Nat.zero_le _, Nat.zero_le _⟩ (Nat.le_of_ble_eq_true rfl) (hk_ki fun v h1 q => ?_) hk_nx
      obtain ⟨rfl, rfl⟩ := q
      try rw [hm_mt_mt]
      refine cx_ifb_eq (tgt := 30) dX9_endorse_25 (by decide) rfl (fun z25 => ?_) (fun z25 => ?_)
      · exact absurd z25 (by decide)
      · skip
        refine hk_iconst (v := nI 0) dX9_endorse_28 rfl (by decide) ?_
        exact hk_ireturn rfl (rfl) dX9_endorse_29 (by have e : cd_endorse S c nb (nI a) t = 1 := (by first | (simp [cd_endorse, cs_sq, cd_K, f6, vaa, f14]; done) | (rcases cd_O_or S b2 with o0 | o0 <;> simp [cd_endorse, cs_sq, cd_K, f6, vaa, f14, o0])); exact ⟨_, rfl, g, hm_x.rf, Or.inr ⟨by rw [e]; decide, A, hm_mt M (nI 1), rfl, by rw [e]; exact hm_mt0, ok, hk, rfl⟩⟩)
    · have f14 : cd_H c t = 0 := of_decide_eq_true z14
      obtain ⟨b2, hb2, rfl⟩ := cd_H_of (by omega) f14
      have vab2 : vN (nI b2) = b2 := vN_nI (by omega)
      refine hk_iconst (v := nI 0) dX9_endorse_17 rfl (by decide) ?_
      refine hk_goto (tgt := 22) dX9_endorse_18 (by decide) ?_
      refine hk_callV dX9_endorse_22 rfl mv_X9_80 (cm_isWrong (k := 0) hfl (by decide) hk) rfl rfl (hm_g0 hk) rfl rfl (by decide) ⟨Nat.zero_le _, Nat.zero_le _⟩ (Nat.le_of_ble_eq_true rfl) (hk_ki fun v h1 q => ?_) hk_nx
      obtain ⟨rfl, rfl⟩ := q
      try rw [hm_mt_mt]
      refine cx_ifb_eq (tgt := 30) dX9_endorse_25 (by decide) rfl (fun z25 => ?_) (fun z25 => ?_)
      · skip
        refine hk_aload_n dX9_endorse_30 rfl rfl rfl ?_
        refine hk_getf dX9_endorse_31 rfl fl_X9_38 (hm_g0 hk) rfl ?_
        refine hk_iload_n dX9_endorse_34 rfl rfl rfl ?_
        have hg35 := hm_b1g (j := a) ok (by omega)
        refine hk_callF dX9_endorse_35 rfl mf_X9_64 (cj_get hfl (hm_l2 hk ok) (hm_r (i := 2) hk ok (by omega) hg35.1) (by omega) (by rw [← hm_n2 ok]; exact (hm_cap ok hg35.1).1) (Nat.lt_of_le_of_lt (hm_cap ok hg35.1).2.2 (by decide)) hg35.2) rfl rfl (hm_l2 hk ok) rfl rfl (by decide) ⟨Nat.zero_le _, Nat.zero_le _⟩ (Nat.le_of_ble_eq_true rfl) (hk_kr fun v h1 q => ?_) hk_nx
        obtain ⟨rfl, rfl⟩ := q
        refine hk_castO dX9_endorse_40 rfl (hm_g200 hk (by rw [hm_v32 ok]; omega)) rfl kl_X9_182 ?_
        refine hk_astore_n dX9_endorse_43 rfl rfl (by decide) rfl ?_
        by_cases hov : S.1 24 a = -1
        · have e24 := hov
          have dn0 : cd_dn S a = 3 := if_pos hov
          have dd0 : cd_D (-1) (nI b2) = 0 := if_neg (fun q => cx_ne1 (by omega) q.symm)
          refine hk_aload_n dX9_endorse_44 rfl rfl rfl ?_
          refine hk_aload_n dX9_endorse_45 rfl rfl rfl ?_
          refine hk_getf dX9_endorse_46 rfl fl_X9_191 (hm_g200 hk (by rw [hm_v32 ok]; omega)) rfl ?_
          refine cx_top (if_pos hov) ?_
          refine cx_ifn_ne (tgt := 64) (by omega) dX9_endorse_49 (by decide) rfl (fun z49 => ?_) (fun z49 => ?_)
          · skip
            refine hk_aload_n dX9_endorse_64 rfl rfl rfl ?_
            refine hk_getf dX9_endorse_65 rfl fl_X9_191 (hm_g200 hk (by rw [hm_v32 ok]; omega)) rfl ?_
            refine cx_top (if_pos hov) ?_
            refine cx_ifn_ne (tgt := 90) (by omega) dX9_endorse_68 (by decide) rfl (fun z68 => ?_) (fun z68 => ?_)
            · skip
              refine hk_iconst (v := nI 3) dX9_endorse_90 rfl (by decide) ?_
              refine hk_goto (tgt := 112) dX9_endorse_91 (by decide) ?_
              refine hk_callV dX9_endorse_112 rfl mv_X9_80 (cm_isWrong (k := 3) hfl (by decide) hk) rfl rfl (hm_g0 hk) rfl rfl (by decide) ⟨Nat.zero_le _, Nat.zero_le _⟩ (Nat.le_of_ble_eq_true rfl) (hk_ki fun v h1 q => ?_) hk_nx
              obtain ⟨rfl, rfl⟩ := q
              try rw [hm_mt_mt]
              refine cx_ifb_eq (tgt := 120) dX9_endorse_115 (by decide) rfl (fun z115 => ?_) (fun z115 => ?_)
              · exact absurd z115 (by decide)
              · skip
                refine hk_iconst (v := nI 0) dX9_endorse_118 rfl (by decide) ?_
                exact hk_ireturn rfl (rfl) dX9_endorse_119 (by have e : cd_endorse S c nb (nI a) (nI b2) = 3 := (by first | (simp [cd_endorse, cs_sq, cd_K, f6, vaa, f14, vab2, e24, dn0, dd0]; done) | (rcases cd_O_or S b2 with o0 | o0 <;> simp [cd_endorse, cs_sq, cd_K, f6, vaa, f14, vab2, e24, dn0, dd0, o0])); exact ⟨_, rfl, g, hm_x.rf, Or.inr ⟨by rw [e]; decide, A, hm_mt M (nI 3), rfl, by rw [e]; exact hm_mt0, ok, hk, rfl⟩⟩)
            · exact absurd z68 (by decide)
          · exact absurd z49 (by decide)
        · obtain ⟨a3, ha3, e24⟩ := (h24 a (by omega)).resolve_left hov
          have va3 : vN (nI a3) = a3 := vN_nI (by omega)
          have dn0 : cd_dn S a = 0 := if_neg hov
          refine hk_aload_n dX9_endorse_44 rfl rfl rfl ?_
          refine hk_aload_n dX9_endorse_45 rfl rfl rfl ?_
          refine hk_getf dX9_endorse_46 rfl fl_X9_191 (hm_g200 hk (by rw [hm_v32 ok]; omega)) rfl ?_
          refine cx_top (if_neg hov) ?_
          refine cx_ifn_ne (tgt := 64) (by omega) dX9_endorse_49 (by decide) rfl (fun z49 => ?_) (fun z49 => ?_)
          · exact absurd z49 (by decide)
          · skip
            refine hk_iload_n dX9_endorse_52 rfl rfl rfl ?_
            refine hk_aload_n dX9_endorse_53 rfl rfl rfl ?_
            refine hk_getf dX9_endorse_54 rfl fl_X9_194 (hm_g200 hk (by rw [hm_v32 ok]; omega)) rfl ?_
            refine cx_top ((if_neg hov).trans e24) ?_
            refine cx_icmp_ne (tgt := 64) (by omega) (by omega) dX9_endorse_57 (by decide) rfl (fun z57 => ?_) (fun z57 => ?_)
            · skip
              have f57 : cd_D (nI a3) (nI b2) = 0 := cd_D_ne (fun q => z57 q.symm)
              refine hk_aload_n dX9_endorse_64 rfl rfl rfl ?_
              refine hk_getf dX9_endorse_65 rfl fl_X9_191 (hm_g200 hk (by rw [hm_v32 ok]; omega)) rfl ?_
              refine cx_top (if_neg hov) ?_
              refine cx_ifn_ne (tgt := 90) (by omega) dX9_endorse_68 (by decide) rfl (fun z68 => ?_) (fun z68 => ?_)
              · exact absurd z68 (by decide)
              · skip
                refine hk_aload_n dX9_endorse_71 rfl rfl rfl ?_
                refine hk_aload_n dX9_endorse_72 rfl rfl rfl ?_
                refine hk_getf dX9_endorse_73 rfl fl_X9_194 (hm_g200 hk (by rw [hm_v32 ok]; omega)) rfl ?_
                refine cx_top ((if_neg hov).trans e24) ?_
                refine hk_callV dX9_endorse_76 rfl mv_X9_91 (cm_hasFailed hfl hk ok (by omega)) rfl rfl (hm_g0 hk) rfl rfl (by decide) ⟨Nat.zero_le _, Nat.zero_le _⟩ (Nat.le_of_ble_eq_true rfl) (hk_ki fun v h1 q => ?_) hk_nx
                obtain ⟨rfl, rfl⟩ := q
                refine cx_ifb_ne (tgt := 90) dX9_endorse_79 (by decide) rfl (fun z79 => ?_) (fun z79 => ?_)
                · have f79 : cd_O S a3 = 3 := cd_O_3 (of_decide_eq_true z79)
                  refine hk_iconst (v := nI 3) dX9_endorse_90 rfl (by decide) ?_
                  refine hk_goto (tgt := 112) dX9_endorse_91 (by decide) ?_
                  refine hk_callV dX9_endorse_112 rfl mv_X9_80 (cm_isWrong (k := 3) hfl (by decide) hk) rfl rfl (hm_g0 hk) rfl rfl (by decide) ⟨Nat.zero_le _, Nat.zero_le _⟩ (Nat.le_of_ble_eq_true rfl) (hk_ki fun v h1 q => ?_) hk_nx
                  obtain ⟨rfl, rfl⟩ := q
                  try rw [hm_mt_mt]
                  refine cx_ifb_eq (tgt := 120) dX9_endorse_115 (by decide) rfl (fun z115 => ?_) (fun z115 => ?_)
                  · exact absurd z115 (by decide)
                  · skip
                    refine hk_iconst (v := nI 0) dX9_endorse_118 rfl (by decide) ?_
                    exact hk_ireturn rfl (rfl) dX9_endorse_119 (by have e : cd_endorse S c nb (nI a) (nI b2) = 3 := (by first | (simp [cd_endorse, cs_sq, cd_K, f6, vaa, f14, vab2, e24, va3, dn0, f57, f79]; done) | (rcases cd_O_or S b2 with o0 | o0 <;> simp [cd_endorse, cs_sq, cd_K, f6, vaa, f14, vab2, e24, va3, dn0, f57, f79, o0])); exact ⟨_, rfl, g, hm_x.rf, Or.inr ⟨by rw [e]; decide, A, hm_mt M (nI 3), rfl, by rw [e]; exact hm_mt0, ok, hk, rfl⟩⟩)
                · have f79 : cd_O S a3 = 0 := Decidable.of_not_not (of_decide_eq_false z79)
                  refine hk_aload_n dX9_endorse_82 rfl rfl rfl ?_
                  refine hk_iload_n dX9_endorse_83 rfl rfl rfl ?_
                  refine hk_callV dX9_endorse_84 rfl mv_X9_91 (cm_hasFailed hfl hk ok (by omega)) rfl rfl (hm_g0 hk) rfl rfl (by decide) ⟨Nat.zero_le _, Nat.zero_le _⟩ (Nat.le_of_ble_eq_true rfl) (hk_ki fun v h1 q => ?_) hk_nx
                  obtain ⟨rfl, rfl⟩ := q
                  refine cx_ifb_eq (tgt := 94) dX9_endorse_87 (by decide) rfl (fun z87 => ?_) (fun z87 => ?_)
                  · have f87 : cd_O S b2 = 0 := Decidable.of_not_not (of_decide_eq_false z87)
                    obtain ⟨e, he5, e26, hfl2, hel⟩ := ok.2.2.2.2.2.2.2 a (by omega)
                    have vae : vN (nI e) = e := vN_nI (by omega)
                    refine hk_aload_n dX9_endorse_94 rfl rfl rfl ?_
                    refine hk_getf dX9_endorse_95 rfl fl_X9_197 (hm_g200 hk (by rw [hm_v32 ok]; omega)) rfl ?_
                    refine hk_callF dX9_endorse_98 rfl mf_X9_56 (cj_size hfl (hm_l3 hk ok (by omega) e26 (by omega))) rfl rfl (hm_l3 hk ok (by omega) e26 (by omega)) rfl rfl (by decide) ⟨Nat.zero_le _, Nat.zero_le _⟩ (Nat.le_of_ble_eq_true rfl) (hk_ki fun y1 h1 q1 => ?_) hk_nx
                    obtain ⟨rfl, rfl⟩ := q1
                    refine hk_iconst (v := nI 5) dX9_endorse_103 rfl (by decide) ?_
                    refine cx_icmp_ne (tgt := 111) (by omega) (by omega) dX9_endorse_104 (by decide) rfl (fun z104 => ?_) (fun z104 => ?_)
                    · skip
                      have f104 : cd_n e 5 4 = 0 := if_pos (by omega)
                      refine hk_iconst (v := nI 0) dX9_endorse_111 rfl (by decide) ?_
                      refine hk_callV dX9_endorse_112 rfl mv_X9_80 (cm_isWrong (k := 0) hfl (by decide) hk) rfl rfl (hm_g0 hk) rfl rfl (by decide) ⟨Nat.zero_le _, Nat.zero_le _⟩ (Nat.le_of_ble_eq_true rfl) (hk_ki fun v h1 q => ?_) hk_nx
                      obtain ⟨rfl, rfl⟩ := q
                      try rw [hm_mt_mt]
                      refine cx_ifb_eq (tgt := 120) dX9_endorse_115 (by decide) rfl (fun z115 => ?_) (fun z115 => ?_)
                      · skip
                        refine hk_aload_n dX9_endorse_120 rfl rfl rfl ?_
                        refine hk_getf dX9_endorse_121 rfl fl_X9_194 (hm_g200 hk (by rw [hm_v32 ok]; omega)) rfl ?_
                        refine cx_top ((if_neg hov).trans e24) ?_
                        refine hk_istore dX9_endorse_124 rfl (by decide) rfl ?_
                        by_cases hfg : M.2.2.2 (3 + a) = true ∧ M.2.2.1 (3 + a) = 10 ∧ 1 ≤ e
                        · have hobe : ∀ i v, i < e → (hm_mt M (nI 0)).2.1 (3 + a) i = some v → hk_ob G (hm_h G S (hm_mt M (nI 0)) A g) v := fun i v hi hv => by obtain ⟨a5, w5, w6, w7⟩ := hel i hi; rw [show (hm_mt M (nI 0)).2.1 (3 + a) i = _ from w7] at hv; cases hv; exact Or.inr (Or.inl ⟨a5 + 128, by omega, rfl⟩)
                          refine hk_aload_n dX9_endorse_126 rfl rfl rfl ?_
                          refine hk_getf dX9_endorse_127 rfl fl_X9_197 (hm_g200 hk (by rw [hm_v32 ok]; omega)) rfl ?_
                          refine hk_iconst (v := nI 0) dX9_endorse_130 rfl (by decide) ?_
                          refine hk_iload dX9_endorse_131 rfl rfl ?_
                          refine hk_callS dX9_endorse_133 rfl ms_X9_200 (cj_iv hfl (by omega)) rfl rfl (by decide) ⟨Nat.zero_le _, Nat.zero_le _⟩ (Nat.le_of_ble_eq_true rfl) (hk_kr fun x h1 q => ?_) hk_nx
                          obtain ⟨rfl, rfl⟩ := q
                          refine hk_callF dX9_endorse_136 rfl mf_X9_205 (cj_adi (cap := 10) hfl (hm_l3 hk ok (by omega) e26 (by omega)) (by have q0 := hm_r (M := hm_mt M (nI 0)) (i := 3 + a) hk ok (by omega) hfg.1; rw [show (hm_mt M (nI 0)).2.2.1 (3 + a) = 10 from hfg.2.1] at q0; exact q0) (by omega) (by omega) hobe (Or.inr (Or.inl ⟨a3 + 128, by omega, rfl⟩))) rfl rfl (hm_l3 hk ok (by omega) e26 (by omega)) rfl rfl (by decide) ⟨by omega, by omega⟩ (Nat.le_of_ble_eq_true rfl) (hk_kv fun h1 q1 => ?_) hk_nx
                          have q2 : ((hm_mt M (nI 0)).2.2.2 (3 + a) = true ∧ hm_ed G M A (3 + a) = A (53 + a)) ∨ hm_h G S (hm_mt M (nI 0)) A g (hm_ed G M A (3 + a)) = none := Or.inl ⟨hfg.1, by unfold hm_ed; rw [if_pos hfg.1, show 50 + (3 + a) = 53 + a by omega]⟩
                          have q3 := hm_ea_i (M := M) (i := 3 + a) (n := e) (v0 := hk_K G (3000 + (a3 + 128))) rfl
                          obtain ⟨A2, M2, g2, a1, a2, aA, a3k, a4, rfl, a6⟩ := hm_addE (M := hm_mt M (nI 0)) (cap1 := 10) (j := a) (e := e) (a := a3) ok hk (by omega) (by omega) e26 (by omega) e24 q1 q2 q3
                          refine hk_aload_n dX9_endorse_141 rfl rfl rfl ?_
                          refine hk_iload_n dX9_endorse_142 rfl rfl rfl ?_
                          rw [← a1, ← aA (200 + a) (by omega)]
                          have g4 := hm_b3 a4 a3k (by omega) hov
                          refine hk_putf dX9_endorse_143 rfl (fw_X9_194 rfl) g4 rfl rfl (Nat.lt_of_lt_of_eq (by decide : 5 < 7) rfl) ?_
                          refine hx_cg (hm_vh a4 (hm_v32lt a3k (by omega)) hov (cx_ne1 (by omega))) ?_
                          refine hk_iload dX9_endorse_146 rfl rfl ?_
                          exact hk_ireturn rfl (rfl) dX9_endorse_148 (by have ez : cd_endorse S c nb (nI a) (nI b2) = 0 := (by simp [cd_endorse, cs_sq, f6, vaa, f14, vab2, e24, va3, dn0, f57, f79, f87, f104, e26, vae]); rw [show cs_endorse S (nI a) (nI b2) = cs_pass S a e (nI b2) from by unfold cs_endorse; rw [vaa, e26, vae]]; (try simp only [vaa, vab2, va3, vae]); exact ⟨_, rfl, g2, a6, Or.inl ⟨by rw [ez]; rfl, e24.symm, A2, M2, rfl, a2.trans hm_mt0, a3k, a4, rfl⟩⟩)
                        · obtain ⟨ee0, hff⟩ := hfl2.resolve_left hfg
                          have hed : hm_ed G M A (3 + a) = hk_K G 1001 := by unfold hm_ed; rw [if_neg (by rw [hff]; decide)]
                          refine hk_aload_n dX9_endorse_126 rfl rfl rfl ?_
                          refine hk_getf dX9_endorse_127 rfl fl_X9_197 (hm_g200 hk (by rw [hm_v32 ok]; omega)) rfl ?_
                          refine hk_iconst (v := nI 0) dX9_endorse_130 rfl (by decide) ?_
                          refine hk_iload dX9_endorse_131 rfl rfl ?_
                          refine hk_callS dX9_endorse_133 rfl ms_X9_200 (cj_iv hfl (by omega)) rfl rfl (by decide) ⟨Nat.zero_le _, Nat.zero_le _⟩ (Nat.le_of_ble_eq_true rfl) (hk_kr fun x h1 q => ?_) hk_nx
                          obtain ⟨rfl, rfl⟩ := q
                          refine hk_callF dX9_endorse_136 rfl mf_X9_205 (cj_adi0 hfl (by have q0 := hm_l3 (M := hm_mt M (nI 0)) (G := G) (g := g) hk ok (by omega) e26 (by omega); rw [show hm_ed G (hm_mt M (nI 0)) A (3 + a) = _ from hed, ee0] at q0; exact q0) (Or.inr (Or.inl ⟨a3 + 128, by omega, rfl⟩))) rfl rfl (hm_l3 hk ok (by omega) e26 (by omega)) rfl rfl (by decide) ⟨by omega, by omega⟩ (Nat.le_of_ble_eq_true rfl) (hk_kv fun h1 q1 => ?_) hk_nx
                          obtain ⟨e1, q0, q1⟩ := q1
                          have q3 : hm_ea (M.2.1 (3 + a)) e (hk_K G (3000 + (a3 + 128))) (va_up (fun _ => none) 0 (some (hk_K G (3000 + (a3 + 128))))) := ⟨if_pos rfl, fun q hq => absurd hq (by omega)⟩
                          obtain ⟨A2, M2, g2, a1, a2, aA, a3k, a4, rfl, a6⟩ := hm_addE (M := hm_mt M (nI 0)) (h1 := h1) (cap1 := 10) (j := a) (e := e) (a := a3) ok hk (by omega) (by omega) e26 (by omega) e24 (by rw [ee0]; exact q1) (Or.inr q0) q3
                          refine hk_aload_n dX9_endorse_141 rfl rfl rfl ?_
                          refine hk_iload_n dX9_endorse_142 rfl rfl rfl ?_
                          rw [← a1, ← aA (200 + a) (by omega)]
                          have g4 := hm_b3 a4 a3k (by omega) hov
                          refine hk_putf dX9_endorse_143 rfl (fw_X9_194 rfl) g4 rfl rfl (Nat.lt_of_lt_of_eq (by decide : 5 < 7) rfl) ?_
                          refine hx_cg (hm_vh a4 (hm_v32lt a3k (by omega)) hov (cx_ne1 (by omega))) ?_
                          refine hk_iload dX9_endorse_146 rfl rfl ?_
                          exact hk_ireturn rfl (rfl) dX9_endorse_148 (by have ez : cd_endorse S c nb (nI a) (nI b2) = 0 := (by simp [cd_endorse, cs_sq, f6, vaa, f14, vab2, e24, va3, dn0, f57, f79, f87, f104, e26, vae]); rw [show cs_endorse S (nI a) (nI b2) = cs_pass S a e (nI b2) from by unfold cs_endorse; rw [vaa, e26, vae]]; (try simp only [vaa, vab2, va3, vae]); exact ⟨_, rfl, g2, a6, Or.inl ⟨by rw [ez]; rfl, e24.symm, A2, M2, rfl, a2.trans hm_mt0, a3k, a4, rfl⟩⟩)
                      · exact absurd z115 (by decide)
                    · skip
                      have f104 : cd_n e 5 4 = 4 := if_neg (by omega)
                      refine hk_iconst (v := nI 4) dX9_endorse_107 rfl (by decide) ?_
                      refine hk_goto (tgt := 112) dX9_endorse_108 (by decide) ?_
                      refine hk_callV dX9_endorse_112 rfl mv_X9_80 (cm_isWrong (k := 4) hfl (by decide) hk) rfl rfl (hm_g0 hk) rfl rfl (by decide) ⟨Nat.zero_le _, Nat.zero_le _⟩ (Nat.le_of_ble_eq_true rfl) (hk_ki fun v h1 q => ?_) hk_nx
                      obtain ⟨rfl, rfl⟩ := q
                      try rw [hm_mt_mt]
                      refine cx_ifb_eq (tgt := 120) dX9_endorse_115 (by decide) rfl (fun z115 => ?_) (fun z115 => ?_)
                      · exact absurd z115 (by decide)
                      · skip
                        refine hk_iconst (v := nI 0) dX9_endorse_118 rfl (by decide) ?_
                        exact hk_ireturn rfl (rfl) dX9_endorse_119 (by have e : cd_endorse S c nb (nI a) (nI b2) = 4 := (by first | (simp [cd_endorse, cs_sq, cd_K, f6, vaa, f14, vab2, e24, va3, dn0, f57, f79, f87, f104, e26, vae]; done) | (rcases cd_O_or S b2 with o0 | o0 <;> simp [cd_endorse, cs_sq, cd_K, f6, vaa, f14, vab2, e24, va3, dn0, f57, f79, f87, f104, e26, vae, o0])); exact ⟨_, rfl, g, hm_x.rf, Or.inr ⟨by rw [e]; decide, A, hm_mt M (nI 4), rfl, by rw [e]; exact hm_mt0, ok, hk, rfl⟩⟩)
                  · have f87 : cd_O S b2 = 3 := cd_O_3 (of_decide_eq_true z87)
                    refine hk_iconst (v := nI 3) dX9_endorse_90 rfl (by decide) ?_
                    refine hk_goto (tgt := 112) dX9_endorse_91 (by decide) ?_
                    refine hk_callV dX9_endorse_112 rfl mv_X9_80 (cm_isWrong (k := 3) hfl (by decide) hk) rfl rfl (hm_g0 hk) rfl rfl (by decide) ⟨Nat.zero_le _, Nat.zero_le _⟩ (Nat.le_of_ble_eq_true rfl) (hk_ki fun v h1 q => ?_) hk_nx
                    obtain ⟨rfl, rfl⟩ := q
                    try rw [hm_mt_mt]
                    refine cx_ifb_eq (tgt := 120) dX9_endorse_115 (by decide) rfl (fun z115 => ?_) (fun z115 => ?_)
                    · exact absurd z115 (by decide)
                    · skip
                      refine hk_iconst (v := nI 0) dX9_endorse_118 rfl (by decide) ?_
                      exact hk_ireturn rfl (rfl) dX9_endorse_119 (by have e : cd_endorse S c nb (nI a) (nI b2) = 3 := (by first | (simp [cd_endorse, cs_sq, cd_K, f6, vaa, f14, vab2, e24, va3, dn0, f57, f79, f87]; done) | (rcases cd_O_or S b2 with o0 | o0 <;> simp [cd_endorse, cs_sq, cd_K, f6, vaa, f14, vab2, e24, va3, dn0, f57, f79, f87, o0])); exact ⟨_, rfl, g, hm_x.rf, Or.inr ⟨by rw [e]; decide, A, hm_mt M (nI 3), rfl, by rw [e]; exact hm_mt0, ok, hk, rfl⟩⟩)
            · skip
              have f57 : cd_D (nI a3) (nI b2) = 2 := cd_D_eq z57.symm
              refine hk_iconst (v := nI 2) dX9_endorse_60 rfl (by decide) ?_
              refine hk_goto (tgt := 112) dX9_endorse_61 (by decide) ?_
              refine hk_callV dX9_endorse_112 rfl mv_X9_80 (cm_isWrong (k := 2) hfl (by decide) hk) rfl rfl (hm_g0 hk) rfl rfl (by decide) ⟨Nat.zero_le _, Nat.zero_le _⟩ (Nat.le_of_ble_eq_true rfl) (hk_ki fun v h1 q => ?_) hk_nx
              obtain ⟨rfl, rfl⟩ := q
              try rw [hm_mt_mt]
              refine cx_ifb_eq (tgt := 120) dX9_endorse_115 (by decide) rfl (fun z115 => ?_) (fun z115 => ?_)
              · exact absurd z115 (by decide)
              · skip
                refine hk_iconst (v := nI 0) dX9_endorse_118 rfl (by decide) ?_
                exact hk_ireturn rfl (rfl) dX9_endorse_119 (by have e : cd_endorse S c nb (nI a) (nI b2) = 2 := (by first | (simp [cd_endorse, cs_sq, cd_K, f6, vaa, f14, vab2, e24, va3, dn0, f57]; done) | (rcases cd_O_or S b2 with o0 | o0 <;> simp [cd_endorse, cs_sq, cd_K, f6, vaa, f14, vab2, e24, va3, dn0, f57, o0])); exact ⟨_, rfl, g, hm_x.rf, Or.inr ⟨by rw [e]; decide, A, hm_mt M (nI 2), rfl, by rw [e]; exact hm_mt0, ok, hk, rfl⟩⟩)
      · exact absurd z25 (by decide)
end CM6

section CM3
variable {G : hk_G} {l : Launch} {S : hs_S} {c nc nb m : Nat} {thr : Int32} {g h : hk_H}
theorem cd_clw_eq {S : hs_S} {c nc j q : Nat} (h : mi_C S c nc) (hj : j < nc) (hq : 1 ≤ q ∧ q ≤ 9) : cd_clw S j (nI q) = if S.1 14 j ≤ nI q then 4 else 0 := by
  obtain ⟨m, x, h1, h2, h3, h4, h5⟩ := h j hj
  unfold cd_clw
  rw [h4]
  by_cases e : x ≤ q
  · rw [if_pos (nI_le e (by omega)), if_neg]
    rw [show nI x - nI q = -nI (q - x) from by
      rw [← cx_nsub e]
      exact Int32.neg_sub.symm]
    refine fun z => ?_
    have z2 : nI 1 ≤ nI 0 := Int32.le_trans z (by
      rcases Nat.lt_or_ge 0 (q - x) with p | p
      · have hh : ∀ k, k < 10 → -nI k ≤ nI 0 := by decide
        exact hh _ (by omega)
      · rw [show q - x = 0 by omega]; decide)
    exact absurd z2 (by decide)
  · rw [cx_nsub (by omega), if_pos (nI_le (by omega) (by omega)), if_neg]
    exact Int32.not_le.mpr (nI_lt (by omega) (by omega))
theorem cm_clip {v q : Int32} (hfl : l.stackTraces = false) (hw : hm_Wd G m S c nc nb thr g h) (hC : mi_C S c nc) : hk_Ctr G l 8 yX9_clip cX9_clip 4 (some .int) 0 0 [.ref m, .int v, .int q] h (hk_qi fun rv h1 => ml_Q G m (ml_tr [1, 2, 4] (cd_clip S nc v q)) S c nc nb (cs_clip S v q) (c) (nc) (nb) g (rv = (cs_clip S v q).1 14 (vN v)) h1) hk_no := by
  obtain ⟨A, M, rfl, rfl, ok, hk, rfl⟩ := hw
  have hc1 := ok.1.2.1
  have hc := ok.1.2.2
  have hnc := ok.2.1.2
  have hnb := ok.2.2.1.2
  refine hk_enter (by decide) hfl (Nat.le_of_ble_eq_true rfl) rfl ?_
  refine hk_aload_n dX9_clip_0 rfl rfl rfl ?_
  refine hk_aload_n dX9_clip_1 rfl rfl rfl ?_
  refine hk_iload_n dX9_clip_2 rfl rfl rfl ?_
  refine hk_callV dX9_clip_3 rfl mv_X9_106 (cm_isCoin hfl hk ok) rfl rfl (hm_g0 hk) rfl rfl (by decide) ⟨Nat.zero_le _, Nat.zero_le _⟩ (Nat.le_of_ble_eq_true rfl) (hk_ki fun v h1 q => ?_) hk_nx
  obtain ⟨rfl, rfl⟩ := q
  refine cx_ifb_ne (tgt := 13) dX9_clip_6 (by decide) rfl (fun z6 => ?_) (fun z6 => ?_)
  · have f6 : cd_H nc v = 0 := of_decide_eq_true z6
    obtain ⟨a, ha, rfl⟩ := cd_H_of (by omega) f6
    have vaa : vN (nI a) = a := vN_nI (by omega)
    refine hk_iload_n dX9_clip_13 rfl rfl rfl ?_
    refine hk_iconst (v := nI 1) dX9_clip_14 rfl (by decide) ?_
    refine hk_bipush (v := nI 9) dX9_clip_15 rfl (by decide) ?_
    refine hk_callS dX9_clip_17 rfl ms_X9_60 (cm_isBetween hfl) rfl rfl (by decide) ⟨Nat.zero_le _, Nat.zero_le _⟩ (Nat.le_of_ble_eq_true rfl) (hk_ki fun v h1 q => ?_) hk_nx
    obtain ⟨rfl, rfl⟩ := q
    refine cx_top (congrArg cx_b (cs_bwR _ _)) ?_
    refine cx_ifb_ne (tgt := 27) dX9_clip_20 (by decide) rfl (fun z20 => ?_) (fun z20 => ?_)
    · have f20 : cd_R q 9 = 0 := of_decide_eq_true z20
      obtain ⟨b2, hb21, hb22, rfl⟩ := cd_R_of (by omega) f20
      have vab2 : vN (nI b2) = b2 := vN_nI (by omega)
      refine hk_aload_n dX9_clip_27 rfl rfl rfl ?_
      refine hk_iload_n dX9_clip_28 rfl rfl rfl ?_
      refine hk_callV dX9_clip_29 rfl mv_X9_109 (cm_isMelted hfl hk ok (by omega)) rfl rfl (hm_g0 hk) rfl rfl (by decide) ⟨Nat.zero_le _, Nat.zero_le _⟩ (Nat.le_of_ble_eq_true rfl) (hk_ki fun v h1 q => ?_) hk_nx
      obtain ⟨rfl, rfl⟩ := q
      refine cx_ifb_ne (tgt := 55) dX9_clip_32 (by decide) rfl (fun z32 => ?_) (fun z32 => ?_)
      · have f32 : S.1 14 a = 0 := of_decide_eq_true z32
        have g32 : cd_W S a = 4 := mi_W4 hC ha f32
        refine hk_iconst (v := nI 3) dX9_clip_55 rfl (by decide) ?_
        refine hk_goto (tgt := 60) dX9_clip_56 (by decide) ?_
        refine hk_callV dX9_clip_60 rfl mv_X9_80 (cm_isWrong (k := 3) hfl (by decide) hk) rfl rfl (hm_g0 hk) rfl rfl (by decide) ⟨Nat.zero_le _, Nat.zero_le _⟩ (Nat.le_of_ble_eq_true rfl) (hk_ki fun v h1 q => ?_) hk_nx
        obtain ⟨rfl, rfl⟩ := q
        try rw [hm_mt_mt]
        refine cx_ifb_eq (tgt := 68) dX9_clip_63 (by decide) rfl (fun z63 => ?_) (fun z63 => ?_)
        · exact absurd z63 (by decide)
        · skip
          refine hk_iconst (v := nI 0) dX9_clip_66 rfl (by decide) ?_
          exact hk_ireturn rfl (rfl) dX9_clip_67 (by have e : cd_clip S nc (nI a) (nI b2) = 4 := (by simp [cd_clip, cs_sq, f6, vaa, f20, vab2, f32, g32]); exact ⟨_, rfl, g, hm_x.rf, Or.inr ⟨by rw [e]; decide, A, hm_mt M (nI 3), rfl, by rw [e]; exact hm_mt0, ok, hk, rfl⟩⟩)
      · have f32 : ¬ S.1 14 a = 0 := of_decide_eq_false z32
        have g32 : cd_W S a = 0 := mi_W0 hC hc ha f32
        refine hk_aload_n dX9_clip_35 rfl rfl rfl ?_
        refine hk_getf dX9_clip_36 rfl fl_X9_32 (hm_g0 hk) rfl ?_
        refine hk_iload_n dX9_clip_39 rfl rfl rfl ?_
        have hg40 := hm_c1g (j := a) ok (by omega)
        refine hk_callF dX9_clip_40 rfl mf_X9_64 (cj_get hfl (hm_l1 hk ok) (hm_r (i := 1) hk ok (by omega) hg40.1) (by omega) (by rw [← hm_n1 ok]; exact (hm_cap ok hg40.1).1) (Nat.lt_of_le_of_lt (hm_cap ok hg40.1).2.2 (by decide)) hg40.2) rfl rfl (hm_l1 hk ok) rfl rfl (by decide) ⟨Nat.zero_le _, Nat.zero_le _⟩ (Nat.le_of_ble_eq_true rfl) (hk_kr fun v h1 q => ?_) hk_nx
        obtain ⟨rfl, rfl⟩ := q
        refine hk_castO dX9_clip_45 rfl (hm_coi hk ok (by omega)) rfl kl_X9_94 ?_
        refine hk_getf dX9_clip_48 rfl fl_X9_103 (hm_coi hk ok (by omega)) rfl ?_
        refine hk_iload_n dX9_clip_51 rfl rfl rfl ?_
        refine hk_icmp_gt (tgt := 59) dX9_clip_52 (by decide) rfl (fun z52 => ?_) (fun z52 => ?_)
        · skip
          have f52 : cd_clw S a (nI b2) = 0 := by rw [cd_clw_eq hC ha ⟨hb21, hb22⟩, if_neg (Int32.not_le.mpr z52)]
          refine hk_iconst (v := nI 0) dX9_clip_59 rfl (by decide) ?_
          refine hk_callV dX9_clip_60 rfl mv_X9_80 (cm_isWrong (k := 0) hfl (by decide) hk) rfl rfl (hm_g0 hk) rfl rfl (by decide) ⟨Nat.zero_le _, Nat.zero_le _⟩ (Nat.le_of_ble_eq_true rfl) (hk_ki fun v h1 q => ?_) hk_nx
          obtain ⟨rfl, rfl⟩ := q
          try rw [hm_mt_mt]
          refine cx_ifb_eq (tgt := 68) dX9_clip_63 (by decide) rfl (fun z63 => ?_) (fun z63 => ?_)
          · skip
            obtain ⟨m3, x3, hm3, hx3, e13, e14, z3⟩ := hC a ha
            have vm3 : vN (S.1 13 a) = m3 := by rw [e13]; exact vN_nI (by omega)
            obtain ⟨hx31, a3, ha3, e15⟩ : 1 ≤ x3 ∧ ∃ a3, a3 < c ∧ S.1 15 a = nI a3 := z3.elim (fun q => absurd (by rw [e14, q.1]; rfl) f32) id
            have vo3 : vN (S.1 15 a) = a3 := by rw [e15]; exact vN_nI (by omega)
            have h31 : (hs_su S 14 a (S.1 14 a - nI b2)).1 15 a = S.1 15 a := rfl
            have h32 : (hs_su S 14 a (S.1 14 a - nI b2)).1 13 a = S.1 13 a := rfl
            refine hk_aload_n dX9_clip_68 rfl rfl rfl ?_
            refine hk_getf dX9_clip_69 rfl fl_X9_32 (hm_g0 hk) rfl ?_
            refine hk_iload_n dX9_clip_72 rfl rfl rfl ?_
            have hg73 := hm_c1g (j := a) ok (by omega)
            refine hk_callF dX9_clip_73 rfl mf_X9_64 (cj_get hfl (hm_l1 hk ok) (hm_r (i := 1) hk ok (by omega) hg73.1) (by omega) (by rw [← hm_n1 ok]; exact (hm_cap ok hg73.1).1) (Nat.lt_of_le_of_lt (hm_cap ok hg73.1).2.2 (by decide)) hg73.2) rfl rfl (hm_l1 hk ok) rfl rfl (by decide) ⟨Nat.zero_le _, Nat.zero_le _⟩ (Nat.le_of_ble_eq_true rfl) (hk_kr fun v h1 q => ?_) hk_nx
            obtain ⟨rfl, rfl⟩ := q
            refine hk_castO dX9_clip_78 rfl (hm_coi hk ok (by omega)) rfl kl_X9_94 ?_
            refine hk_astore_n dX9_clip_81 rfl rfl (by decide) rfl ?_
            refine hk_aload_n dX9_clip_82 rfl rfl rfl ?_
            refine hk_dup dX9_clip_83 rfl rfl ?_
            refine hk_getf dX9_clip_84 rfl fl_X9_103 (hm_coi hk ok (by omega)) rfl ?_
            refine hk_iload_n dX9_clip_87 rfl rfl rfl ?_
            refine hk_isub dX9_clip_88 rfl ?_
            refine hk_putf dX9_clip_89 rfl (fw_X9_103 rfl) (hm_coi hk ok (by omega)) rfl (rfl) (Nat.lt_of_lt_of_eq (by decide : 2 < 6) rfl) ?_
            refine hx_cg (hm_v14c hk (hm_v31lt ok (by omega)) (hm_v31le ok)) ?_
            refine hk_aload_n dX9_clip_92 rfl rfl rfl ?_
            refine hk_getf dX9_clip_93 rfl fl_X9_29 (hm_g0 hk) rfl ?_
            refine hk_aload_n dX9_clip_96 rfl rfl rfl ?_
            refine hk_getf dX9_clip_97 rfl fl_X9_112 (hm_coi hk ok (by omega)) rfl ?_
            refine cx_top e15 ?_
            refine hx_aaldI dX9_clip_100 rfl (hm_g3 hk) (show _ < 6 by omega) (by decide) (if_pos (show _ < 6 by omega)) ?_
            refine hk_aload_n dX9_clip_101 rfl rfl rfl ?_
            refine hk_getf dX9_clip_102 rfl fl_X9_115 (hm_coi hk ok (by omega)) rfl ?_
            refine cx_top e13 ?_
            refine hk_dup2 dX9_clip_105 rfl rfl rfl ?_
            refine hx_iald dX9_clip_106 rfl (hm_g4 hk (by omega)) (show _ < 2 by omega) (by decide) ?_
            refine cx_top (if_pos (by omega)) ?_
            refine hk_iload_n dX9_clip_107 rfl rfl rfl ?_
            refine hk_iadd dX9_clip_108 rfl ?_
            refine hx_iast dX9_clip_109 rfl (hm_g4 hk (by omega)) (show _ < 2 by omega) (by decide) ?_
            refine hx_cg (hm_v12 hk (by omega) (by omega)) ?_
            refine hk_aload_n dX9_clip_110 rfl rfl rfl ?_
            refine hk_getf dX9_clip_111 rfl fl_X9_103 (hm_coi hk ok (by omega)) rfl ?_
            exact hk_ireturn rfl (rfl) dX9_clip_114 (by have e : cd_clip S nc (nI a) (nI b2) = 0 := (by simp [cd_clip, cs_sq, f6, vaa, f20, vab2, f32, g32, f52]); exact ⟨_, rfl, g, hm_x.rf, Or.inl ⟨by rw [e]; rfl, by simp only [cs_clip, cs_oadd, vaa, vab2, vo3, vm3] <;> rfl, A, hm_mt M (nI 0), rfl, hm_mt0, ok, hk, by simp only [cs_clip, cs_oadd, vaa, vab2, vo3, vm3] <;> rfl⟩⟩)
          · exact absurd z63 (by decide)
        · skip
          have f52 : cd_clw S a (nI b2) = 4 := by rw [cd_clw_eq hC ha ⟨hb21, hb22⟩, if_pos (Int32.not_lt.mp z52)]
          refine hk_iconst (v := nI 3) dX9_clip_55 rfl (by decide) ?_
          refine hk_goto (tgt := 60) dX9_clip_56 (by decide) ?_
          refine hk_callV dX9_clip_60 rfl mv_X9_80 (cm_isWrong (k := 3) hfl (by decide) hk) rfl rfl (hm_g0 hk) rfl rfl (by decide) ⟨Nat.zero_le _, Nat.zero_le _⟩ (Nat.le_of_ble_eq_true rfl) (hk_ki fun v h1 q => ?_) hk_nx
          obtain ⟨rfl, rfl⟩ := q
          try rw [hm_mt_mt]
          refine cx_ifb_eq (tgt := 68) dX9_clip_63 (by decide) rfl (fun z63 => ?_) (fun z63 => ?_)
          · exact absurd z63 (by decide)
          · skip
            refine hk_iconst (v := nI 0) dX9_clip_66 rfl (by decide) ?_
            exact hk_ireturn rfl (rfl) dX9_clip_67 (by have e : cd_clip S nc (nI a) (nI b2) = 4 := (by simp [cd_clip, cs_sq, f6, vaa, f20, vab2, f32, g32, f52]); exact ⟨_, rfl, g, hm_x.rf, Or.inr ⟨by rw [e]; decide, A, hm_mt M (nI 3), rfl, by rw [e]; exact hm_mt0, ok, hk, rfl⟩⟩)
    · have f20 : cd_R q 9 = 2 := cd_R_2 (of_decide_eq_false z20)
      refine hk_iconst (v := nI 2) dX9_clip_23 rfl (by decide) ?_
      refine hk_goto (tgt := 60) dX9_clip_24 (by decide) ?_
      refine hk_callV dX9_clip_60 rfl mv_X9_80 (cm_isWrong (k := 2) hfl (by decide) hk) rfl rfl (hm_g0 hk) rfl rfl (by decide) ⟨Nat.zero_le _, Nat.zero_le _⟩ (Nat.le_of_ble_eq_true rfl) (hk_ki fun v h1 q => ?_) hk_nx
      obtain ⟨rfl, rfl⟩ := q
      try rw [hm_mt_mt]
      refine cx_ifb_eq (tgt := 68) dX9_clip_63 (by decide) rfl (fun z63 => ?_) (fun z63 => ?_)
      · exact absurd z63 (by decide)
      · skip
        refine hk_iconst (v := nI 0) dX9_clip_66 rfl (by decide) ?_
        exact hk_ireturn rfl (rfl) dX9_clip_67 (by have e : cd_clip S nc (nI a) q = 2 := (by simp [cd_clip, cs_sq, f6, vaa, f20]); exact ⟨_, rfl, g, hm_x.rf, Or.inr ⟨by rw [e]; decide, A, hm_mt M (nI 2), rfl, by rw [e]; exact hm_mt0, ok, hk, rfl⟩⟩)
  · have f6 : cd_H nc v = 1 := cd_H_1 (of_decide_eq_false z6)
    refine hk_iconst (v := nI 1) dX9_clip_9 rfl (by decide) ?_
    refine hk_goto (tgt := 60) dX9_clip_10 (by decide) ?_
    refine hk_callV dX9_clip_60 rfl mv_X9_80 (cm_isWrong (k := 1) hfl (by decide) hk) rfl rfl (hm_g0 hk) rfl rfl (by decide) ⟨Nat.zero_le _, Nat.zero_le _⟩ (Nat.le_of_ble_eq_true rfl) (hk_ki fun v h1 q => ?_) hk_nx
    obtain ⟨rfl, rfl⟩ := q
    try rw [hm_mt_mt]
    refine cx_ifb_eq (tgt := 68) dX9_clip_63 (by decide) rfl (fun z63 => ?_) (fun z63 => ?_)
    · exact absurd z63 (by decide)
    · skip
      refine hk_iconst (v := nI 0) dX9_clip_66 rfl (by decide) ?_
      exact hk_ireturn rfl (rfl) dX9_clip_67 (by have e : cd_clip S nc v q = 1 := (by simp [cd_clip, cs_sq, f6]); exact ⟨_, rfl, g, hm_x.rf, Or.inr ⟨by rw [e]; decide, A, hm_mt M (nI 1), rfl, by rw [e]; exact hm_mt0, ok, hk, rfl⟩⟩)
theorem cm_hoard {v q : Int32} (hfl : l.stackTraces = false) (hw : hm_Wd G m S c nc nb thr g h) (hC : mi_C S c nc) (hq01 : q = 0 ∨ q = 1) (hb : ∀ j, narrow .boolean (.int (S.1 17 j)) = .int (S.1 17 j)) : hk_Ctr G l 8 yX9_hoard cX9_hoard 4 (some .boolean) 0 0 [.ref m, .int v, .int q] h (hk_qi fun rv h1 => ml_Q G m (ml_tr [1, 4] (cd_hoard S nc v)) S c nc nb (hs_su S 17 (vN v) q) (c) (nc) (nb) g (rv = S.1 17 (vN v)) h1) hk_no := by
  obtain ⟨A, M, rfl, rfl, ok, hk, rfl⟩ := hw
  have hc1 := ok.1.2.1
  have hc := ok.1.2.2
  have hnc := ok.2.1.2
  have hnb := ok.2.2.1.2
  have hq : narrow .boolean (.int q) = .int q := by rcases hq01 with rfl | rfl <;> rfl
  have hq2 : fits .boolean (.int q) = true := by rcases hq01 with rfl | rfl <;> rfl
  refine hk_enter (by decide) hfl (Nat.le_of_ble_eq_true rfl) rfl ?_
  refine hk_aload_n dX9_hoard_0 rfl rfl rfl ?_
  refine hk_aload_n dX9_hoard_1 rfl rfl rfl ?_
  refine hk_iload_n dX9_hoard_2 rfl rfl rfl ?_
  refine hk_callV dX9_hoard_3 rfl mv_X9_106 (cm_isCoin hfl hk ok) rfl rfl (hm_g0 hk) rfl rfl (by decide) ⟨Nat.zero_le _, Nat.zero_le _⟩ (Nat.le_of_ble_eq_true rfl) (hk_ki fun v h1 q => ?_) hk_nx
  obtain ⟨rfl, rfl⟩ := q
  refine cx_ifb_ne (tgt := 13) dX9_hoard_6 (by decide) rfl (fun z6 => ?_) (fun z6 => ?_)
  · have f6 : cd_H nc v = 0 := of_decide_eq_true z6
    obtain ⟨a, ha, rfl⟩ := cd_H_of (by omega) f6
    have vaa : vN (nI a) = a := vN_nI (by omega)
    refine hk_aload_n dX9_hoard_13 rfl rfl rfl ?_
    refine hk_iload_n dX9_hoard_14 rfl rfl rfl ?_
    refine hk_callV dX9_hoard_15 rfl mv_X9_109 (cm_isMelted hfl hk ok (by omega)) rfl rfl (hm_g0 hk) rfl rfl (by decide) ⟨Nat.zero_le _, Nat.zero_le _⟩ (Nat.le_of_ble_eq_true rfl) (hk_ki fun v h1 q => ?_) hk_nx
    obtain ⟨rfl, rfl⟩ := q
    refine cx_ifb_eq (tgt := 25) dX9_hoard_18 (by decide) rfl (fun z18 => ?_) (fun z18 => ?_)
    · have f18 : ¬ S.1 14 a = 0 := of_decide_eq_false z18
      have g18 : cd_W S a = 0 := mi_W0 hC hc ha f18
      refine hk_iconst (v := nI 0) dX9_hoard_25 rfl (by decide) ?_
      refine hk_callV dX9_hoard_26 rfl mv_X9_80 (cm_isWrong (k := 0) hfl (by decide) hk) rfl rfl (hm_g0 hk) rfl rfl (by decide) ⟨Nat.zero_le _, Nat.zero_le _⟩ (Nat.le_of_ble_eq_true rfl) (hk_ki fun v h1 q => ?_) hk_nx
      obtain ⟨rfl, rfl⟩ := q
      try rw [hm_mt_mt]
      refine cx_ifb_eq (tgt := 34) dX9_hoard_29 (by decide) rfl (fun z29 => ?_) (fun z29 => ?_)
      · skip
        refine hk_aload_n dX9_hoard_34 rfl rfl rfl ?_
        refine hk_getf dX9_hoard_35 rfl fl_X9_32 (hm_g0 hk) rfl ?_
        refine hk_iload_n dX9_hoard_38 rfl rfl rfl ?_
        have hg39 := hm_c1g (j := a) ok (by omega)
        refine hk_callF dX9_hoard_39 rfl mf_X9_64 (cj_get hfl (hm_l1 hk ok) (hm_r (i := 1) hk ok (by omega) hg39.1) (by omega) (by rw [← hm_n1 ok]; exact (hm_cap ok hg39.1).1) (Nat.lt_of_le_of_lt (hm_cap ok hg39.1).2.2 (by decide)) hg39.2) rfl rfl (hm_l1 hk ok) rfl rfl (by decide) ⟨Nat.zero_le _, Nat.zero_le _⟩ (Nat.le_of_ble_eq_true rfl) (hk_kr fun v h1 q => ?_) hk_nx
        obtain ⟨rfl, rfl⟩ := q
        refine hk_castO dX9_hoard_44 rfl (hm_coi hk ok (by omega)) rfl kl_X9_94 ?_
        refine hk_getf dX9_hoard_47 rfl fl_X9_118 (hm_coi hk ok (by omega)) rfl ?_
        refine hk_istore_n dX9_hoard_50 rfl rfl (by decide) rfl ?_
        refine hk_aload_n dX9_hoard_51 rfl rfl rfl ?_
        refine hk_getf dX9_hoard_52 rfl fl_X9_32 (hm_g0 hk) rfl ?_
        refine hk_iload_n dX9_hoard_55 rfl rfl rfl ?_
        have hg56 := hm_c1g (j := a) ok (by omega)
        refine hk_callF dX9_hoard_56 rfl mf_X9_64 (cj_get hfl (hm_l1 hk ok) (hm_r (i := 1) hk ok (by omega) hg56.1) (by omega) (by rw [← hm_n1 ok]; exact (hm_cap ok hg56.1).1) (Nat.lt_of_le_of_lt (hm_cap ok hg56.1).2.2 (by decide)) hg56.2) rfl rfl (hm_l1 hk ok) rfl rfl (by decide) ⟨Nat.zero_le _, Nat.zero_le _⟩ (Nat.le_of_ble_eq_true rfl) (hk_kr fun v h1 q => ?_) hk_nx
        obtain ⟨rfl, rfl⟩ := q
        refine hk_castO dX9_hoard_61 rfl (hm_coi hk ok (by omega)) rfl kl_X9_94 ?_
        refine hk_iload_n dX9_hoard_64 rfl rfl rfl ?_
        refine hk_putf dX9_hoard_65 rfl (fw_X9_118 rfl) (hm_coi hk ok (by omega)) hq (hq2) (Nat.lt_of_lt_of_eq (by decide : 5 < 6) rfl) ?_
        refine hx_cg (hm_v17c hk (hm_v31lt ok (by omega)) (hm_v31le ok)) ?_
        refine hk_iload_n dX9_hoard_68 rfl rfl rfl ?_
        exact hk_ireturn rfl (hb _) dX9_hoard_69 (by have e : cd_hoard S nc (nI a) = 0 := (by simp [cd_hoard, cs_sq, f6, vaa, f18, g18]); exact ⟨_, rfl, g, hm_x.rf, Or.inl ⟨by rw [e]; rfl, by simp only [vaa], A, hm_mt M (nI 0), rfl, hm_mt0, ok, hk, by simp only [vaa] <;> rfl⟩⟩)
      · exact absurd z29 (by decide)
    · have f18 : S.1 14 a = 0 := of_decide_eq_true z18
      have g18 : cd_W S a = 4 := mi_W4 hC ha f18
      refine hk_iconst (v := nI 2) dX9_hoard_21 rfl (by decide) ?_
      refine hk_goto (tgt := 26) dX9_hoard_22 (by decide) ?_
      refine hk_callV dX9_hoard_26 rfl mv_X9_80 (cm_isWrong (k := 2) hfl (by decide) hk) rfl rfl (hm_g0 hk) rfl rfl (by decide) ⟨Nat.zero_le _, Nat.zero_le _⟩ (Nat.le_of_ble_eq_true rfl) (hk_ki fun v h1 q => ?_) hk_nx
      obtain ⟨rfl, rfl⟩ := q
      try rw [hm_mt_mt]
      refine cx_ifb_eq (tgt := 34) dX9_hoard_29 (by decide) rfl (fun z29 => ?_) (fun z29 => ?_)
      · exact absurd z29 (by decide)
      · skip
        refine hk_iconst (v := nI 0) dX9_hoard_32 rfl (by decide) ?_
        exact hk_ireturn rfl (rfl) dX9_hoard_33 (by have e : cd_hoard S nc (nI a) = 4 := (by simp [cd_hoard, cs_sq, f6, vaa, f18, g18]); exact ⟨_, rfl, g, hm_x.rf, Or.inr ⟨by rw [e]; decide, A, hm_mt M (nI 2), rfl, by rw [e]; exact hm_mt0, ok, hk, rfl⟩⟩)
  · have f6 : cd_H nc v = 1 := cd_H_1 (of_decide_eq_false z6)
    refine hk_iconst (v := nI 1) dX9_hoard_9 rfl (by decide) ?_
    refine hk_goto (tgt := 26) dX9_hoard_10 (by decide) ?_
    refine hk_callV dX9_hoard_26 rfl mv_X9_80 (cm_isWrong (k := 1) hfl (by decide) hk) rfl rfl (hm_g0 hk) rfl rfl (by decide) ⟨Nat.zero_le _, Nat.zero_le _⟩ (Nat.le_of_ble_eq_true rfl) (hk_ki fun v h1 q => ?_) hk_nx
    obtain ⟨rfl, rfl⟩ := q
    try rw [hm_mt_mt]
    refine cx_ifb_eq (tgt := 34) dX9_hoard_29 (by decide) rfl (fun z29 => ?_) (fun z29 => ?_)
    · exact absurd z29 (by decide)
    · skip
      refine hk_iconst (v := nI 0) dX9_hoard_32 rfl (by decide) ?_
      exact hk_ireturn rfl (rfl) dX9_hoard_33 (by have e : cd_hoard S nc v = 1 := (by simp [cd_hoard, cs_sq, f6]); exact ⟨_, rfl, g, hm_x.rf, Or.inr ⟨by rw [e]; decide, A, hm_mt M (nI 1), rfl, by rw [e]; exact hm_mt0, ok, hk, rfl⟩⟩)
theorem cm_holderOf {v : Int32} (hfl : l.stackTraces = false) (hw : hm_Wd G m S c nc nb thr g h) : hk_Ctr G l 8 yX9_holderOf cX9_holderOf 2 (some .int) 0 0 [.ref m, .int v] h (hk_qi fun rv h1 => ml_Q G m (ml_tr [1] (cd_H nb v)) S c nc nb (S) (c) (nc) (nb) g (rv = S.1 24 (vN v)) h1) hk_no := by
  obtain ⟨A, M, rfl, rfl, ok, hk, rfl⟩ := hw
  have hc1 := ok.1.2.1
  have hc := ok.1.2.2
  have hnc := ok.2.1.2
  have hnb := ok.2.2.1.2
  refine hk_enter (by decide) hfl (Nat.le_of_ble_eq_true rfl) rfl ?_
  refine hk_aload_n dX9_holderOf_0 rfl rfl rfl ?_
  refine hk_aload_n dX9_holderOf_1 rfl rfl rfl ?_
  refine hk_iload_n dX9_holderOf_2 rfl rfl rfl ?_
  refine hk_callV dX9_holderOf_3 rfl mv_X9_188 (cm_isBill hfl hk ok) rfl rfl (hm_g0 hk) rfl rfl (by decide) ⟨Nat.zero_le _, Nat.zero_le _⟩ (Nat.le_of_ble_eq_true rfl) (hk_ki fun v h1 q => ?_) hk_nx
  obtain ⟨rfl, rfl⟩ := q
  refine cx_ifb_eq (tgt := 13) dX9_holderOf_6 (by decide) rfl (fun z6 => ?_) (fun z6 => ?_)
  · have f6 : cd_H nb v = 1 := cd_H_1 (of_decide_eq_false z6)
    refine hk_iconst (v := nI 1) dX9_holderOf_13 rfl (by decide) ?_
    refine hk_callV dX9_holderOf_14 rfl mv_X9_80 (cm_isWrong (k := 1) hfl (by decide) hk) rfl rfl (hm_g0 hk) rfl rfl (by decide) ⟨Nat.zero_le _, Nat.zero_le _⟩ (Nat.le_of_ble_eq_true rfl) (hk_ki fun v h1 q => ?_) hk_nx
    obtain ⟨rfl, rfl⟩ := q
    try rw [hm_mt_mt]
    refine cx_ifb_eq (tgt := 24) dX9_holderOf_17 (by decide) rfl (fun z17 => ?_) (fun z17 => ?_)
    · exact absurd z17 (by decide)
    · skip
      refine hk_iconst (v := nI 0) dX9_holderOf_20 rfl (by decide) ?_
      refine hk_goto (tgt := 63) dX9_holderOf_21 (by decide) ?_
      exact hk_ireturn rfl (rfl) dX9_holderOf_63 (by have e : cd_H nb v = 1 := f6; exact ⟨_, rfl, g, hm_x.rf, Or.inr ⟨by rw [e]; decide, A, hm_mt M (nI 1), rfl, by rw [e]; exact hm_mt0, ok, hk, rfl⟩⟩)
  · have f6 : cd_H nb v = 0 := of_decide_eq_true z6
    obtain ⟨a, ha, rfl⟩ := cd_H_of (by omega) f6
    have vaa : vN (nI a) = a := vN_nI (by omega)
    refine hk_iconst (v := nI 0) dX9_holderOf_9 rfl (by decide) ?_
    refine hk_goto (tgt := 14) dX9_holderOf_10 (by decide) ?_
    refine hk_callV dX9_holderOf_14 rfl mv_X9_80 (cm_isWrong (k := 0) hfl (by decide) hk) rfl rfl (hm_g0 hk) rfl rfl (by decide) ⟨Nat.zero_le _, Nat.zero_le _⟩ (Nat.le_of_ble_eq_true rfl) (hk_ki fun v h1 q => ?_) hk_nx
    obtain ⟨rfl, rfl⟩ := q
    try rw [hm_mt_mt]
    refine cx_ifb_eq (tgt := 24) dX9_holderOf_17 (by decide) rfl (fun z17 => ?_) (fun z17 => ?_)
    · skip
      by_cases hov : S.1 24 a = -1
      · skip
        refine hk_aload_n dX9_holderOf_24 rfl rfl rfl ?_
        refine hk_getf dX9_holderOf_25 rfl fl_X9_38 (hm_g0 hk) rfl ?_
        refine hk_iload_n dX9_holderOf_28 rfl rfl rfl ?_
        have hg29 := hm_b1g (j := a) ok (by omega)
        refine hk_callF dX9_holderOf_29 rfl mf_X9_64 (cj_get hfl (hm_l2 hk ok) (hm_r (i := 2) hk ok (by omega) hg29.1) (by omega) (by rw [← hm_n2 ok]; exact (hm_cap ok hg29.1).1) (Nat.lt_of_le_of_lt (hm_cap ok hg29.1).2.2 (by decide)) hg29.2) rfl rfl (hm_l2 hk ok) rfl rfl (by decide) ⟨Nat.zero_le _, Nat.zero_le _⟩ (Nat.le_of_ble_eq_true rfl) (hk_kr fun v h1 q => ?_) hk_nx
        obtain ⟨rfl, rfl⟩ := q
        refine hk_castO dX9_holderOf_34 rfl (hm_g200 hk (by rw [hm_v32 ok]; omega)) rfl kl_X9_182 ?_
        refine hk_getf dX9_holderOf_37 rfl fl_X9_191 (hm_g200 hk (by rw [hm_v32 ok]; omega)) rfl ?_
        refine cx_top (if_pos hov) ?_
        refine cx_ifn_eq (tgt := 47) (by omega) dX9_holderOf_40 (by decide) rfl (fun z40 => ?_) (fun z40 => ?_)
        · exact absurd z40 (by decide)
        · skip
          refine hk_iconst (v := -1) dX9_holderOf_43 rfl (by decide) ?_
          refine hk_goto (tgt := 63) dX9_holderOf_44 (by decide) ?_
          exact hk_ireturn rfl (rfl) dX9_holderOf_63 (by have e : cd_H nb (nI a) = 0 := f6; exact ⟨_, rfl, g, hm_x.rf, Or.inl ⟨by rw [e]; rfl, by rw [vaa] <;> first | rfl | exact hov.symm, A, hm_mt M (nI 0), rfl, hm_mt0, ok, hk, rfl⟩⟩)
      · skip
        refine hk_aload_n dX9_holderOf_24 rfl rfl rfl ?_
        refine hk_getf dX9_holderOf_25 rfl fl_X9_38 (hm_g0 hk) rfl ?_
        refine hk_iload_n dX9_holderOf_28 rfl rfl rfl ?_
        have hg29 := hm_b1g (j := a) ok (by omega)
        refine hk_callF dX9_holderOf_29 rfl mf_X9_64 (cj_get hfl (hm_l2 hk ok) (hm_r (i := 2) hk ok (by omega) hg29.1) (by omega) (by rw [← hm_n2 ok]; exact (hm_cap ok hg29.1).1) (Nat.lt_of_le_of_lt (hm_cap ok hg29.1).2.2 (by decide)) hg29.2) rfl rfl (hm_l2 hk ok) rfl rfl (by decide) ⟨Nat.zero_le _, Nat.zero_le _⟩ (Nat.le_of_ble_eq_true rfl) (hk_kr fun v h1 q => ?_) hk_nx
        obtain ⟨rfl, rfl⟩ := q
        refine hk_castO dX9_holderOf_34 rfl (hm_g200 hk (by rw [hm_v32 ok]; omega)) rfl kl_X9_182 ?_
        refine hk_getf dX9_holderOf_37 rfl fl_X9_191 (hm_g200 hk (by rw [hm_v32 ok]; omega)) rfl ?_
        refine cx_top (if_neg hov) ?_
        refine cx_ifn_eq (tgt := 47) (by omega) dX9_holderOf_40 (by decide) rfl (fun z40 => ?_) (fun z40 => ?_)
        · skip
          refine hk_aload_n dX9_holderOf_47 rfl rfl rfl ?_
          refine hk_getf dX9_holderOf_48 rfl fl_X9_38 (hm_g0 hk) rfl ?_
          refine hk_iload_n dX9_holderOf_51 rfl rfl rfl ?_
          have hg52 := hm_b1g (j := a) ok (by omega)
          refine hk_callF dX9_holderOf_52 rfl mf_X9_64 (cj_get hfl (hm_l2 hk ok) (hm_r (i := 2) hk ok (by omega) hg52.1) (by omega) (by rw [← hm_n2 ok]; exact (hm_cap ok hg52.1).1) (Nat.lt_of_le_of_lt (hm_cap ok hg52.1).2.2 (by decide)) hg52.2) rfl rfl (hm_l2 hk ok) rfl rfl (by decide) ⟨Nat.zero_le _, Nat.zero_le _⟩ (Nat.le_of_ble_eq_true rfl) (hk_kr fun v h1 q => ?_) hk_nx
          obtain ⟨rfl, rfl⟩ := q
          refine hk_castO dX9_holderOf_57 rfl (hm_g200 hk (by rw [hm_v32 ok]; omega)) rfl kl_X9_182 ?_
          refine hk_getf dX9_holderOf_60 rfl fl_X9_194 (hm_g200 hk (by rw [hm_v32 ok]; omega)) rfl ?_
          refine cx_top (if_neg hov) ?_
          exact hk_ireturn rfl (rfl) dX9_holderOf_63 (by have e : cd_H nb (nI a) = 0 := f6; exact ⟨_, rfl, g, hm_x.rf, Or.inl ⟨by rw [e]; rfl, by rw [vaa] <;> first | rfl | exact hov.symm, A, hm_mt M (nI 0), rfl, hm_mt0, ok, hk, rfl⟩⟩)
        · exact absurd z40 (by decide)
    · exact absurd z17 (by decide)
end CM3

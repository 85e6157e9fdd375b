section CM11
variable {G : hk_G} {l : Launch} {S : hs_S} {c nc nb m : Nat} {thr : Int32} {g h : hk_H}
theorem cd_ng_0 {bk : Nat} {v t mt q : Int32} (h : cd_ng S c bk v t mt q = 0) : cd_H c v = 0 ∧ cd_H c t = 0 ∧ cd_M mt = 0 ∧ cd_R q 90 = 0 ∧ cd_D v t = 0 ∧ (if bk = 0 then 0 else cd_B S (vN t)) = 0 ∧ cd_O S (vN v) = 0 ∧ cd_O S (vN t) = 0 := by
  unfold cd_ng at h
  simp only [cs_sq_z] at h
  exact h
theorem cd_pay_eq {v t mt q : Int32} : cd_pay S c nc v t mt q = cs_sq (cd_ng S c 0 v t mt q) (cd_L S (vN v) (cs_m mt) (vN q) nc) := by
  unfold cd_pay cd_ng
  rw [if_pos rfl]
  simp only [cs_sq_as]
  rw [show ∀ x, cs_sq 0 x = x from fun _ => rfl]
theorem cd_K_D {v t : Int32} (hv : cd_H c v = 0) (ht : cd_H c t = 0) (hc : c ≤ 6) : cd_K S (vN v) (vN t) = cs_sq (cd_D v t) (cs_sq (cd_B S (vN t)) (cs_sq (cd_O S (vN v)) (cd_O S (vN t)))) := by
  obtain ⟨a, ha, rfl⟩ := cd_H_of (by omega) hv
  obtain ⟨b, hb, rfl⟩ := cd_H_of (by omega) ht
  rw [vN_nI (by omega), vN_nI (by omega)]
  rfl
theorem cd_ng1 {v t mt q : Int32} (hc : c ≤ 6) : cd_ng S c 1 v t mt q = cs_sq (cd_H c v) (cs_sq (cd_H c t) (cs_sq (cd_M mt) (cs_sq (cd_R q 90) (cd_K S (vN v) (vN t))))) := by
  unfold cd_ng
  rw [if_neg (by decide)]
  by_cases hv : cd_H c v = 0
  · by_cases ht : cd_H c t = 0
    · rw [cd_K_D hv ht hc]
    · rw [hv]
      show cs_sq (cd_H c t) _ = cs_sq (cd_H c t) _
      rw [cs_sq_n ht, cs_sq_n ht]
  · rw [cs_sq_n hv, cs_sq_n hv]
theorem cd_deposit_eq {v t mt q : Int32} (hc : c ≤ 6) : cd_deposit S c nc v t mt q = cs_sq (cd_ng S c 1 v t mt q) (cd_L S (vN v) (cs_m mt) (vN q) nc) := by
  unfold cd_deposit
  rw [cd_ng1 hc]
  simp only [cs_sq_as]
theorem cd_withdraw_eq {v t mt q : Int32} (hc : c ≤ 6) : cd_withdraw S c v t mt q = cs_sq (cd_ng S c 1 v t mt q) (cd_C S (vN v) (vN t) (q * S.1 9 (cs_m mt))) := by
  unfold cd_withdraw
  rw [cd_ng1 hc]
  simp only [cs_sq_as]
theorem ml_tr4 {k : Nat} (h : k ≤ 4) : ml_tr [1, 2, 3, 4] k = k := by
  have : ∀ k, k < 5 → ml_tr [1, 2, 3, 4] k = k := by decide
  exact this k (by omega)
theorem cm_pay {v t mt q : Int32} (hfl : l.stackTraces = false) (hw : hm_Wd G m S c nc nb thr g h) (hC : mi_C S c nc) : hk_Ctr G l 9 yX9_pay cX9_pay 6 (some .int) 101 7468 [.ref m, .int v, .int t, .int mt, .int q] h (hk_qi fun rv h1 => ml_Q G m (ml_tr [1, 2, 3, 4] (cd_pay S c nc v t mt q)) S c nc nb ((cs_pay S nc v t mt q).1) (c) (nc) (nb) g (rv = (cs_pay S nc v t mt q).2) h1) hk_no := by
  obtain ⟨A, M, rfl, rfl, ok, hk, rfl⟩ := hw
  have hc1 := ok.1.2.1
  have hc := ok.1.2.2
  have hnc := ok.2.1.2
  have hnb := ok.2.2.1.2
  refine hk_enter (by decide) hfl (Nat.le_of_ble_eq_true rfl) rfl ?_
  refine hk_aload_n dX9_pay_0 rfl rfl rfl ?_
  refine hk_iload_n dX9_pay_1 rfl rfl rfl ?_
  refine hk_iload_n dX9_pay_2 rfl rfl rfl ?_
  refine hk_iload_n dX9_pay_3 rfl rfl rfl ?_
  refine hk_iload dX9_pay_4 rfl rfl ?_
  refine hk_iconst (v := nI 0) dX9_pay_6 rfl (by decide) ?_
  refine hk_callV dX9_pay_7 rfl mv_X9_149 (cm_ng0 hfl hk ok) rfl rfl (hm_g0 hk) rfl rfl (by decide) ⟨Nat.zero_le _, Nat.zero_le _⟩ (Nat.le_of_ble_eq_true rfl) (hk_ki fun rv1 h1 q1 => ?_) hk_nx
  obtain ⟨rfl, rfl⟩ := q1
  refine cx_ifb_eq (tgt := 15) dX9_pay_10 (by decide) rfl (fun z10 => ?_) (fun z10 => ?_)
  · skip
    have hng : cd_ng S c 0 v t mt q = 0 := (by have := of_decide_eq_false z10; omega)
    · rw [hng]
      obtain ⟨w1, w2, w3, w4, w5, w6, w7, w8⟩ := cd_ng_0 hng
      obtain ⟨a, ha, rfl⟩ := cd_H_of (by omega) w1
      obtain ⟨b2, hb2, rfl⟩ := cd_H_of (by omega) w2
      obtain ⟨k2, hk21, hk22, rfl⟩ := cd_R_of (by omega) w4
      have vaa : vN (nI a) = a := vN_nI (by omega)
      have vab2 : vN (nI b2) = b2 := vN_nI (by omega)
      have vak2 : vN (nI k2) = k2 := vN_nI (by omega)
      have hab : ¬ b2 = a := fun q => by rw [cd_D_eq q.symm] at w5; cases w5
      have hm := cs_m_lt mt
      have hbd := hm_bd_le k2 (90 - k2)
      rw [show k2 + (90 - k2) = 90 by omega, hm_bd_90] at hbd
      refine hk_aload_n dX9_pay_15 rfl rfl rfl ?_
      refine hk_iload_n dX9_pay_16 rfl rfl rfl ?_
      refine hk_ldcS rfl dX9_pay_17 rfl ?_
      refine hk_iload_n dX9_pay_19 rfl rfl rfl ?_
      refine hk_callJ dX9_pay_20 rfl mv_X9_74 (cj_io hfl) rfl rfl (fun U H z => z.2.2.2.1.2.2.1) (by decide) ⟨Nat.zero_le _, Nat.zero_le _⟩ (Nat.le_of_ble_eq_true rfl) (hk_ki fun v h1 q => ?_) hk_nx
      obtain ⟨rfl, rfl⟩ := q
      refine cx_top (cs_ixm w3) ?_
      refine hk_iload dX9_pay_23 rfl rfl ?_
      refine hk_callV dX9_pay_25 rfl mv_X9_153 (cm_lightest (K := k2) (M := hm_mt M (nI 0)) hfl hk ok (by omega) hm (by omega)) rfl rfl (hm_g0 hk) rfl rfl (by decide) ⟨by omega, by omega⟩ (Nat.le_of_ble_eq_true rfl) (hk_ko fun rv1 h1 q1 => ?_) hk_nx
      obtain ⟨fl, g2, rfl, hkg, hG, rfl⟩ := q1
      have h9 := mi_W9 (a := a) (m := cs_m mt) hC (by omega)
      have hln := hf_ou_len (K := k2) h9
      by_cases hle : k2 ≤ cs_loose S a (cs_m mt) nc
      · obtain ⟨hL, hgv⟩ := hf_gives (K := k2) (t := b2) hab (by omega) (by omega) h9 hle
        rw [if_pos (by rw [hL]; exact Nat.le_refl _)]
        have okg : hm_ok G (cs_gl a b2 (cs_m mt) nc S k2).1 M A c nc nb := hm_okS ok (fun i hi => by rw [← hgv]; exact hs_gv_ne (by omega) _)
        refine hk_astore dX9_pay_28 rfl (by decide) rfl ?_
        refine hk_aload_n dX9_pay_30 rfl rfl rfl ?_
        refine hk_aload dX9_pay_31 rfl rfl ?_
        refine hk_ifnonnull_t (tgt := 40) dX9_pay_33 (by decide) ?_
        refine hk_iconst (v := nI 0) dX9_pay_40 rfl (by decide) ?_
        refine hk_callV dX9_pay_41 rfl mv_X9_80 (cm_isWrong (k := 0) hfl (by decide) hkg) rfl rfl (hm_g0 hkg) rfl rfl (by decide) ⟨Nat.zero_le _, Nat.zero_le _⟩ (Nat.le_of_ble_eq_true rfl) (hk_ki fun v h1 q => ?_) hk_nx
        obtain ⟨rfl, rfl⟩ := q
        try rw [hm_mt_mt]
        refine cx_ifb_eq (tgt := 51) dX9_pay_44 (by decide) rfl (fun z44 => ?_) (fun z44 => ?_)
        · skip
          refine hk_aload dX9_pay_51 rfl rfl ?_
          refine hk_iload_n dX9_pay_53 rfl rfl rfl ?_
          refine hk_callS dX9_pay_54 rfl ms_X9_157 (cm_gives (t := nI b2) (M := hm_mt M (nI 0)) hfl hkg ok hG (hf_ou_lt 9) (by rw [hL]; omega)) rfl rfl (by decide) ⟨by omega, by omega⟩ (Nat.le_of_ble_eq_true rfl) (hk_ki fun rv1 h1 q1 => ?_) hk_nx
          rw [hL, hgv] at q1
          obtain ⟨rfl, g3, x3, hk3, rfl⟩ := q1
          exact hk_ireturn rfl (rfl) dX9_pay_57 (by have ez : cd_pay S c nc (nI a) (nI b2) mt (nI k2) = 0 := (by rw [cd_pay_eq, hng, vaa, vak2]; exact if_pos hle); simp only [cs_pay, vaa, vab2, vak2]; exact ⟨_, rfl, g3, x3, Or.inl ⟨by rw [ez]; rfl, rfl, A, hm_mt M (nI 0), rfl, hm_mt0, okg, hk3, rfl⟩⟩)
        · exact absurd z44 (by decide)
      · rw [if_neg (by rw [hln]; omega)]
        refine hk_astoreN dX9_pay_28 rfl (by decide) rfl ?_
        refine hk_aload_n dX9_pay_30 rfl rfl rfl ?_
        refine hk_aloadN dX9_pay_31 rfl rfl ?_
        refine hk_ifnonnull_f dX9_pay_33 rfl ?_
        refine hk_iconst (v := nI 4) dX9_pay_36 rfl (by decide) ?_
        refine hk_goto (tgt := 41) dX9_pay_37 (by decide) ?_
        refine hk_callV dX9_pay_41 rfl mv_X9_80 (cm_isWrong (k := 4) hfl (by decide) hkg) rfl rfl (hm_g0 hkg) rfl rfl (by decide) ⟨Nat.zero_le _, Nat.zero_le _⟩ (Nat.le_of_ble_eq_true rfl) (hk_ki fun v h1 q => ?_) hk_nx
        obtain ⟨rfl, rfl⟩ := q
        try rw [hm_mt_mt]
        refine cx_ifb_eq (tgt := 51) dX9_pay_44 (by decide) rfl (fun z44 => ?_) (fun z44 => ?_)
        · exact absurd z44 (by decide)
        · skip
          refine hk_iconst (v := nI 0) dX9_pay_47 rfl (by decide) ?_
          refine hk_goto (tgt := 57) dX9_pay_48 (by decide) ?_
          exact hk_ireturn rfl (rfl) dX9_pay_57 (by have e : cd_pay S c nc (nI a) (nI b2) mt (nI k2) = 4 := (by rw [cd_pay_eq, hng, vaa, vak2]; exact if_neg hle); exact ⟨_, rfl, g2, hG.1, Or.inr ⟨by rw [e]; decide, A, hm_mt M (nI 4), rfl, by rw [e]; exact hm_mt0, ok, hkg, rfl⟩⟩)
  · skip
    refine hk_iconst (v := nI 0) dX9_pay_13 rfl (by decide) ?_
    exact hk_ireturn rfl (rfl) dX9_pay_14 (by have h0 : 0 < cd_ng S c 0 v t mt q := of_decide_eq_true z10; have ez : ml_tr [1, 2, 3, 4] (cd_pay S c nc v t mt q) = cd_ng S c 0 v t mt q := (by rw [cd_pay_eq, cs_sq_n (by omega)]; exact ml_tr4 (Nat.le_trans cd_ng_le (by omega))); exact ⟨_, rfl, g, hm_x.rf, Or.inr ⟨by rw [ez]; omega, A, hm_mt M (nI (cd_ng S c 0 v t mt q)), rfl, by rw [ez]; exact hm_mt0, ok, hk, rfl⟩⟩)
theorem cm_deposit {v t mt q : Int32} (hfl : l.stackTraces = false) (hw : hm_Wd G m S c nc nb thr g h) (hC : mi_C S c nc) : hk_Ctr G l 9 yX9_deposit cX9_deposit 7 (some .int) 101 7468 [.ref m, .int v, .int t, .int mt, .int q] h (hk_qi fun rv h1 => ml_Q G m (ml_tr [1, 2, 3, 4] (cd_deposit S c nc v t mt q)) S c nc nb (cs_deposit S nc v t mt q) (c) (nc) (nb) g (rv = (cs_deposit S nc v t mt q).1 19 (vN v * 6 + vN t)) h1) hk_no := by
  obtain ⟨A, M, rfl, rfl, ok, hk, rfl⟩ := hw
  have hc1 := ok.1.2.1
  have hc := ok.1.2.2
  have hnc := ok.2.1.2
  have hnb := ok.2.2.1.2
  refine hk_enter (by decide) hfl (Nat.le_of_ble_eq_true rfl) rfl ?_
  refine hk_aload_n dX9_deposit_0 rfl rfl rfl ?_
  refine hk_iload_n dX9_deposit_1 rfl rfl rfl ?_
  refine hk_iload_n dX9_deposit_2 rfl rfl rfl ?_
  refine hk_iload_n dX9_deposit_3 rfl rfl rfl ?_
  refine hk_iload dX9_deposit_4 rfl rfl ?_
  refine hk_iconst (v := nI 1) dX9_deposit_6 rfl (by decide) ?_
  refine hk_callV dX9_deposit_7 rfl mv_X9_149 (cm_ng1 hfl hk ok) rfl rfl (hm_g0 hk) rfl rfl (by decide) ⟨Nat.zero_le _, Nat.zero_le _⟩ (Nat.le_of_ble_eq_true rfl) (hk_ki fun rv1 h1 q1 => ?_) hk_nx
  obtain ⟨rfl, rfl⟩ := q1
  refine cx_ifb_eq (tgt := 15) dX9_deposit_10 (by decide) rfl (fun z10 => ?_) (fun z10 => ?_)
  · skip
    have hng : cd_ng S c 1 v t mt q = 0 := (by have := of_decide_eq_false z10; omega)
    · rw [hng]
      obtain ⟨w1, w2, w3, w4, w5, w6, w7, w8⟩ := cd_ng_0 hng
      obtain ⟨a, ha, rfl⟩ := cd_H_of (by omega) w1
      obtain ⟨b2, hb2, rfl⟩ := cd_H_of (by omega) w2
      obtain ⟨k2, hk21, hk22, rfl⟩ := cd_R_of (by omega) w4
      have vaa : vN (nI a) = a := vN_nI (by omega)
      have vab2 : vN (nI b2) = b2 := vN_nI (by omega)
      have vak2 : vN (nI k2) = k2 := vN_nI (by omega)
      have hab : ¬ b2 = a := fun q => by rw [cd_D_eq q.symm] at w5; cases w5
      have hm := cs_m_lt mt
      have hbd := hm_bd_le k2 (90 - k2)
      rw [show k2 + (90 - k2) = 90 by omega, hm_bd_90] at hbd
      refine hk_ldcS rfl dX9_deposit_15 rfl ?_
      refine hk_iload_n dX9_deposit_17 rfl rfl rfl ?_
      refine hk_callJ dX9_deposit_18 rfl mv_X9_74 (cj_io hfl) rfl rfl (fun U H z => z.2.2.2.1.2.2.1) (by decide) ⟨Nat.zero_le _, Nat.zero_le _⟩ (Nat.le_of_ble_eq_true rfl) (hk_ki fun v h1 q => ?_) hk_nx
      obtain ⟨rfl, rfl⟩ := q
      refine cx_top (cs_ixm w3) ?_
      refine hk_istore dX9_deposit_21 rfl (by decide) rfl ?_
      refine hk_aload_n dX9_deposit_23 rfl rfl rfl ?_
      refine hk_iload_n dX9_deposit_24 rfl rfl rfl ?_
      refine hk_iload dX9_deposit_25 rfl rfl ?_
      refine hk_iload dX9_deposit_27 rfl rfl ?_
      refine hk_callV dX9_deposit_29 rfl mv_X9_153 (cm_lightest (K := k2) (M := hm_mt M (nI 0)) hfl hk ok (by omega) hm (by omega)) rfl rfl (hm_g0 hk) rfl rfl (by decide) ⟨by omega, by omega⟩ (Nat.le_of_ble_eq_true rfl) (hk_ko fun rv1 h1 q1 => ?_) hk_nx
      obtain ⟨fl, g2, rfl, hkg, hG, rfl⟩ := q1
      have h9 := mi_W9 (a := a) (m := cs_m mt) hC (by omega)
      have hln := hf_ou_len (K := k2) h9
      by_cases hle : k2 ≤ cs_loose S a (cs_m mt) nc
      · obtain ⟨hL, hgv⟩ := hf_gives (K := k2) (t := b2) hab (by omega) (by omega) h9 hle
        rw [if_pos (by rw [hL]; exact Nat.le_refl _)]
        have okg : hm_ok G (cs_gl a b2 (cs_m mt) nc S k2).1 M A c nc nb := hm_okS ok (fun i hi => by rw [← hgv]; exact hs_gv_ne (by omega) _)
        refine hk_astore dX9_deposit_32 rfl (by decide) rfl ?_
        refine hk_aload_n dX9_deposit_34 rfl rfl rfl ?_
        refine hk_aload dX9_deposit_35 rfl rfl ?_
        refine hk_ifnonnull_t (tgt := 44) dX9_deposit_37 (by decide) ?_
        refine hk_iconst (v := nI 0) dX9_deposit_44 rfl (by decide) ?_
        refine hk_callV dX9_deposit_45 rfl mv_X9_80 (cm_isWrong (k := 0) hfl (by decide) hkg) rfl rfl (hm_g0 hkg) rfl rfl (by decide) ⟨Nat.zero_le _, Nat.zero_le _⟩ (Nat.le_of_ble_eq_true rfl) (hk_ki fun v h1 q => ?_) hk_nx
        obtain ⟨rfl, rfl⟩ := q
        try rw [hm_mt_mt]
        refine cx_ifb_eq (tgt := 53) dX9_deposit_48 (by decide) rfl (fun z48 => ?_) (fun z48 => ?_)
        · skip
          refine hk_aload dX9_deposit_53 rfl rfl ?_
          refine hk_iload_n dX9_deposit_55 rfl rfl rfl ?_
          refine hk_callS dX9_deposit_56 rfl ms_X9_157 (cm_gives (t := nI b2) (M := hm_mt M (nI 0)) hfl hkg ok hG (hf_ou_lt 9) (by rw [hL]; omega)) rfl rfl (by decide) ⟨by omega, by omega⟩ (Nat.le_of_ble_eq_true rfl) (hk_ki fun rv1 h1 q1 => ?_) hk_nx
          rw [hL, hgv] at q1
          obtain ⟨rfl, g3, x3, hk3, rfl⟩ := q1
          refine hk_pop dX9_deposit_59 rfl rfl ?_
          refine hk_aload_n dX9_deposit_60 rfl rfl rfl ?_
          refine hk_getf dX9_deposit_61 rfl fl_X9_35 (hm_g0 hk3) rfl ?_
          refine hk_iload_n dX9_deposit_64 rfl rfl rfl ?_
          refine hx_aaldI dX9_deposit_65 rfl (hm_g10 hk3) (show _ < 6 by omega) (by decide) (if_pos (show _ < 6 by omega)) ?_
          refine hk_iload_n dX9_deposit_66 rfl rfl rfl ?_
          refine hk_dup2 dX9_deposit_67 rfl rfl rfl ?_
          refine hx_iald dX9_deposit_68 rfl (hm_g11 hk3 (by omega)) (show _ < 6 by omega) (by decide) ?_
          refine cx_top (if_pos (by omega)) ?_
          refine hk_iload dX9_deposit_69 rfl rfl ?_
          refine hk_aload_n dX9_deposit_71 rfl rfl rfl ?_
          refine hk_getf dX9_deposit_72 rfl fl_X9_20 (hm_g0 hk3) rfl ?_
          refine hk_iload dX9_deposit_75 rfl rfl ?_
          refine hx_iald dX9_deposit_77 rfl (hm_g1 hk3) (show _ < 2 by omega) (by decide) ?_
          refine hk_imul dX9_deposit_78 rfl ?_
          refine hk_iadd dX9_deposit_79 rfl ?_
          refine hx_iast dX9_deposit_80 rfl (hm_g11 hk3 (by omega)) (show _ < 6 by omega) (by decide) ?_
          refine hx_cg (hm_v19 hk3 (by omega) (by omega)) ?_
          refine hk_aload_n dX9_deposit_81 rfl rfl rfl ?_
          refine hk_getf dX9_deposit_82 rfl fl_X9_35 (hm_g0 hk3) rfl ?_
          refine hk_iload_n dX9_deposit_85 rfl rfl rfl ?_
          refine hx_aaldI dX9_deposit_86 rfl (hm_g10 hk3) (show _ < 6 by omega) (by decide) (if_pos (show _ < 6 by omega)) ?_
          refine hk_iload_n dX9_deposit_87 rfl rfl rfl ?_
          refine hx_iald dX9_deposit_88 rfl (hm_g11 hk3 (by omega)) (show _ < 6 by omega) (by decide) ?_
          refine cx_top (if_pos (by omega)) ?_
          exact hk_ireturn rfl (rfl) dX9_deposit_89 (by have ez : cd_deposit S c nc (nI a) (nI b2) mt (nI k2) = 0 := (by rw [cd_deposit_eq hc, hng, vaa, vak2]; exact if_pos hle); simp only [cs_deposit, cs_cadd, cs_pay, vaa, vab2, vak2]; exact ⟨_, rfl, g3, x3, Or.inl ⟨by rw [ez]; rfl, rfl, A, hm_mt M (nI 0), rfl, hm_mt0, okg, hk3, rfl⟩⟩)
        · exact absurd z48 (by decide)
      · rw [if_neg (by rw [hln]; omega)]
        refine hk_astoreN dX9_deposit_32 rfl (by decide) rfl ?_
        refine hk_aload_n dX9_deposit_34 rfl rfl rfl ?_
        refine hk_aloadN dX9_deposit_35 rfl rfl ?_
        refine hk_ifnonnull_f dX9_deposit_37 rfl ?_
        refine hk_iconst (v := nI 4) dX9_deposit_40 rfl (by decide) ?_
        refine hk_goto (tgt := 45) dX9_deposit_41 (by decide) ?_
        refine hk_callV dX9_deposit_45 rfl mv_X9_80 (cm_isWrong (k := 4) hfl (by decide) hkg) rfl rfl (hm_g0 hkg) rfl rfl (by decide) ⟨Nat.zero_le _, Nat.zero_le _⟩ (Nat.le_of_ble_eq_true rfl) (hk_ki fun v h1 q => ?_) hk_nx
        obtain ⟨rfl, rfl⟩ := q
        try rw [hm_mt_mt]
        refine cx_ifb_eq (tgt := 53) dX9_deposit_48 (by decide) rfl (fun z48 => ?_) (fun z48 => ?_)
        · exact absurd z48 (by decide)
        · skip
          refine hk_iconst (v := nI 0) dX9_deposit_51 rfl (by decide) ?_
          exact hk_ireturn rfl (rfl) dX9_deposit_52 (by have e : cd_deposit S c nc (nI a) (nI b2) mt (nI k2) = 4 := (by rw [cd_deposit_eq hc, hng, vaa, vak2]; exact if_neg hle); exact ⟨_, rfl, g2, hG.1, Or.inr ⟨by rw [e]; decide, A, hm_mt M (nI 4), rfl, by rw [e]; exact hm_mt0, ok, hkg, rfl⟩⟩)
  · skip
    refine hk_iconst (v := nI 0) dX9_deposit_13 rfl (by decide) ?_
    exact hk_ireturn rfl (rfl) dX9_deposit_14 (by have h0 : 0 < cd_ng S c 1 v t mt q := of_decide_eq_true z10; have ez : ml_tr [1, 2, 3, 4] (cd_deposit S c nc v t mt q) = cd_ng S c 1 v t mt q := (by rw [cd_deposit_eq hc, cs_sq_n (by omega)]; exact ml_tr4 (Nat.le_trans cd_ng_le (by omega))); exact ⟨_, rfl, g, hm_x.rf, Or.inr ⟨by rw [ez]; omega, A, hm_mt M (nI (cd_ng S c 1 v t mt q)), rfl, by rw [ez]; exact hm_mt0, ok, hk, rfl⟩⟩)
end CM11

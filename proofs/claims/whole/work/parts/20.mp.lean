section CM2
variable {G : hk_G} {l : Launch} {S : hs_S} {c nc nb m : Nat} {thr : Int32} {g h : hk_H}
theorem hm_mt0 {M : hm_M} {v : Int32} : (hm_mt M v).1 0 = v := by
  show ha_up M.1 0 v 0 = v
  exact ha_up_eq
theorem cd_D_nI {x y : Nat} (hx : x < 2 ^ 31) (hy : y < 2 ^ 31) : cd_D (nI x) (nI y) = if x = y then 2 else 0 := by
  unfold cd_D
  by_cases e : x = y
  · rw [if_pos e, e, if_pos rfl]
  · rw [if_neg e, if_neg (fun q => e ((nI_eq hx hy).mp q))]
theorem cd_D_nI2 {x y : Nat} (hx : x < 2 ^ 31) (hy : y < 2 ^ 31) : cd_D (nI y) (nI x) = if x = y then 2 else 0 := by
  rw [cd_D_nI hy hx]
  by_cases e : x = y
  · rw [if_pos e, if_pos e.symm]
  · rw [if_neg e, if_neg (fun q => e q.symm)]
theorem cd_O_c {S : hs_S} {a : Nat} (h : cd_O S a = 3) : S.1 8 a = 0 := by
  unfold cd_O at h
  split at h
  · assumption
  · cases h
theorem cd_O_o {S : hs_S} {a : Nat} (h : cd_O S a = 0) : ¬ S.1 8 a = 0 := by
  unfold cd_O at h
  split at h
  · cases h
  · assumption
theorem cd_B_1 {S : hs_S} {M : hm_M} {A : Nat → Nat} {c nc nb a : Nat} (ok : hm_ok G S M A c nc nb) (ha : a < c) (h : hm_k S a = 98 ∨ cd_O S a = 3) : cd_B S a = 0 := if_pos ((hm_kb ok ha).mp (h.elim Or.inl (fun z => Or.inr (cd_O_c z))))
theorem cd_B_0 {S : hs_S} {M : hm_M} {A : Nat → Nat} {c nc nb a : Nat} (ok : hm_ok G S M A c nc nb) (ha : a < c) (h : ¬ hm_k S a = 98) (h2 : cd_O S a = 0) : cd_B S a = 2 := if_neg (fun z => ((hm_kb ok ha).mpr z).elim h (cd_O_o h2))
def ml_tr (l : List Nat) (k : Nat) : Nat := if k = 0 then 0 else l.idxOf k + 1
def hm_Wd (G : hk_G) (m : Nat) (S : hs_S) (c nc nb : Nat) (thr : Int32) (g h : hk_H) : Prop := ∃ (A : Nat → Nat) (M : hm_M), A 0 = m ∧ M.1 0 = thr ∧ hm_ok G S M A c nc nb ∧ ha_ok (hm_D S M) A g ∧ h = hm_h G S M A g
def ml_Q (G : hk_G) (m : Nat) (tc : Nat) (S : hs_S) (c nc nb : Nat) (S2 : hs_S) (c2 nc2 nb2 : Nat) (g : hk_H) (P : Prop) (h1 : hk_H) : Prop := ∃ g1 : hk_H, hm_x g g1 ∧ ((tc = 0 ∧ P ∧ hm_Wd G m S2 c2 nc2 nb2 (nI 0) g1 h1) ∨ (¬ tc = 0 ∧ hm_Wd G m S c nc nb (nI tc) g1 h1))
theorem cm_claim {v t : Int32} (hfl : l.stackTraces = false) (hw : hm_Wd G m S c nc nb thr g h) : hk_Ctr G l 8 yX9_claim cX9_claim 3 (some .int) 0 0 [.ref m, .int v, .int t] h (hk_qi fun rv h1 => ml_Q G m (ml_tr [1] (cd_claim c v t)) S c nc nb (S) (c) (nc) (nb) g (rv = S.1 19 (vN v * 6 + vN t)) h1) hk_no := by
  obtain ⟨A, M, rfl, rfl, ok, hk, rfl⟩ := hw
  have hc1 := ok.1.2.1
  have hc := ok.1.2.2
  have hnc := ok.2.1.2
  have hnb := ok.2.2.1.2
  refine hk_enter (by decide) hfl (Nat.le_of_ble_eq_true rfl) rfl ?_
  refine hk_aload_n dX9_claim_0 rfl rfl rfl ?_
  refine hk_aload_n dX9_claim_1 rfl rfl rfl ?_
  refine hk_iload_n dX9_claim_2 rfl rfl rfl ?_
  refine hk_callV dX9_claim_3 rfl mv_X9_84 (cm_isHouse hfl hk ok) rfl rfl (hm_g0 hk) rfl rfl (by decide) ⟨Nat.zero_le _, Nat.zero_le _⟩ (Nat.le_of_ble_eq_true rfl) (hk_ki fun v h1 q => ?_) hk_nx
  obtain ⟨rfl, rfl⟩ := q
  refine cx_ifb_eq (tgt := 21) dX9_claim_6 (by decide) rfl (fun z6 => ?_) (fun z6 => ?_)
  · have f6 : cd_H c v = 1 := cd_H_1 (of_decide_eq_false z6)
    refine hk_iconst (v := nI 1) dX9_claim_21 rfl (by decide) ?_
    refine hk_callV dX9_claim_22 rfl mv_X9_80 (cm_isWrong (k := 1) hfl (by decide) hk) rfl rfl (hm_g0 hk) rfl rfl (by decide) ⟨Nat.zero_le _, Nat.zero_le _⟩ (Nat.le_of_ble_eq_true rfl) (hk_ki fun v h1 q => ?_) hk_nx
    obtain ⟨rfl, rfl⟩ := q
    try rw [hm_mt_mt]
    refine cx_ifb_eq (tgt := 32) dX9_claim_25 (by decide) rfl (fun z25 => ?_) (fun z25 => ?_)
    · exact absurd z25 (by decide)
    · skip
      refine hk_iconst (v := nI 0) dX9_claim_28 rfl (by decide) ?_
      refine hk_goto (tgt := 40) dX9_claim_29 (by decide) ?_
      exact hk_ireturn rfl (rfl) dX9_claim_40 (by have e : cd_claim c v t = 1 := (by simp [cd_claim, cs_sq, f6]); exact ⟨_, rfl, g, hm_x.rf, Or.inr ⟨by rw [e]; decide, A, hm_mt M (nI 1), rfl, by rw [e]; exact hm_mt0, ok, hk, rfl⟩⟩)
  · have f6 : cd_H c v = 0 := of_decide_eq_true z6
    obtain ⟨a, ha, rfl⟩ := cd_H_of (by omega) f6
    have vaa : vN (nI a) = a := vN_nI (by omega)
    refine hk_aload_n dX9_claim_9 rfl rfl rfl ?_
    refine hk_iload_n dX9_claim_10 rfl rfl rfl ?_
    refine hk_callV dX9_claim_11 rfl mv_X9_84 (cm_isHouse hfl hk ok) rfl rfl (hm_g0 hk) rfl rfl (by decide) ⟨Nat.zero_le _, Nat.zero_le _⟩ (Nat.le_of_ble_eq_true rfl) (hk_ki fun v h1 q => ?_) hk_nx
    obtain ⟨rfl, rfl⟩ := q
    refine cx_ifb_eq (tgt := 21) dX9_claim_14 (by decide) rfl (fun z14 => ?_) (fun z14 => ?_)
    · have f14 : cd_H c t = 1 := cd_H_1 (of_decide_eq_false z14)
      refine hk_iconst (v := nI 1) dX9_claim_21 rfl (by decide) ?_
      refine hk_callV dX9_claim_22 rfl mv_X9_80 (cm_isWrong (k := 1) hfl (by decide) hk) rfl rfl (hm_g0 hk) rfl rfl (by decide) ⟨Nat.zero_le _, Nat.zero_le _⟩ (Nat.le_of_ble_eq_true rfl) (hk_ki fun v h1 q => ?_) hk_nx
      obtain ⟨rfl, rfl⟩ := q
      try rw [hm_mt_mt]
      refine cx_ifb_eq (tgt := 32) dX9_claim_25 (by decide) rfl (fun z25 => ?_) (fun z25 => ?_)
      · exact absurd z25 (by decide)
      · skip
        refine hk_iconst (v := nI 0) dX9_claim_28 rfl (by decide) ?_
        refine hk_goto (tgt := 40) dX9_claim_29 (by decide) ?_
        exact hk_ireturn rfl (rfl) dX9_claim_40 (by have e : cd_claim c (nI a) t = 1 := (by simp [cd_claim, cs_sq, f6, vaa, f14]); exact ⟨_, rfl, g, hm_x.rf, Or.inr ⟨by rw [e]; decide, A, hm_mt M (nI 1), rfl, by rw [e]; exact hm_mt0, ok, hk, rfl⟩⟩)
    · have f14 : cd_H c t = 0 := of_decide_eq_true z14
      obtain ⟨b2, hb2, rfl⟩ := cd_H_of (by omega) f14
      have vab2 : vN (nI b2) = b2 := vN_nI (by omega)
      refine hk_iconst (v := nI 0) dX9_claim_17 rfl (by decide) ?_
      refine hk_goto (tgt := 22) dX9_claim_18 (by decide) ?_
      refine hk_callV dX9_claim_22 rfl mv_X9_80 (cm_isWrong (k := 0) hfl (by decide) hk) rfl rfl (hm_g0 hk) rfl rfl (by decide) ⟨Nat.zero_le _, Nat.zero_le _⟩ (Nat.le_of_ble_eq_true rfl) (hk_ki fun v h1 q => ?_) hk_nx
      obtain ⟨rfl, rfl⟩ := q
      try rw [hm_mt_mt]
      refine cx_ifb_eq (tgt := 32) dX9_claim_25 (by decide) rfl (fun z25 => ?_) (fun z25 => ?_)
      · skip
        refine hk_aload_n dX9_claim_32 rfl rfl rfl ?_
        refine hk_getf dX9_claim_33 rfl fl_X9_35 (hm_g0 hk) rfl ?_
        refine hk_iload_n dX9_claim_36 rfl rfl rfl ?_
        refine hx_aaldI dX9_claim_37 rfl (hm_g10 hk) (show _ < 6 by omega) (by decide) (if_pos (show _ < 6 by omega)) ?_
        refine hk_iload_n dX9_claim_38 rfl rfl rfl ?_
        refine hx_iald dX9_claim_39 rfl (hm_g11 hk (by omega)) (show _ < 6 by omega) (by decide) ?_
        refine cx_top (if_pos (by omega)) ?_
        exact hk_ireturn rfl (rfl) dX9_claim_40 (by have e : cd_claim c (nI a) (nI b2) = 0 := (by simp [cd_claim, cs_sq, f6, vaa, f14, vab2]); exact ⟨_, rfl, g, hm_x.rf, Or.inl ⟨by rw [e]; rfl, by simp only [vaa, vab2], A, hm_mt M (nI 0), rfl, hm_mt0, ok, hk, rfl⟩⟩)
      · exact absurd z25 (by decide)
theorem cm_ore {v mt : Int32} (hfl : l.stackTraces = false) (hw : hm_Wd G m S c nc nb thr g h) : hk_Ctr G l 8 yX9_ore cX9_ore 3 (some .int) 0 0 [.ref m, .int v, .int mt] h (hk_qi fun rv h1 => ml_Q G m (ml_tr [1, 2] (cd_HM c v mt)) S c nc nb (S) (c) (nc) (nb) g (rv = S.1 12 (vN v * 2 + cs_m mt)) h1) hk_no := by
  obtain ⟨A, M, rfl, rfl, ok, hk, rfl⟩ := hw
  have hc1 := ok.1.2.1
  have hc := ok.1.2.2
  have hnc := ok.2.1.2
  have hnb := ok.2.2.1.2
  refine hk_enter (by decide) hfl (Nat.le_of_ble_eq_true rfl) rfl ?_
  refine hk_aload_n dX9_ore_0 rfl rfl rfl ?_
  refine hk_aload_n dX9_ore_1 rfl rfl rfl ?_
  refine hk_iload_n dX9_ore_2 rfl rfl rfl ?_
  refine hk_callV dX9_ore_3 rfl mv_X9_84 (cm_isHouse hfl hk ok) rfl rfl (hm_g0 hk) rfl rfl (by decide) ⟨Nat.zero_le _, Nat.zero_le _⟩ (Nat.le_of_ble_eq_true rfl) (hk_ki fun v h1 q => ?_) hk_nx
  obtain ⟨rfl, rfl⟩ := q
  refine cx_ifb_ne (tgt := 13) dX9_ore_6 (by decide) rfl (fun z6 => ?_) (fun z6 => ?_)
  · have f6 : cd_H c v = 0 := of_decide_eq_true z6
    obtain ⟨a, ha, rfl⟩ := cd_H_of (by omega) f6
    have vaa : vN (nI a) = a := vN_nI (by omega)
    refine hk_iload_n dX9_ore_13 rfl rfl rfl ?_
    refine hk_callS dX9_ore_14 rfl ms_X9_87 (cm_isMetal hfl) rfl rfl (by decide) ⟨Nat.zero_le _, Nat.zero_le _⟩ (Nat.le_of_ble_eq_true rfl) (hk_ki fun v h1 q => ?_) hk_nx
    obtain ⟨rfl, rfl⟩ := q
    refine cx_ifb_ne (tgt := 24) dX9_ore_17 (by decide) rfl (fun z17 => ?_) (fun z17 => ?_)
    · have f17 : cd_M mt = 0 := of_decide_eq_true z17
      refine hk_iconst (v := nI 0) dX9_ore_24 rfl (by decide) ?_
      refine hk_callV dX9_ore_25 rfl mv_X9_80 (cm_isWrong (k := 0) hfl (by decide) hk) rfl rfl (hm_g0 hk) rfl rfl (by decide) ⟨Nat.zero_le _, Nat.zero_le _⟩ (Nat.le_of_ble_eq_true rfl) (hk_ki fun v h1 q => ?_) hk_nx
      obtain ⟨rfl, rfl⟩ := q
      try rw [hm_mt_mt]
      refine cx_ifb_eq (tgt := 35) dX9_ore_28 (by decide) rfl (fun z28 => ?_) (fun z28 => ?_)
      · skip
        have hm := cs_m_lt mt
        refine hk_aload_n dX9_ore_35 rfl rfl rfl ?_
        refine hk_getf dX9_ore_36 rfl fl_X9_29 (hm_g0 hk) rfl ?_
        refine hk_iload_n dX9_ore_39 rfl rfl rfl ?_
        refine hx_aaldI dX9_ore_40 rfl (hm_g3 hk) (show _ < 6 by omega) (by decide) (if_pos (show _ < 6 by omega)) ?_
        refine hk_ldcS rfl dX9_ore_41 rfl ?_
        refine hk_iload_n dX9_ore_43 rfl rfl rfl ?_
        refine hk_callJ dX9_ore_44 rfl mv_X9_74 (cj_io hfl) rfl rfl (fun U H z => z.2.2.2.1.2.2.1) (by decide) ⟨Nat.zero_le _, Nat.zero_le _⟩ (Nat.le_of_ble_eq_true rfl) (hk_ki fun v h1 q => ?_) hk_nx
        obtain ⟨rfl, rfl⟩ := q
        refine cx_top (cs_ixm f17) ?_
        refine hx_iald dX9_ore_47 rfl (hm_g4 hk (by omega)) (show _ < 2 by omega) (by decide) ?_
        refine cx_top (if_pos (by omega)) ?_
        exact hk_ireturn rfl (rfl) dX9_ore_48 (by have e : cd_HM c (nI a) mt = 0 := (by simp [cd_HM, cs_sq, f6, vaa, f17]); exact ⟨_, rfl, g, hm_x.rf, Or.inl ⟨by rw [e]; rfl, by simp only [vaa], A, hm_mt M (nI 0), rfl, hm_mt0, ok, hk, rfl⟩⟩)
      · exact absurd z28 (by decide)
    · have f17 : cd_M mt = 2 := cd_M_2 (of_decide_eq_false z17)
      refine hk_iconst (v := nI 2) dX9_ore_20 rfl (by decide) ?_
      refine hk_goto (tgt := 25) dX9_ore_21 (by decide) ?_
      refine hk_callV dX9_ore_25 rfl mv_X9_80 (cm_isWrong (k := 2) hfl (by decide) hk) rfl rfl (hm_g0 hk) rfl rfl (by decide) ⟨Nat.zero_le _, Nat.zero_le _⟩ (Nat.le_of_ble_eq_true rfl) (hk_ki fun v h1 q => ?_) hk_nx
      obtain ⟨rfl, rfl⟩ := q
      try rw [hm_mt_mt]
      refine cx_ifb_eq (tgt := 35) dX9_ore_28 (by decide) rfl (fun z28 => ?_) (fun z28 => ?_)
      · exact absurd z28 (by decide)
      · skip
        refine hk_iconst (v := nI 0) dX9_ore_31 rfl (by decide) ?_
        refine hk_goto (tgt := 48) dX9_ore_32 (by decide) ?_
        exact hk_ireturn rfl (rfl) dX9_ore_48 (by have e : cd_HM c (nI a) mt = 2 := (by simp [cd_HM, cs_sq, f6, vaa, f17]); exact ⟨_, rfl, g, hm_x.rf, Or.inr ⟨by rw [e]; decide, A, hm_mt M (nI 2), rfl, by rw [e]; exact hm_mt0, ok, hk, rfl⟩⟩)
  · have f6 : cd_H c v = 1 := cd_H_1 (of_decide_eq_false z6)
    refine hk_iconst (v := nI 1) dX9_ore_9 rfl (by decide) ?_
    refine hk_goto (tgt := 25) dX9_ore_10 (by decide) ?_
    refine hk_callV dX9_ore_25 rfl mv_X9_80 (cm_isWrong (k := 1) hfl (by decide) hk) rfl rfl (hm_g0 hk) rfl rfl (by decide) ⟨Nat.zero_le _, Nat.zero_le _⟩ (Nat.le_of_ble_eq_true rfl) (hk_ki fun v h1 q => ?_) hk_nx
    obtain ⟨rfl, rfl⟩ := q
    try rw [hm_mt_mt]
    refine cx_ifb_eq (tgt := 35) dX9_ore_28 (by decide) rfl (fun z28 => ?_) (fun z28 => ?_)
    · exact absurd z28 (by decide)
    · skip
      refine hk_iconst (v := nI 0) dX9_ore_31 rfl (by decide) ?_
      refine hk_goto (tgt := 48) dX9_ore_32 (by decide) ?_
      exact hk_ireturn rfl (rfl) dX9_ore_48 (by have e : cd_HM c v mt = 1 := (by simp [cd_HM, cs_sq, f6]); exact ⟨_, rfl, g, hm_x.rf, Or.inr ⟨by rw [e]; decide, A, hm_mt M (nI 1), rfl, by rw [e]; exact hm_mt0, ok, hk, rfl⟩⟩)
theorem cm_kindOf {v : Int32} (hfl : l.stackTraces = false) (hw : hm_Wd G m S c nc nb thr g h) : hk_Ctr G l 9 yX9_kindOf cX9_kindOf 2 (some .char) 0 0 [.ref m, .int v] h (hk_qi fun rv h1 => ml_Q G m (ml_tr [1] (cd_H c v)) S c nc nb (S) (c) (nc) (nb) g (rv = cs_kindOf S (vN v)) h1) hk_no := by
  obtain ⟨A, M, rfl, rfl, ok, hk, rfl⟩ := hw
  have hc1 := ok.1.2.1
  have hc := ok.1.2.2
  have hnc := ok.2.1.2
  have hnb := ok.2.2.1.2
  refine hk_enter (by decide) hfl (Nat.le_of_ble_eq_true rfl) rfl ?_
  refine hk_aload_n dX9_kindOf_0 rfl rfl rfl ?_
  refine hk_aload_n dX9_kindOf_1 rfl rfl rfl ?_
  refine hk_iload_n dX9_kindOf_2 rfl rfl rfl ?_
  refine hk_callV dX9_kindOf_3 rfl mv_X9_84 (cm_isHouse hfl hk ok) rfl rfl (hm_g0 hk) rfl rfl (by decide) ⟨Nat.zero_le _, Nat.zero_le _⟩ (Nat.le_of_ble_eq_true rfl) (hk_ki fun v h1 q => ?_) hk_nx
  obtain ⟨rfl, rfl⟩ := q
  refine cx_ifb_eq (tgt := 13) dX9_kindOf_6 (by decide) rfl (fun z6 => ?_) (fun z6 => ?_)
  · have f6 : cd_H c v = 1 := cd_H_1 (of_decide_eq_false z6)
    refine hk_iconst (v := nI 1) dX9_kindOf_13 rfl (by decide) ?_
    refine hk_callV dX9_kindOf_14 rfl mv_X9_80 (cm_isWrong (k := 1) hfl (by decide) hk) rfl rfl (hm_g0 hk) rfl rfl (by decide) ⟨Nat.zero_le _, Nat.zero_le _⟩ (Nat.le_of_ble_eq_true rfl) (hk_ki fun v h1 q => ?_) hk_nx
    obtain ⟨rfl, rfl⟩ := q
    try rw [hm_mt_mt]
    refine cx_ifb_eq (tgt := 24) dX9_kindOf_17 (by decide) rfl (fun z17 => ?_) (fun z17 => ?_)
    · exact absurd z17 (by decide)
    · skip
      refine hk_iconst (v := nI 0) dX9_kindOf_20 rfl (by decide) ?_
      refine hk_goto (tgt := 40) dX9_kindOf_21 (by decide) ?_
      exact hk_ireturn rfl (by first | rfl | exact nar_ch (by have := hm_kl ok ha; omega)) dX9_kindOf_40 (by have e : cd_H c v = 1 := f6; exact ⟨_, rfl, g, hm_x.rf, Or.inr ⟨by rw [e]; decide, A, hm_mt M (nI 1), rfl, by rw [e]; exact hm_mt0, ok, hk, rfl⟩⟩)
  · have f6 : cd_H c v = 0 := of_decide_eq_true z6
    obtain ⟨a, ha, rfl⟩ := cd_H_of (by omega) f6
    have vaa : vN (nI a) = a := vN_nI (by omega)
    refine hk_iconst (v := nI 0) dX9_kindOf_9 rfl (by decide) ?_
    refine hk_goto (tgt := 14) dX9_kindOf_10 (by decide) ?_
    refine hk_callV dX9_kindOf_14 rfl mv_X9_80 (cm_isWrong (k := 0) hfl (by decide) hk) rfl rfl (hm_g0 hk) rfl rfl (by decide) ⟨Nat.zero_le _, Nat.zero_le _⟩ (Nat.le_of_ble_eq_true rfl) (hk_ki fun v h1 q => ?_) hk_nx
    obtain ⟨rfl, rfl⟩ := q
    try rw [hm_mt_mt]
    refine cx_ifb_eq (tgt := 24) dX9_kindOf_17 (by decide) rfl (fun z17 => ?_) (fun z17 => ?_)
    · skip
      have hki := hm_ki ok ha
      have hkk := (ok.2.2.2.2.1.2 a ha).2
      refine hk_aload_n dX9_kindOf_24 rfl rfl rfl ?_
      refine hk_getf dX9_kindOf_25 rfl fl_X9_16 (hm_g0 hk) rfl ?_
      refine hk_iload_n dX9_kindOf_28 rfl rfl rfl ?_
      refine hk_callF dX9_kindOf_29 rfl mf_X9_64 (cj_get hfl (hm_l0 hk ok) (hm_r (i := 0) hk ok (by omega) ok.2.2.2.2.1.1) (by omega) (by rw [← hm_n0 ok]; exact (hm_cap ok ok.2.2.2.2.1.1).1) (Nat.lt_of_le_of_lt (hm_cap ok ok.2.2.2.2.1.1).2.2 (by decide)) (hm_kg ok (by omega))) rfl rfl (hm_l0 hk ok) rfl rfl (by decide) ⟨Nat.zero_le _, Nat.zero_le _⟩ (Nat.le_of_ble_eq_true rfl) (hk_kr fun v h1 q => ?_) hk_nx
      obtain ⟨rfl, rfl⟩ := q
      refine hk_castJ dX9_kindOf_34 rfl (fun U H z => (z.2.1.2.2 _ (hm_kl ok (by omega))).1) kl_X9_45 ?_
      refine hk_callJ dX9_kindOf_37 rfl mv_X9_68 (cj_cc hfl (hm_kl ok (by omega))) rfl rfl (fun U H z => (z.2.1.2.2 _ (hm_kl ok (by omega))).1) (by decide) ⟨Nat.zero_le _, Nat.zero_le _⟩ (Nat.le_of_ble_eq_true rfl) (hk_ki fun v h1 q => ?_) hk_nx
      obtain ⟨rfl, rfl⟩ := q
      exact hk_ireturn rfl (by first | rfl | exact nar_ch (by have := hm_kl ok ha; omega)) dX9_kindOf_40 (by have e : cd_H c (nI a) = 0 := f6; exact ⟨_, rfl, g, hm_x.rf, Or.inl ⟨by rw [e]; rfl, by (obtain ⟨k, q1, q2, q3, q4⟩ := hkk); rw [vaa]; unfold cs_kindOf hm_k; by_cases q : S.1 8 a = 0; (rw [if_pos q, if_pos q]); (rw [if_neg q, if_neg q, q3, vN_nI (by omega)]), A, hm_mt M (nI 0), rfl, hm_mt0, ok, hk, rfl⟩⟩)
    · exact absurd z17 (by decide)
theorem cm_decree {mt v q : Int32} (hfl : l.stackTraces = false) (hw : hm_Wd G m S c nc nb thr g h) : hk_Ctr G l 8 yX9_decree cX9_decree 6 (some .int) 0 0 [.ref m, .int mt, .int v, .int q] h (hk_qi fun rv h1 => ml_Q G m (ml_tr [2] (cd_decree mt v q)) S c nc nb (cs_decree S mt v q) (c) (nc) (nb) g (rv = nI 100 * S.1 9 (cs_m mt) + S.1 10 (cs_m mt)) h1) hk_no := by
  obtain ⟨A, M, rfl, rfl, ok, hk, rfl⟩ := hw
  have hc1 := ok.1.2.1
  have hc := ok.1.2.2
  have hnc := ok.2.1.2
  have hnb := ok.2.2.1.2
  refine hk_enter (by decide) hfl (Nat.le_of_ble_eq_true rfl) rfl ?_
  refine hk_aload_n dX9_decree_0 rfl rfl rfl ?_
  refine hk_iload_n dX9_decree_1 rfl rfl rfl ?_
  refine hk_callS dX9_decree_2 rfl ms_X9_87 (cm_isMetal hfl) rfl rfl (by decide) ⟨Nat.zero_le _, Nat.zero_le _⟩ (Nat.le_of_ble_eq_true rfl) (hk_ki fun v h1 q => ?_) hk_nx
  obtain ⟨rfl, rfl⟩ := q
  refine cx_ifb_eq (tgt := 32) dX9_decree_5 (by decide) rfl (fun z5 => ?_) (fun z5 => ?_)
  · have f5 : cd_M mt = 2 := cd_M_2 (of_decide_eq_false z5)
    refine hk_iconst (v := nI 1) dX9_decree_32 rfl (by decide) ?_
    refine hk_callV dX9_decree_33 rfl mv_X9_80 (cm_isWrong (k := 1) hfl (by decide) hk) rfl rfl (hm_g0 hk) rfl rfl (by decide) ⟨Nat.zero_le _, Nat.zero_le _⟩ (Nat.le_of_ble_eq_true rfl) (hk_ki fun v h1 q => ?_) hk_nx
    obtain ⟨rfl, rfl⟩ := q
    try rw [hm_mt_mt]
    refine cx_ifb_eq (tgt := 41) dX9_decree_36 (by decide) rfl (fun z36 => ?_) (fun z36 => ?_)
    · exact absurd z36 (by decide)
    · skip
      refine hk_iconst (v := nI 0) dX9_decree_39 rfl (by decide) ?_
      exact hk_ireturn rfl (rfl) dX9_decree_40 (by have e : cd_decree mt v q = 2 := (by simp [cd_decree, cs_sq, f5]); exact ⟨_, rfl, g, hm_x.rf, Or.inr ⟨by rw [e]; decide, A, hm_mt M (nI 1), rfl, by rw [e]; exact hm_mt0, ok, hk, rfl⟩⟩)
  · have f5 : cd_M mt = 0 := of_decide_eq_true z5
    refine hk_iload_n dX9_decree_8 rfl rfl rfl ?_
    refine hk_iconst (v := nI 1) dX9_decree_9 rfl (by decide) ?_
    refine hk_bipush (v := nI 99) dX9_decree_10 rfl (by decide) ?_
    refine hk_callS dX9_decree_12 rfl ms_X9_60 (cm_isBetween hfl) rfl rfl (by decide) ⟨Nat.zero_le _, Nat.zero_le _⟩ (Nat.le_of_ble_eq_true rfl) (hk_ki fun v h1 q => ?_) hk_nx
    obtain ⟨rfl, rfl⟩ := q
    refine cx_top (congrArg cx_b (cs_bwR _ _)) ?_
    refine cx_ifb_eq (tgt := 32) dX9_decree_15 (by decide) rfl (fun z15 => ?_) (fun z15 => ?_)
    · have f15 : cd_R v 99 = 2 := cd_R_2 (of_decide_eq_false z15)
      refine hk_iconst (v := nI 1) dX9_decree_32 rfl (by decide) ?_
      refine hk_callV dX9_decree_33 rfl mv_X9_80 (cm_isWrong (k := 1) hfl (by decide) hk) rfl rfl (hm_g0 hk) rfl rfl (by decide) ⟨Nat.zero_le _, Nat.zero_le _⟩ (Nat.le_of_ble_eq_true rfl) (hk_ki fun v h1 q => ?_) hk_nx
      obtain ⟨rfl, rfl⟩ := q
      try rw [hm_mt_mt]
      refine cx_ifb_eq (tgt := 41) dX9_decree_36 (by decide) rfl (fun z36 => ?_) (fun z36 => ?_)
      · exact absurd z36 (by decide)
      · skip
        refine hk_iconst (v := nI 0) dX9_decree_39 rfl (by decide) ?_
        exact hk_ireturn rfl (rfl) dX9_decree_40 (by have e : cd_decree mt v q = 2 := (by simp [cd_decree, cs_sq, f5, f15]); exact ⟨_, rfl, g, hm_x.rf, Or.inr ⟨by rw [e]; decide, A, hm_mt M (nI 1), rfl, by rw [e]; exact hm_mt0, ok, hk, rfl⟩⟩)
    · have f15 : cd_R v 99 = 0 := of_decide_eq_true z15
      refine hk_iload_n dX9_decree_18 rfl rfl rfl ?_
      refine hk_iconst (v := nI 1) dX9_decree_19 rfl (by decide) ?_
      refine hk_bipush (v := nI 9) dX9_decree_20 rfl (by decide) ?_
      refine hk_callS dX9_decree_22 rfl ms_X9_60 (cm_isBetween hfl) rfl rfl (by decide) ⟨Nat.zero_le _, Nat.zero_le _⟩ (Nat.le_of_ble_eq_true rfl) (hk_ki fun v h1 q => ?_) hk_nx
      obtain ⟨rfl, rfl⟩ := q
      refine cx_top (congrArg cx_b (cs_bwR _ _)) ?_
      refine cx_ifb_eq (tgt := 32) dX9_decree_25 (by decide) rfl (fun z25 => ?_) (fun z25 => ?_)
      · have f25 : cd_R q 9 = 2 := cd_R_2 (of_decide_eq_false z25)
        refine hk_iconst (v := nI 1) dX9_decree_32 rfl (by decide) ?_
        refine hk_callV dX9_decree_33 rfl mv_X9_80 (cm_isWrong (k := 1) hfl (by decide) hk) rfl rfl (hm_g0 hk) rfl rfl (by decide) ⟨Nat.zero_le _, Nat.zero_le _⟩ (Nat.le_of_ble_eq_true rfl) (hk_ki fun v h1 q => ?_) hk_nx
        obtain ⟨rfl, rfl⟩ := q
        try rw [hm_mt_mt]
        refine cx_ifb_eq (tgt := 41) dX9_decree_36 (by decide) rfl (fun z36 => ?_) (fun z36 => ?_)
        · exact absurd z36 (by decide)
        · skip
          refine hk_iconst (v := nI 0) dX9_decree_39 rfl (by decide) ?_
          exact hk_ireturn rfl (rfl) dX9_decree_40 (by have e : cd_decree mt v q = 2 := (by simp [cd_decree, cs_sq, f5, f15, f25]); exact ⟨_, rfl, g, hm_x.rf, Or.inr ⟨by rw [e]; decide, A, hm_mt M (nI 1), rfl, by rw [e]; exact hm_mt0, ok, hk, rfl⟩⟩)
      · have f25 : cd_R q 9 = 0 := of_decide_eq_true z25
        refine hk_iconst (v := nI 0) dX9_decree_28 rfl (by decide) ?_
        refine hk_goto (tgt := 33) dX9_decree_29 (by decide) ?_
        refine hk_callV dX9_decree_33 rfl mv_X9_80 (cm_isWrong (k := 0) hfl (by decide) hk) rfl rfl (hm_g0 hk) rfl rfl (by decide) ⟨Nat.zero_le _, Nat.zero_le _⟩ (Nat.le_of_ble_eq_true rfl) (hk_ki fun v h1 q => ?_) hk_nx
        obtain ⟨rfl, rfl⟩ := q
        try rw [hm_mt_mt]
        refine cx_ifb_eq (tgt := 41) dX9_decree_36 (by decide) rfl (fun z36 => ?_) (fun z36 => ?_)
        · skip
          have hm := cs_m_lt mt
          refine hk_ldcS rfl dX9_decree_41 rfl ?_
          refine hk_iload_n dX9_decree_43 rfl rfl rfl ?_
          refine hk_callJ dX9_decree_44 rfl mv_X9_74 (cj_io hfl) rfl rfl (fun U H z => z.2.2.2.1.2.2.1) (by decide) ⟨Nat.zero_le _, Nat.zero_le _⟩ (Nat.le_of_ble_eq_true rfl) (hk_ki fun v h1 q => ?_) hk_nx
          obtain ⟨rfl, rfl⟩ := q
          refine cx_top (cs_ixm f5) ?_
          refine hk_istore dX9_decree_47 rfl (by decide) rfl ?_
          refine hk_bipush (v := nI 100) dX9_decree_49 rfl (by decide) ?_
          refine hk_aload_n dX9_decree_51 rfl rfl rfl ?_
          refine hk_getf dX9_decree_52 rfl fl_X9_20 (hm_g0 hk) rfl ?_
          refine hk_iload dX9_decree_55 rfl rfl ?_
          refine hx_iald dX9_decree_57 rfl (hm_g1 hk) (show _ < 2 by omega) (by decide) ?_
          refine hk_imul dX9_decree_58 rfl ?_
          refine hk_aload_n dX9_decree_59 rfl rfl rfl ?_
          refine hk_getf dX9_decree_60 rfl fl_X9_24 (hm_g0 hk) rfl ?_
          refine hk_iload dX9_decree_63 rfl rfl ?_
          refine hx_iald dX9_decree_65 rfl (hm_g2 hk) (show _ < 2 by omega) (by decide) ?_
          refine hk_iadd dX9_decree_66 rfl ?_
          refine hk_istore dX9_decree_67 rfl (by decide) rfl ?_
          refine hk_aload_n dX9_decree_69 rfl rfl rfl ?_
          refine hk_getf dX9_decree_70 rfl fl_X9_20 (hm_g0 hk) rfl ?_
          refine hk_iload dX9_decree_73 rfl rfl ?_
          refine hk_iload_n dX9_decree_75 rfl rfl rfl ?_
          refine hx_iast dX9_decree_76 rfl (hm_g1 hk) (show _ < 2 by omega) (by decide) ?_
          refine hx_cg (hm_v9 hk) ?_
          refine hk_aload_n dX9_decree_77 rfl rfl rfl ?_
          refine hk_getf dX9_decree_78 rfl fl_X9_24 (hm_g0 hk) rfl ?_
          refine hk_iload dX9_decree_81 rfl rfl ?_
          refine hk_iload_n dX9_decree_83 rfl rfl rfl ?_
          refine hx_iast dX9_decree_84 rfl (hm_g2 hk) (show _ < 2 by omega) (by decide) ?_
          refine hx_cg (hm_v10 hk) ?_
          refine hk_iload dX9_decree_85 rfl rfl ?_
          exact hk_ireturn rfl (rfl) dX9_decree_87 (by have e : cd_decree mt v q = 0 := (by simp [cd_decree, cs_sq, f5, f15, f25]); exact ⟨_, rfl, g, hm_x.rf, Or.inl ⟨by rw [e]; rfl, rfl, A, hm_mt M (nI 0), rfl, hm_mt0, ok, hk, rfl⟩⟩)
        · exact absurd z36 (by decide)
theorem cm_dig {v mt q : Int32} (hfl : l.stackTraces = false) (hw : hm_Wd G m S c nc nb thr g h) : hk_Ctr G l 8 yX9_dig cX9_dig 4 (some .int) 0 0 [.ref m, .int v, .int mt, .int q] h (hk_qi fun rv h1 => ml_Q G m (ml_tr [1, 2, 3] (cd_dig S c v mt q)) S c nc nb (cs_dig S v mt q) (c) (nc) (nb) g (rv = (cs_dig S v mt q).1 12 (vN v * 2 + cs_m mt)) h1) hk_no := by
  obtain ⟨A, M, rfl, rfl, ok, hk, rfl⟩ := hw
  have hc1 := ok.1.2.1
  have hc := ok.1.2.2
  have hnc := ok.2.1.2
  have hnb := ok.2.2.1.2
  refine hk_enter (by decide) hfl (Nat.le_of_ble_eq_true rfl) rfl ?_
  refine hk_aload_n dX9_dig_0 rfl rfl rfl ?_
  refine hk_aload_n dX9_dig_1 rfl rfl rfl ?_
  refine hk_iload_n dX9_dig_2 rfl rfl rfl ?_
  refine hk_callV dX9_dig_3 rfl mv_X9_84 (cm_isHouse hfl hk ok) rfl rfl (hm_g0 hk) rfl rfl (by decide) ⟨Nat.zero_le _, Nat.zero_le _⟩ (Nat.le_of_ble_eq_true rfl) (hk_ki fun v h1 q => ?_) hk_nx
  obtain ⟨rfl, rfl⟩ := q
  refine cx_ifb_ne (tgt := 13) dX9_dig_6 (by decide) rfl (fun z6 => ?_) (fun z6 => ?_)
  · have f6 : cd_H c v = 0 := of_decide_eq_true z6
    obtain ⟨a, ha, rfl⟩ := cd_H_of (by omega) f6
    have vaa : vN (nI a) = a := vN_nI (by omega)
    refine hk_iload_n dX9_dig_13 rfl rfl rfl ?_
    refine hk_callS dX9_dig_14 rfl ms_X9_87 (cm_isMetal hfl) rfl rfl (by decide) ⟨Nat.zero_le _, Nat.zero_le _⟩ (Nat.le_of_ble_eq_true rfl) (hk_ki fun v h1 q => ?_) hk_nx
    obtain ⟨rfl, rfl⟩ := q
    refine cx_ifb_eq (tgt := 30) dX9_dig_17 (by decide) rfl (fun z17 => ?_) (fun z17 => ?_)
    · have f17 : cd_M mt = 2 := cd_M_2 (of_decide_eq_false z17)
      refine hk_iconst (v := nI 2) dX9_dig_30 rfl (by decide) ?_
      refine hk_goto (tgt := 47) dX9_dig_31 (by decide) ?_
      refine hk_callV dX9_dig_47 rfl mv_X9_80 (cm_isWrong (k := 2) hfl (by decide) hk) rfl rfl (hm_g0 hk) rfl rfl (by decide) ⟨Nat.zero_le _, Nat.zero_le _⟩ (Nat.le_of_ble_eq_true rfl) (hk_ki fun v h1 q => ?_) hk_nx
      obtain ⟨rfl, rfl⟩ := q
      try rw [hm_mt_mt]
      refine cx_ifb_eq (tgt := 55) dX9_dig_50 (by decide) rfl (fun z50 => ?_) (fun z50 => ?_)
      · exact absurd z50 (by decide)
      · skip
        refine hk_iconst (v := nI 0) dX9_dig_53 rfl (by decide) ?_
        exact hk_ireturn rfl (rfl) dX9_dig_54 (by have e : cd_dig S c (nI a) mt q = 2 := (by simp [cd_dig, cs_sq, f6, vaa, f17]); exact ⟨_, rfl, g, hm_x.rf, Or.inr ⟨by rw [e]; decide, A, hm_mt M (nI 2), rfl, by rw [e]; exact hm_mt0, ok, hk, rfl⟩⟩)
    · have f17 : cd_M mt = 0 := of_decide_eq_true z17
      refine hk_iload_n dX9_dig_20 rfl rfl rfl ?_
      refine hk_iconst (v := nI 1) dX9_dig_21 rfl (by decide) ?_
      refine hk_bipush (v := nI 99) dX9_dig_22 rfl (by decide) ?_
      refine hk_callS dX9_dig_24 rfl ms_X9_60 (cm_isBetween hfl) rfl rfl (by decide) ⟨Nat.zero_le _, Nat.zero_le _⟩ (Nat.le_of_ble_eq_true rfl) (hk_ki fun v h1 q => ?_) hk_nx
      obtain ⟨rfl, rfl⟩ := q
      refine cx_top (congrArg cx_b (cs_bwR _ _)) ?_
      refine cx_ifb_ne (tgt := 34) dX9_dig_27 (by decide) rfl (fun z27 => ?_) (fun z27 => ?_)
      · have f27 : cd_R q 99 = 0 := of_decide_eq_true z27
        refine hk_aload_n dX9_dig_34 rfl rfl rfl ?_
        refine hk_iload_n dX9_dig_35 rfl rfl rfl ?_
        refine hk_callV dX9_dig_36 rfl mv_X9_91 (cm_hasFailed hfl hk ok (by omega)) rfl rfl (hm_g0 hk) rfl rfl (by decide) ⟨Nat.zero_le _, Nat.zero_le _⟩ (Nat.le_of_ble_eq_true rfl) (hk_ki fun v h1 q => ?_) hk_nx
        obtain ⟨rfl, rfl⟩ := q
        refine cx_ifb_eq (tgt := 46) dX9_dig_39 (by decide) rfl (fun z39 => ?_) (fun z39 => ?_)
        · have f39 : cd_O S a = 0 := Decidable.of_not_not (of_decide_eq_false z39)
          refine hk_iconst (v := nI 0) dX9_dig_46 rfl (by decide) ?_
          refine hk_callV dX9_dig_47 rfl mv_X9_80 (cm_isWrong (k := 0) hfl (by decide) hk) rfl rfl (hm_g0 hk) rfl rfl (by decide) ⟨Nat.zero_le _, Nat.zero_le _⟩ (Nat.le_of_ble_eq_true rfl) (hk_ki fun v h1 q => ?_) hk_nx
          obtain ⟨rfl, rfl⟩ := q
          try rw [hm_mt_mt]
          refine cx_ifb_eq (tgt := 55) dX9_dig_50 (by decide) rfl (fun z50 => ?_) (fun z50 => ?_)
          · skip
            have hm := cs_m_lt mt
            refine hk_aload_n dX9_dig_55 rfl rfl rfl ?_
            refine hk_getf dX9_dig_56 rfl fl_X9_29 (hm_g0 hk) rfl ?_
            refine hk_iload_n dX9_dig_59 rfl rfl rfl ?_
            refine hx_aaldI dX9_dig_60 rfl (hm_g3 hk) (show _ < 6 by omega) (by decide) (if_pos (show _ < 6 by omega)) ?_
            refine hk_ldcS rfl dX9_dig_61 rfl ?_
            refine hk_iload_n dX9_dig_63 rfl rfl rfl ?_
            refine hk_callJ dX9_dig_64 rfl mv_X9_74 (cj_io hfl) rfl rfl (fun U H z => z.2.2.2.1.2.2.1) (by decide) ⟨Nat.zero_le _, Nat.zero_le _⟩ (Nat.le_of_ble_eq_true rfl) (hk_ki fun v h1 q => ?_) hk_nx
            obtain ⟨rfl, rfl⟩ := q
            refine cx_top (cs_ixm f17) ?_
            refine hk_dup2 dX9_dig_67 rfl rfl rfl ?_
            refine hx_iald dX9_dig_68 rfl (hm_g4 hk (by omega)) (show _ < 2 by omega) (by decide) ?_
            refine cx_top (if_pos (by omega)) ?_
            refine hk_iload_n dX9_dig_69 rfl rfl rfl ?_
            refine hk_iadd dX9_dig_70 rfl ?_
            refine hx_iast dX9_dig_71 rfl (hm_g4 hk (by omega)) (show _ < 2 by omega) (by decide) ?_
            refine hx_cg (hm_v12 hk (by omega) (by omega)) ?_
            refine hk_aload_n dX9_dig_72 rfl rfl rfl ?_
            refine hk_getf dX9_dig_73 rfl fl_X9_29 (hm_g0 hk) rfl ?_
            refine hk_iload_n dX9_dig_76 rfl rfl rfl ?_
            refine hx_aaldI dX9_dig_77 rfl (hm_g3 hk) (show _ < 6 by omega) (by decide) (if_pos (show _ < 6 by omega)) ?_
            refine hk_ldcS rfl dX9_dig_78 rfl ?_
            refine hk_iload_n dX9_dig_80 rfl rfl rfl ?_
            refine hk_callJ dX9_dig_81 rfl mv_X9_74 (cj_io hfl) rfl rfl (fun U H z => z.2.2.2.1.2.2.1) (by decide) ⟨Nat.zero_le _, Nat.zero_le _⟩ (Nat.le_of_ble_eq_true rfl) (hk_ki fun v h1 q => ?_) hk_nx
            obtain ⟨rfl, rfl⟩ := q
            refine cx_top (cs_ixm f17) ?_
            refine hx_iald dX9_dig_84 rfl (hm_g4 hk (by omega)) (show _ < 2 by omega) (by decide) ?_
            refine cx_top (if_pos (by omega)) ?_
            exact hk_ireturn rfl (rfl) dX9_dig_85 (by have e : cd_dig S c (nI a) mt q = 0 := (by simp [cd_dig, cs_sq, f6, vaa, f17, f27, f39]); exact ⟨_, rfl, g, hm_x.rf, Or.inl ⟨by rw [e]; rfl, by simp only [cs_dig, vaa] <;> rfl, A, hm_mt M (nI 0), rfl, hm_mt0, ok, hk, by simp only [cs_dig, vaa] <;> rfl⟩⟩)
          · exact absurd z50 (by decide)
        · have f39 : cd_O S a = 3 := cd_O_3 (of_decide_eq_true z39)
          refine hk_iconst (v := nI 3) dX9_dig_42 rfl (by decide) ?_
          refine hk_goto (tgt := 47) dX9_dig_43 (by decide) ?_
          refine hk_callV dX9_dig_47 rfl mv_X9_80 (cm_isWrong (k := 3) hfl (by decide) hk) rfl rfl (hm_g0 hk) rfl rfl (by decide) ⟨Nat.zero_le _, Nat.zero_le _⟩ (Nat.le_of_ble_eq_true rfl) (hk_ki fun v h1 q => ?_) hk_nx
          obtain ⟨rfl, rfl⟩ := q
          try rw [hm_mt_mt]
          refine cx_ifb_eq (tgt := 55) dX9_dig_50 (by decide) rfl (fun z50 => ?_) (fun z50 => ?_)
          · exact absurd z50 (by decide)
          · skip
            refine hk_iconst (v := nI 0) dX9_dig_53 rfl (by decide) ?_
            exact hk_ireturn rfl (rfl) dX9_dig_54 (by have e : cd_dig S c (nI a) mt q = 3 := (by simp [cd_dig, cs_sq, f6, vaa, f17, f27, f39]); exact ⟨_, rfl, g, hm_x.rf, Or.inr ⟨by rw [e]; decide, A, hm_mt M (nI 3), rfl, by rw [e]; exact hm_mt0, ok, hk, rfl⟩⟩)
      · have f27 : cd_R q 99 = 2 := cd_R_2 (of_decide_eq_false z27)
        refine hk_iconst (v := nI 2) dX9_dig_30 rfl (by decide) ?_
        refine hk_goto (tgt := 47) dX9_dig_31 (by decide) ?_
        refine hk_callV dX9_dig_47 rfl mv_X9_80 (cm_isWrong (k := 2) hfl (by decide) hk) rfl rfl (hm_g0 hk) rfl rfl (by decide) ⟨Nat.zero_le _, Nat.zero_le _⟩ (Nat.le_of_ble_eq_true rfl) (hk_ki fun v h1 q => ?_) hk_nx
        obtain ⟨rfl, rfl⟩ := q
        try rw [hm_mt_mt]
        refine cx_ifb_eq (tgt := 55) dX9_dig_50 (by decide) rfl (fun z50 => ?_) (fun z50 => ?_)
        · exact absurd z50 (by decide)
        · skip
          refine hk_iconst (v := nI 0) dX9_dig_53 rfl (by decide) ?_
          exact hk_ireturn rfl (rfl) dX9_dig_54 (by have e : cd_dig S c (nI a) mt q = 2 := (by simp [cd_dig, cs_sq, f6, vaa, f17, f27]); exact ⟨_, rfl, g, hm_x.rf, Or.inr ⟨by rw [e]; decide, A, hm_mt M (nI 2), rfl, by rw [e]; exact hm_mt0, ok, hk, rfl⟩⟩)
  · have f6 : cd_H c v = 1 := cd_H_1 (of_decide_eq_false z6)
    refine hk_iconst (v := nI 1) dX9_dig_9 rfl (by decide) ?_
    refine hk_goto (tgt := 47) dX9_dig_10 (by decide) ?_
    refine hk_callV dX9_dig_47 rfl mv_X9_80 (cm_isWrong (k := 1) hfl (by decide) hk) rfl rfl (hm_g0 hk) rfl rfl (by decide) ⟨Nat.zero_le _, Nat.zero_le _⟩ (Nat.le_of_ble_eq_true rfl) (hk_ki fun v h1 q => ?_) hk_nx
    obtain ⟨rfl, rfl⟩ := q
    try rw [hm_mt_mt]
    refine cx_ifb_eq (tgt := 55) dX9_dig_50 (by decide) rfl (fun z50 => ?_) (fun z50 => ?_)
    · exact absurd z50 (by decide)
    · skip
      refine hk_iconst (v := nI 0) dX9_dig_53 rfl (by decide) ?_
      exact hk_ireturn rfl (rfl) dX9_dig_54 (by have e : cd_dig S c v mt q = 1 := (by simp [cd_dig, cs_sq, f6]); exact ⟨_, rfl, g, hm_x.rf, Or.inr ⟨by rw [e]; decide, A, hm_mt M (nI 1), rfl, by rw [e]; exact hm_mt0, ok, hk, rfl⟩⟩)
theorem cd_D_or (x y : Int32) : cd_D x y = 0 ∨ cd_D x y = 2 := by
  unfold cd_D
  split
  · exact Or.inr rfl
  · exact Or.inl rfl
theorem cd_O_or (S : hs_S) (a : Nat) : cd_O S a = 0 ∨ cd_O S a = 3 := by
  unfold cd_O
  split
  · exact Or.inr rfl
  · exact Or.inl rfl
theorem cd_D_eq {x y : Nat} (h : x = y) : cd_D (nI x) (nI y) = 2 := by
  unfold cd_D
  rw [h, if_pos rfl]
theorem cd_D_ne {x y : Nat} (h : ¬ x = y) (hx : x < 2 ^ 31 := by omega) (hy : y < 2 ^ 31 := by omega) : cd_D (nI x) (nI y) = 0 := by
  rw [cd_D_nI hx hy, if_neg h]
def mi_C (S : hs_S) (c nc : Nat) : Prop := ∀ j, j < nc → ∃ m w : Nat, m < 2 ∧ w ≤ 9 ∧ S.1 13 j = nI m ∧ S.1 14 j = nI w ∧ ((w = 0 ∧ S.1 15 j = -1) ∨ (1 ≤ w ∧ ∃ a, a < c ∧ S.1 15 j = nI a))
theorem mi_W4 {S : hs_S} {c nc j : Nat} (h : mi_C S c nc) (hj : j < nc) (z : S.1 14 j = 0) : cd_W S j = 4 := by
  obtain ⟨m, x, h1, h2, h3, h4, h5⟩ := h j hj
  rcases h5 with ⟨_, h5⟩ | ⟨h5, _⟩
  · exact if_pos h5
  · rw [h4] at z
    have e := (nI_eq (a := x) (b := 0) (by omega) (by decide)).mp z
    omega
theorem mi_W0 {S : hs_S} {c nc j : Nat} (h : mi_C S c nc) (hc : c ≤ 6) (hj : j < nc) (z : ¬ S.1 14 j = 0) : cd_W S j = 0 := by
  obtain ⟨m, x, h1, h2, h3, h4, h5⟩ := h j hj
  rcases h5 with ⟨h5, _⟩ | ⟨_, a, h5, h6⟩
  · rw [h4, h5] at z
    exact absurd rfl z
  · refine if_neg (fun e => ?_)
    rw [h6] at e
    exact cx_ne1 (by omega) e
theorem cm_weightOf {v : Int32} (hfl : l.stackTraces = false) (hw : hm_Wd G m S c nc nb thr g h) : hk_Ctr G l 8 yX9_weightOf cX9_weightOf 2 (some .int) 0 0 [.ref m, .int v] h (hk_qi fun rv h1 => ml_Q G m (ml_tr [1] (cd_H nc v)) S c nc nb (S) (c) (nc) (nb) g (rv = S.1 14 (vN v)) h1) hk_no := by
  obtain ⟨A, M, rfl, rfl, ok, hk, rfl⟩ := hw
  have hc1 := ok.1.2.1
  have hc := ok.1.2.2
  have hnc := ok.2.1.2
  have hnb := ok.2.2.1.2
  refine hk_enter (by decide) hfl (Nat.le_of_ble_eq_true rfl) rfl ?_
  refine hk_aload_n dX9_weightOf_0 rfl rfl rfl ?_
  refine hk_aload_n dX9_weightOf_1 rfl rfl rfl ?_
  refine hk_iload_n dX9_weightOf_2 rfl rfl rfl ?_
  refine hk_callV dX9_weightOf_3 rfl mv_X9_106 (cm_isCoin hfl hk ok) rfl rfl (hm_g0 hk) rfl rfl (by decide) ⟨Nat.zero_le _, Nat.zero_le _⟩ (Nat.le_of_ble_eq_true rfl) (hk_ki fun v h1 q => ?_) hk_nx
  obtain ⟨rfl, rfl⟩ := q
  refine cx_ifb_eq (tgt := 13) dX9_weightOf_6 (by decide) rfl (fun z6 => ?_) (fun z6 => ?_)
  · have f6 : cd_H nc v = 1 := cd_H_1 (of_decide_eq_false z6)
    refine hk_iconst (v := nI 1) dX9_weightOf_13 rfl (by decide) ?_
    refine hk_callV dX9_weightOf_14 rfl mv_X9_80 (cm_isWrong (k := 1) hfl (by decide) hk) rfl rfl (hm_g0 hk) rfl rfl (by decide) ⟨Nat.zero_le _, Nat.zero_le _⟩ (Nat.le_of_ble_eq_true rfl) (hk_ki fun v h1 q => ?_) hk_nx
    obtain ⟨rfl, rfl⟩ := q
    try rw [hm_mt_mt]
    refine cx_ifb_eq (tgt := 24) dX9_weightOf_17 (by decide) rfl (fun z17 => ?_) (fun z17 => ?_)
    · exact absurd z17 (by decide)
    · skip
      refine hk_iconst (v := nI 0) dX9_weightOf_20 rfl (by decide) ?_
      refine hk_goto (tgt := 40) dX9_weightOf_21 (by decide) ?_
      exact hk_ireturn rfl (rfl) dX9_weightOf_40 (by have e : cd_H nc v = 1 := f6; exact ⟨_, rfl, g, hm_x.rf, Or.inr ⟨by rw [e]; decide, A, hm_mt M (nI 1), rfl, by rw [e]; exact hm_mt0, ok, hk, rfl⟩⟩)
  · have f6 : cd_H nc v = 0 := of_decide_eq_true z6
    obtain ⟨a, ha, rfl⟩ := cd_H_of (by omega) f6
    have vaa : vN (nI a) = a := vN_nI (by omega)
    refine hk_iconst (v := nI 0) dX9_weightOf_9 rfl (by decide) ?_
    refine hk_goto (tgt := 14) dX9_weightOf_10 (by decide) ?_
    refine hk_callV dX9_weightOf_14 rfl mv_X9_80 (cm_isWrong (k := 0) hfl (by decide) hk) rfl rfl (hm_g0 hk) rfl rfl (by decide) ⟨Nat.zero_le _, Nat.zero_le _⟩ (Nat.le_of_ble_eq_true rfl) (hk_ki fun v h1 q => ?_) hk_nx
    obtain ⟨rfl, rfl⟩ := q
    try rw [hm_mt_mt]
    refine cx_ifb_eq (tgt := 24) dX9_weightOf_17 (by decide) rfl (fun z17 => ?_) (fun z17 => ?_)
    · skip
      refine hk_aload_n dX9_weightOf_24 rfl rfl rfl ?_
      refine hk_getf dX9_weightOf_25 rfl fl_X9_32 (hm_g0 hk) rfl ?_
      refine hk_iload_n dX9_weightOf_28 rfl rfl rfl ?_
      have hg29 := hm_c1g (j := a) ok (by omega)
      refine hk_callF dX9_weightOf_29 rfl mf_X9_64 (cj_get hfl (hm_l1 hk ok) (hm_r (i := 1) hk ok (by omega) hg29.1) (by omega) (by rw [← hm_n1 ok]; exact (hm_cap ok hg29.1).1) (Nat.lt_of_le_of_lt (hm_cap ok hg29.1).2.2 (by decide)) hg29.2) rfl rfl (hm_l1 hk ok) rfl rfl (by decide) ⟨Nat.zero_le _, Nat.zero_le _⟩ (Nat.le_of_ble_eq_true rfl) (hk_kr fun v h1 q => ?_) hk_nx
      obtain ⟨rfl, rfl⟩ := q
      refine hk_castO dX9_weightOf_34 rfl (hm_coi hk ok (by omega)) rfl kl_X9_94 ?_
      refine hk_getf dX9_weightOf_37 rfl fl_X9_103 (hm_coi hk ok (by omega)) rfl ?_
      exact hk_ireturn rfl (rfl) dX9_weightOf_40 (by have e : cd_H nc (nI a) = 0 := f6; exact ⟨_, rfl, g, hm_x.rf, Or.inl ⟨by rw [e]; rfl, by rw [vaa], A, hm_mt M (nI 0), rfl, hm_mt0, ok, hk, rfl⟩⟩)
    · exact absurd z17 (by decide)
theorem cm_ownerOf {v : Int32} (hfl : l.stackTraces = false) (hw : hm_Wd G m S c nc nb thr g h) : hk_Ctr G l 8 yX9_ownerOf cX9_ownerOf 2 (some .int) 0 0 [.ref m, .int v] h (hk_qi fun rv h1 => ml_Q G m (ml_tr [1] (cd_H nc v)) S c nc nb (S) (c) (nc) (nb) g (rv = S.1 15 (vN v)) h1) hk_no := by
  obtain ⟨A, M, rfl, rfl, ok, hk, rfl⟩ := hw
  have hc1 := ok.1.2.1
  have hc := ok.1.2.2
  have hnc := ok.2.1.2
  have hnb := ok.2.2.1.2
  refine hk_enter (by decide) hfl (Nat.le_of_ble_eq_true rfl) rfl ?_
  refine hk_aload_n dX9_ownerOf_0 rfl rfl rfl ?_
  refine hk_aload_n dX9_ownerOf_1 rfl rfl rfl ?_
  refine hk_iload_n dX9_ownerOf_2 rfl rfl rfl ?_
  refine hk_callV dX9_ownerOf_3 rfl mv_X9_106 (cm_isCoin hfl hk ok) rfl rfl (hm_g0 hk) rfl rfl (by decide) ⟨Nat.zero_le _, Nat.zero_le _⟩ (Nat.le_of_ble_eq_true rfl) (hk_ki fun v h1 q => ?_) hk_nx
  obtain ⟨rfl, rfl⟩ := q
  refine cx_ifb_eq (tgt := 13) dX9_ownerOf_6 (by decide) rfl (fun z6 => ?_) (fun z6 => ?_)
  · have f6 : cd_H nc v = 1 := cd_H_1 (of_decide_eq_false z6)
    refine hk_iconst (v := nI 1) dX9_ownerOf_13 rfl (by decide) ?_
    refine hk_callV dX9_ownerOf_14 rfl mv_X9_80 (cm_isWrong (k := 1) hfl (by decide) hk) rfl rfl (hm_g0 hk) rfl rfl (by decide) ⟨Nat.zero_le _, Nat.zero_le _⟩ (Nat.le_of_ble_eq_true rfl) (hk_ki fun v h1 q => ?_) hk_nx
    obtain ⟨rfl, rfl⟩ := q
    try rw [hm_mt_mt]
    refine cx_ifb_eq (tgt := 24) dX9_ownerOf_17 (by decide) rfl (fun z17 => ?_) (fun z17 => ?_)
    · exact absurd z17 (by decide)
    · skip
      refine hk_iconst (v := nI 0) dX9_ownerOf_20 rfl (by decide) ?_
      refine hk_goto (tgt := 40) dX9_ownerOf_21 (by decide) ?_
      exact hk_ireturn rfl (rfl) dX9_ownerOf_40 (by have e : cd_H nc v = 1 := f6; exact ⟨_, rfl, g, hm_x.rf, Or.inr ⟨by rw [e]; decide, A, hm_mt M (nI 1), rfl, by rw [e]; exact hm_mt0, ok, hk, rfl⟩⟩)
  · have f6 : cd_H nc v = 0 := of_decide_eq_true z6
    obtain ⟨a, ha, rfl⟩ := cd_H_of (by omega) f6
    have vaa : vN (nI a) = a := vN_nI (by omega)
    refine hk_iconst (v := nI 0) dX9_ownerOf_9 rfl (by decide) ?_
    refine hk_goto (tgt := 14) dX9_ownerOf_10 (by decide) ?_
    refine hk_callV dX9_ownerOf_14 rfl mv_X9_80 (cm_isWrong (k := 0) hfl (by decide) hk) rfl rfl (hm_g0 hk) rfl rfl (by decide) ⟨Nat.zero_le _, Nat.zero_le _⟩ (Nat.le_of_ble_eq_true rfl) (hk_ki fun v h1 q => ?_) hk_nx
    obtain ⟨rfl, rfl⟩ := q
    try rw [hm_mt_mt]
    refine cx_ifb_eq (tgt := 24) dX9_ownerOf_17 (by decide) rfl (fun z17 => ?_) (fun z17 => ?_)
    · skip
      refine hk_aload_n dX9_ownerOf_24 rfl rfl rfl ?_
      refine hk_getf dX9_ownerOf_25 rfl fl_X9_32 (hm_g0 hk) rfl ?_
      refine hk_iload_n dX9_ownerOf_28 rfl rfl rfl ?_
      have hg29 := hm_c1g (j := a) ok (by omega)
      refine hk_callF dX9_ownerOf_29 rfl mf_X9_64 (cj_get hfl (hm_l1 hk ok) (hm_r (i := 1) hk ok (by omega) hg29.1) (by omega) (by rw [← hm_n1 ok]; exact (hm_cap ok hg29.1).1) (Nat.lt_of_le_of_lt (hm_cap ok hg29.1).2.2 (by decide)) hg29.2) rfl rfl (hm_l1 hk ok) rfl rfl (by decide) ⟨Nat.zero_le _, Nat.zero_le _⟩ (Nat.le_of_ble_eq_true rfl) (hk_kr fun v h1 q => ?_) hk_nx
      obtain ⟨rfl, rfl⟩ := q
      refine hk_castO dX9_ownerOf_34 rfl (hm_coi hk ok (by omega)) rfl kl_X9_94 ?_
      refine hk_getf dX9_ownerOf_37 rfl fl_X9_112 (hm_coi hk ok (by omega)) rfl ?_
      exact hk_ireturn rfl (rfl) dX9_ownerOf_40 (by have e : cd_H nc (nI a) = 0 := f6; exact ⟨_, rfl, g, hm_x.rf, Or.inl ⟨by rw [e]; rfl, by rw [vaa], A, hm_mt M (nI 0), rfl, hm_mt0, ok, hk, rfl⟩⟩)
    · exact absurd z17 (by decide)
theorem cm_owners {v : Int32} (hfl : l.stackTraces = false) (hw : hm_Wd G m S c nc nb thr g h) : hk_Ctr G l 8 yX9_owners cX9_owners 2 (some .int) 0 0 [.ref m, .int v] h (hk_qi fun rv h1 => ml_Q G m (ml_tr [1] (cd_H nc v)) S c nc nb (S) (c) (nc) (nb) g (rv = S.1 16 (vN v)) h1) hk_no := by
  obtain ⟨A, M, rfl, rfl, ok, hk, rfl⟩ := hw
  have hc1 := ok.1.2.1
  have hc := ok.1.2.2
  have hnc := ok.2.1.2
  have hnb := ok.2.2.1.2
  refine hk_enter (by decide) hfl (Nat.le_of_ble_eq_true rfl) rfl ?_
  refine hk_aload_n dX9_owners_0 rfl rfl rfl ?_
  refine hk_aload_n dX9_owners_1 rfl rfl rfl ?_
  refine hk_iload_n dX9_owners_2 rfl rfl rfl ?_
  refine hk_callV dX9_owners_3 rfl mv_X9_106 (cm_isCoin hfl hk ok) rfl rfl (hm_g0 hk) rfl rfl (by decide) ⟨Nat.zero_le _, Nat.zero_le _⟩ (Nat.le_of_ble_eq_true rfl) (hk_ki fun v h1 q => ?_) hk_nx
  obtain ⟨rfl, rfl⟩ := q
  refine cx_ifb_eq (tgt := 13) dX9_owners_6 (by decide) rfl (fun z6 => ?_) (fun z6 => ?_)
  · have f6 : cd_H nc v = 1 := cd_H_1 (of_decide_eq_false z6)
    refine hk_iconst (v := nI 1) dX9_owners_13 rfl (by decide) ?_
    refine hk_callV dX9_owners_14 rfl mv_X9_80 (cm_isWrong (k := 1) hfl (by decide) hk) rfl rfl (hm_g0 hk) rfl rfl (by decide) ⟨Nat.zero_le _, Nat.zero_le _⟩ (Nat.le_of_ble_eq_true rfl) (hk_ki fun v h1 q => ?_) hk_nx
    obtain ⟨rfl, rfl⟩ := q
    try rw [hm_mt_mt]
    refine cx_ifb_eq (tgt := 24) dX9_owners_17 (by decide) rfl (fun z17 => ?_) (fun z17 => ?_)
    · exact absurd z17 (by decide)
    · skip
      refine hk_iconst (v := nI 0) dX9_owners_20 rfl (by decide) ?_
      refine hk_goto (tgt := 40) dX9_owners_21 (by decide) ?_
      exact hk_ireturn rfl (rfl) dX9_owners_40 (by have e : cd_H nc v = 1 := f6; exact ⟨_, rfl, g, hm_x.rf, Or.inr ⟨by rw [e]; decide, A, hm_mt M (nI 1), rfl, by rw [e]; exact hm_mt0, ok, hk, rfl⟩⟩)
  · have f6 : cd_H nc v = 0 := of_decide_eq_true z6
    obtain ⟨a, ha, rfl⟩ := cd_H_of (by omega) f6
    have vaa : vN (nI a) = a := vN_nI (by omega)
    refine hk_iconst (v := nI 0) dX9_owners_9 rfl (by decide) ?_
    refine hk_goto (tgt := 14) dX9_owners_10 (by decide) ?_
    refine hk_callV dX9_owners_14 rfl mv_X9_80 (cm_isWrong (k := 0) hfl (by decide) hk) rfl rfl (hm_g0 hk) rfl rfl (by decide) ⟨Nat.zero_le _, Nat.zero_le _⟩ (Nat.le_of_ble_eq_true rfl) (hk_ki fun v h1 q => ?_) hk_nx
    obtain ⟨rfl, rfl⟩ := q
    try rw [hm_mt_mt]
    refine cx_ifb_eq (tgt := 24) dX9_owners_17 (by decide) rfl (fun z17 => ?_) (fun z17 => ?_)
    · skip
      refine hk_aload_n dX9_owners_24 rfl rfl rfl ?_
      refine hk_getf dX9_owners_25 rfl fl_X9_32 (hm_g0 hk) rfl ?_
      refine hk_iload_n dX9_owners_28 rfl rfl rfl ?_
      have hg29 := hm_c1g (j := a) ok (by omega)
      refine hk_callF dX9_owners_29 rfl mf_X9_64 (cj_get hfl (hm_l1 hk ok) (hm_r (i := 1) hk ok (by omega) hg29.1) (by omega) (by rw [← hm_n1 ok]; exact (hm_cap ok hg29.1).1) (Nat.lt_of_le_of_lt (hm_cap ok hg29.1).2.2 (by decide)) hg29.2) rfl rfl (hm_l1 hk ok) rfl rfl (by decide) ⟨Nat.zero_le _, Nat.zero_le _⟩ (Nat.le_of_ble_eq_true rfl) (hk_kr fun v h1 q => ?_) hk_nx
      obtain ⟨rfl, rfl⟩ := q
      refine hk_castO dX9_owners_34 rfl (hm_coi hk ok (by omega)) rfl kl_X9_94 ?_
      refine hk_getf dX9_owners_37 rfl fl_X9_227 (hm_coi hk ok (by omega)) rfl ?_
      exact hk_ireturn rfl (rfl) dX9_owners_40 (by have e : cd_H nc (nI a) = 0 := f6; exact ⟨_, rfl, g, hm_x.rf, Or.inl ⟨by rw [e]; rfl, by rw [vaa], A, hm_mt M (nI 0), rfl, hm_mt0, ok, hk, rfl⟩⟩)
    · exact absurd z17 (by decide)
theorem cm_thrown  (hfl : l.stackTraces = false) (hw : hm_Wd G m S c nc nb thr g h) : hk_Ctr G l 1 yX9_thrown cX9_thrown 1 (some .int) 0 0 [.ref m] h (hk_qi fun rv h1 => rv = thr ∧ h1 = h) hk_no := by
  obtain ⟨A, M, rfl, e0, ok, hk, rfl⟩ := hw
  have hc1 := ok.1.2.1
  have hc := ok.1.2.2
  have hnc := ok.2.1.2
  have hnb := ok.2.2.1.2
  refine hk_enter (by decide) hfl (Nat.le_of_ble_eq_true rfl) rfl ?_
  refine hk_aload_n dX9_thrown_0 rfl rfl rfl ?_
  refine hk_getf dX9_thrown_1 rfl fl_X9_1 (hm_g0 hk) rfl ?_
  exact hk_ireturn rfl (rfl) dX9_thrown_4 (⟨_, rfl, e0, rfl⟩)
theorem cm_isSound  (hfl : l.stackTraces = false) (hw : hm_Wd G m S c nc nb thr g h) : hk_Ctr G l 1 yX9_isSound cX9_isSound 1 (some .boolean) 0 0 [.ref m] h (hk_qi fun rv h1 => ml_Q G m 0 S c nc nb (S) (c) (nc) (nb) g (rv = nI 1) h1) hk_no := by
  obtain ⟨A, M, rfl, rfl, ok, hk, rfl⟩ := hw
  have hc1 := ok.1.2.1
  have hc := ok.1.2.2
  have hnc := ok.2.1.2
  have hnb := ok.2.2.1.2
  refine hk_enter (by decide) hfl (Nat.le_of_ble_eq_true rfl) rfl ?_
  refine hk_aload_n dX9_isSound_0 rfl rfl rfl ?_
  refine hk_iconst (v := nI 0) dX9_isSound_1 rfl (by decide) ?_
  refine hk_putf dX9_isSound_2 rfl (fw_X9_1 rfl) (hm_g0 hk) rfl rfl (Nat.lt_of_lt_of_eq (by decide : 0 < 11) rfl) ?_
  refine hx_cg (hm_vt hk) ?_
  refine hk_iconst (v := nI 1) dX9_isSound_5 rfl (by decide) ?_
  exact hk_ireturn rfl (rfl) dX9_isSound_6 (⟨_, rfl, g, hm_x.rf, Or.inl ⟨rfl, rfl, A, hm_mt M (nI 0), rfl, hm_mt0, ok, hk, rfl⟩⟩)
theorem cm_lost  (hfl : l.stackTraces = false) (hw : hm_Wd G m S c nc nb thr g h) : hk_Ctr G l 1 yX9_lost cX9_lost 1 (some .long) 0 0 [.ref m] h (hk_ql fun rv h1 => ml_Q G m 0 S c nc nb (S) (c) (nc) (nb) g (rv = S.2) h1) hk_no := by
  obtain ⟨A, M, rfl, rfl, ok, hk, rfl⟩ := hw
  have hc1 := ok.1.2.1
  have hc := ok.1.2.2
  have hnc := ok.2.1.2
  have hnb := ok.2.2.1.2
  refine hk_enter (by decide) hfl (Nat.le_of_ble_eq_true rfl) rfl ?_
  refine hk_aload_n dX9_lost_0 rfl rfl rfl ?_
  refine hk_iconst (v := nI 0) dX9_lost_1 rfl (by decide) ?_
  refine hk_putf dX9_lost_2 rfl (fw_X9_1 rfl) (hm_g0 hk) rfl rfl (Nat.lt_of_lt_of_eq (by decide : 0 < 11) rfl) ?_
  refine hx_cg (hm_vt hk) ?_
  refine hk_aload_n dX9_lost_5 rfl rfl rfl ?_
  refine hk_getf dX9_lost_6 rfl fl_X9_178 (hm_g0 hk) rfl ?_
  exact hk_lreturn rfl dX9_lost_9 (⟨_, rfl, g, hm_x.rf, Or.inl ⟨rfl, rfl, A, hm_mt M (nI 0), rfl, hm_mt0, ok, hk, rfl⟩⟩)
theorem cm_addShare {g0 v q : Int32} (hfl : l.stackTraces = false) (hw : hm_Wd G m S c nc nb thr g h) : hk_Ctr G l 8 yX9_addShare cX9_addShare 4 (some .int) 0 0 [.ref m, .int g0, .int v, .int q] h (hk_qi fun rv h1 => ml_Q G m (ml_tr [1, 2, 3] (cd_addShare S c g0 v q)) S c nc nb (cs_addShare S g0 v q) (c) (nc) (nb) g (rv = (cs_addShare S g0 v q).1 27 (vN g0 * 6 + vN v)) h1) hk_no := by
  obtain ⟨A, M, rfl, rfl, ok, hk, rfl⟩ := hw
  have hc1 := ok.1.2.1
  have hc := ok.1.2.2
  have hnc := ok.2.1.2
  have hnb := ok.2.2.1.2
  refine hk_enter (by decide) hfl (Nat.le_of_ble_eq_true rfl) rfl ?_
  refine hk_aload_n dX9_addShare_0 rfl rfl rfl ?_
  refine hk_iload_n dX9_addShare_1 rfl rfl rfl ?_
  refine hk_iconst (v := nI 0) dX9_addShare_2 rfl (by decide) ?_
  refine hk_iconst (v := nI 3) dX9_addShare_3 rfl (by decide) ?_
  refine hk_callS dX9_addShare_4 rfl ms_X9_60 (cm_isBetween hfl) rfl rfl (by decide) ⟨Nat.zero_le _, Nat.zero_le _⟩ (Nat.le_of_ble_eq_true rfl) (hk_ki fun v h1 q => ?_) hk_nx
  obtain ⟨rfl, rfl⟩ := q
  refine cx_top (congrArg cx_b (cs_bwH (n := 4) (by decide) _)) ?_
  refine cx_ifb_eq (tgt := 18) dX9_addShare_7 (by decide) rfl (fun z7 => ?_) (fun z7 => ?_)
  · have f7 : cd_H 4 g0 = 1 := cd_H_1 (of_decide_eq_false z7)
    refine hk_iconst (v := nI 1) dX9_addShare_18 rfl (by decide) ?_
    refine hk_goto (tgt := 49) dX9_addShare_19 (by decide) ?_
    refine hk_callV dX9_addShare_49 rfl mv_X9_80 (cm_isWrong (k := 1) hfl (by decide) hk) rfl rfl (hm_g0 hk) rfl rfl (by decide) ⟨Nat.zero_le _, Nat.zero_le _⟩ (Nat.le_of_ble_eq_true rfl) (hk_ki fun v h1 q => ?_) hk_nx
    obtain ⟨rfl, rfl⟩ := q
    try rw [hm_mt_mt]
    refine cx_ifb_eq (tgt := 57) dX9_addShare_52 (by decide) rfl (fun z52 => ?_) (fun z52 => ?_)
    · exact absurd z52 (by decide)
    · skip
      refine hk_iconst (v := nI 0) dX9_addShare_55 rfl (by decide) ?_
      exact hk_ireturn rfl (rfl) dX9_addShare_56 (by have e : cd_addShare S c g0 v q = 1 := (by simp [cd_addShare, cs_sq, f7]); exact ⟨_, rfl, g, hm_x.rf, Or.inr ⟨by rw [e]; decide, A, hm_mt M (nI 1), rfl, by rw [e]; exact hm_mt0, ok, hk, rfl⟩⟩)
  · have f7 : cd_H 4 g0 = 0 := of_decide_eq_true z7
    obtain ⟨a, ha, rfl⟩ := cd_H_of (by omega) f7
    have vaa : vN (nI a) = a := vN_nI (by omega)
    refine hk_aload_n dX9_addShare_10 rfl rfl rfl ?_
    refine hk_iload_n dX9_addShare_11 rfl rfl rfl ?_
    refine hk_callV dX9_addShare_12 rfl mv_X9_84 (cm_isHouse hfl hk ok) rfl rfl (hm_g0 hk) rfl rfl (by decide) ⟨Nat.zero_le _, Nat.zero_le _⟩ (Nat.le_of_ble_eq_true rfl) (hk_ki fun v h1 q => ?_) hk_nx
    obtain ⟨rfl, rfl⟩ := q
    refine cx_ifb_ne (tgt := 22) dX9_addShare_15 (by decide) rfl (fun z15 => ?_) (fun z15 => ?_)
    · have f15 : cd_H c v = 0 := of_decide_eq_true z15
      obtain ⟨b2, hb2, rfl⟩ := cd_H_of (by omega) f15
      have vab2 : vN (nI b2) = b2 := vN_nI (by omega)
      refine hk_iload_n dX9_addShare_22 rfl rfl rfl ?_
      refine hk_iconst (v := nI 1) dX9_addShare_23 rfl (by decide) ?_
      refine hk_bipush (v := nI 99) dX9_addShare_24 rfl (by decide) ?_
      refine hk_callS dX9_addShare_26 rfl ms_X9_60 (cm_isBetween hfl) rfl rfl (by decide) ⟨Nat.zero_le _, Nat.zero_le _⟩ (Nat.le_of_ble_eq_true rfl) (hk_ki fun v h1 q => ?_) hk_nx
      obtain ⟨rfl, rfl⟩ := q
      refine cx_top (congrArg cx_b (cs_bwR _ _)) ?_
      refine cx_ifb_ne (tgt := 36) dX9_addShare_29 (by decide) rfl (fun z29 => ?_) (fun z29 => ?_)
      · have f29 : cd_R q 99 = 0 := of_decide_eq_true z29
        refine hk_aload_n dX9_addShare_36 rfl rfl rfl ?_
        refine hk_iload_n dX9_addShare_37 rfl rfl rfl ?_
        refine hk_callV dX9_addShare_38 rfl mv_X9_91 (cm_hasFailed hfl hk ok (by omega)) rfl rfl (hm_g0 hk) rfl rfl (by decide) ⟨Nat.zero_le _, Nat.zero_le _⟩ (Nat.le_of_ble_eq_true rfl) (hk_ki fun v h1 q => ?_) hk_nx
        obtain ⟨rfl, rfl⟩ := q
        refine cx_ifb_eq (tgt := 48) dX9_addShare_41 (by decide) rfl (fun z41 => ?_) (fun z41 => ?_)
        · have f41 : cd_O S b2 = 0 := Decidable.of_not_not (of_decide_eq_false z41)
          refine hk_iconst (v := nI 0) dX9_addShare_48 rfl (by decide) ?_
          refine hk_callV dX9_addShare_49 rfl mv_X9_80 (cm_isWrong (k := 0) hfl (by decide) hk) rfl rfl (hm_g0 hk) rfl rfl (by decide) ⟨Nat.zero_le _, Nat.zero_le _⟩ (Nat.le_of_ble_eq_true rfl) (hk_ki fun v h1 q => ?_) hk_nx
          obtain ⟨rfl, rfl⟩ := q
          try rw [hm_mt_mt]
          refine cx_ifb_eq (tgt := 57) dX9_addShare_52 (by decide) rfl (fun z52 => ?_) (fun z52 => ?_)
          · skip
            refine hk_aload_n dX9_addShare_57 rfl rfl rfl ?_
            refine hk_getf dX9_addShare_58 rfl fl_X9_41 (hm_g0 hk) rfl ?_
            refine hk_iload_n dX9_addShare_61 rfl rfl rfl ?_
            refine hx_aaldI dX9_addShare_62 rfl (hm_g17 hk) (show _ < 4 by omega) (by decide) (if_pos (show _ < 4 by omega)) ?_
            refine hk_iload_n dX9_addShare_63 rfl rfl rfl ?_
            refine hk_dup2 dX9_addShare_64 rfl rfl rfl ?_
            refine hx_iald dX9_addShare_65 rfl (hm_g18 hk (by omega)) (show _ < 6 by omega) (by decide) ?_
            refine cx_top (if_pos (by omega)) ?_
            refine hk_iload_n dX9_addShare_66 rfl rfl rfl ?_
            refine hk_iadd dX9_addShare_67 rfl ?_
            refine hx_iast dX9_addShare_68 rfl (hm_g18 hk (by omega)) (show _ < 6 by omega) (by decide) ?_
            refine hx_cg (hm_v27 hk (by omega) (by omega)) ?_
            refine hk_aload_n dX9_addShare_69 rfl rfl rfl ?_
            refine hk_getf dX9_addShare_70 rfl fl_X9_41 (hm_g0 hk) rfl ?_
            refine hk_iload_n dX9_addShare_73 rfl rfl rfl ?_
            refine hx_aaldI dX9_addShare_74 rfl (hm_g17 hk) (show _ < 4 by omega) (by decide) (if_pos (show _ < 4 by omega)) ?_
            refine hk_iload_n dX9_addShare_75 rfl rfl rfl ?_
            refine hx_iald dX9_addShare_76 rfl (hm_g18 hk (by omega)) (show _ < 6 by omega) (by decide) ?_
            refine cx_top (if_pos (by omega)) ?_
            exact hk_ireturn rfl (rfl) dX9_addShare_77 (by have e : cd_addShare S c (nI a) (nI b2) q = 0 := (by simp [cd_addShare, cs_sq, f7, vaa, f15, vab2, f29, f41]); exact ⟨_, rfl, g, hm_x.rf, Or.inl ⟨by rw [e]; rfl, by simp only [cs_addShare, vaa, vab2] <;> rfl, A, hm_mt M (nI 0), rfl, hm_mt0, ok, hk, by simp only [cs_addShare, vaa, vab2] <;> rfl⟩⟩)
          · exact absurd z52 (by decide)
        · have f41 : cd_O S b2 = 3 := cd_O_3 (of_decide_eq_true z41)
          refine hk_iconst (v := nI 3) dX9_addShare_44 rfl (by decide) ?_
          refine hk_goto (tgt := 49) dX9_addShare_45 (by decide) ?_
          refine hk_callV dX9_addShare_49 rfl mv_X9_80 (cm_isWrong (k := 3) hfl (by decide) hk) rfl rfl (hm_g0 hk) rfl rfl (by decide) ⟨Nat.zero_le _, Nat.zero_le _⟩ (Nat.le_of_ble_eq_true rfl) (hk_ki fun v h1 q => ?_) hk_nx
          obtain ⟨rfl, rfl⟩ := q
          try rw [hm_mt_mt]
          refine cx_ifb_eq (tgt := 57) dX9_addShare_52 (by decide) rfl (fun z52 => ?_) (fun z52 => ?_)
          · exact absurd z52 (by decide)
          · skip
            refine hk_iconst (v := nI 0) dX9_addShare_55 rfl (by decide) ?_
            exact hk_ireturn rfl (rfl) dX9_addShare_56 (by have e : cd_addShare S c (nI a) (nI b2) q = 3 := (by simp [cd_addShare, cs_sq, f7, vaa, f15, vab2, f29, f41]); exact ⟨_, rfl, g, hm_x.rf, Or.inr ⟨by rw [e]; decide, A, hm_mt M (nI 3), rfl, by rw [e]; exact hm_mt0, ok, hk, rfl⟩⟩)
      · have f29 : cd_R q 99 = 2 := cd_R_2 (of_decide_eq_false z29)
        refine hk_iconst (v := nI 2) dX9_addShare_32 rfl (by decide) ?_
        refine hk_goto (tgt := 49) dX9_addShare_33 (by decide) ?_
        refine hk_callV dX9_addShare_49 rfl mv_X9_80 (cm_isWrong (k := 2) hfl (by decide) hk) rfl rfl (hm_g0 hk) rfl rfl (by decide) ⟨Nat.zero_le _, Nat.zero_le _⟩ (Nat.le_of_ble_eq_true rfl) (hk_ki fun v h1 q => ?_) hk_nx
        obtain ⟨rfl, rfl⟩ := q
        try rw [hm_mt_mt]
        refine cx_ifb_eq (tgt := 57) dX9_addShare_52 (by decide) rfl (fun z52 => ?_) (fun z52 => ?_)
        · exact absurd z52 (by decide)
        · skip
          refine hk_iconst (v := nI 0) dX9_addShare_55 rfl (by decide) ?_
          exact hk_ireturn rfl (rfl) dX9_addShare_56 (by have e : cd_addShare S c (nI a) (nI b2) q = 2 := (by simp [cd_addShare, cs_sq, f7, vaa, f15, vab2, f29]); exact ⟨_, rfl, g, hm_x.rf, Or.inr ⟨by rw [e]; decide, A, hm_mt M (nI 2), rfl, by rw [e]; exact hm_mt0, ok, hk, rfl⟩⟩)
    · have f15 : cd_H c v = 1 := cd_H_1 (of_decide_eq_false z15)
      refine hk_iconst (v := nI 1) dX9_addShare_18 rfl (by decide) ?_
      refine hk_goto (tgt := 49) dX9_addShare_19 (by decide) ?_
      refine hk_callV dX9_addShare_49 rfl mv_X9_80 (cm_isWrong (k := 1) hfl (by decide) hk) rfl rfl (hm_g0 hk) rfl rfl (by decide) ⟨Nat.zero_le _, Nat.zero_le _⟩ (Nat.le_of_ble_eq_true rfl) (hk_ki fun v h1 q => ?_) hk_nx
      obtain ⟨rfl, rfl⟩ := q
      try rw [hm_mt_mt]
      refine cx_ifb_eq (tgt := 57) dX9_addShare_52 (by decide) rfl (fun z52 => ?_) (fun z52 => ?_)
      · exact absurd z52 (by decide)
      · skip
        refine hk_iconst (v := nI 0) dX9_addShare_55 rfl (by decide) ?_
        exact hk_ireturn rfl (rfl) dX9_addShare_56 (by have e : cd_addShare S c (nI a) v q = 1 := (by simp [cd_addShare, cs_sq, f7, vaa, f15]); exact ⟨_, rfl, g, hm_x.rf, Or.inr ⟨by rw [e]; decide, A, hm_mt M (nI 1), rfl, by rw [e]; exact hm_mt0, ok, hk, rfl⟩⟩)
theorem cm_forgive {v t x : Int32} (hfl : l.stackTraces = false) (hw : hm_Wd G m S c nc nb thr g h) : hk_Ctr G l 8 yX9_forgive cX9_forgive 4 (some .int) 0 0 [.ref m, .int v, .int t, .int x] h (hk_qi fun rv h1 => ml_Q G m (ml_tr [1, 2, 4] (cd_forgive S c v t x)) S c nc nb (cs_cadd S (vN v) (vN t) (-x)) (c) (nc) (nb) g (rv = (cs_cadd S (vN v) (vN t) (-x)).1 19 (vN v * 6 + vN t)) h1) hk_no := by
  obtain ⟨A, M, rfl, rfl, ok, hk, rfl⟩ := hw
  have hc1 := ok.1.2.1
  have hc := ok.1.2.2
  have hnc := ok.2.1.2
  have hnb := ok.2.2.1.2
  refine hk_enter (by decide) hfl (Nat.le_of_ble_eq_true rfl) rfl ?_
  refine hk_aload_n dX9_forgive_0 rfl rfl rfl ?_
  refine hk_aload_n dX9_forgive_1 rfl rfl rfl ?_
  refine hk_iload_n dX9_forgive_2 rfl rfl rfl ?_
  refine hk_callV dX9_forgive_3 rfl mv_X9_84 (cm_isHouse hfl hk ok) rfl rfl (hm_g0 hk) rfl rfl (by decide) ⟨Nat.zero_le _, Nat.zero_le _⟩ (Nat.le_of_ble_eq_true rfl) (hk_ki fun v h1 q => ?_) hk_nx
  obtain ⟨rfl, rfl⟩ := q
  refine cx_ifb_eq (tgt := 17) dX9_forgive_6 (by decide) rfl (fun z6 => ?_) (fun z6 => ?_)
  · have f6 : cd_H c v = 1 := cd_H_1 (of_decide_eq_false z6)
    refine hk_iconst (v := nI 1) dX9_forgive_17 rfl (by decide) ?_
    refine hk_goto (tgt := 53) dX9_forgive_18 (by decide) ?_
    refine hk_callV dX9_forgive_53 rfl mv_X9_80 (cm_isWrong (k := 1) hfl (by decide) hk) rfl rfl (hm_g0 hk) rfl rfl (by decide) ⟨Nat.zero_le _, Nat.zero_le _⟩ (Nat.le_of_ble_eq_true rfl) (hk_ki fun v h1 q => ?_) hk_nx
    obtain ⟨rfl, rfl⟩ := q
    try rw [hm_mt_mt]
    refine cx_ifb_eq (tgt := 61) dX9_forgive_56 (by decide) rfl (fun z56 => ?_) (fun z56 => ?_)
    · exact absurd z56 (by decide)
    · skip
      refine hk_iconst (v := nI 0) dX9_forgive_59 rfl (by decide) ?_
      exact hk_ireturn rfl (rfl) dX9_forgive_60 (by have e : cd_forgive S c v t x = 1 := (by simp [cd_forgive, cs_sq, f6]); exact ⟨_, rfl, g, hm_x.rf, Or.inr ⟨by rw [e]; decide, A, hm_mt M (nI 1), rfl, by rw [e]; exact hm_mt0, ok, hk, rfl⟩⟩)
  · have f6 : cd_H c v = 0 := of_decide_eq_true z6
    obtain ⟨a, ha, rfl⟩ := cd_H_of (by omega) f6
    have vaa : vN (nI a) = a := vN_nI (by omega)
    refine hk_aload_n dX9_forgive_9 rfl rfl rfl ?_
    refine hk_iload_n dX9_forgive_10 rfl rfl rfl ?_
    refine hk_callV dX9_forgive_11 rfl mv_X9_84 (cm_isHouse hfl hk ok) rfl rfl (hm_g0 hk) rfl rfl (by decide) ⟨Nat.zero_le _, Nat.zero_le _⟩ (Nat.le_of_ble_eq_true rfl) (hk_ki fun v h1 q => ?_) hk_nx
    obtain ⟨rfl, rfl⟩ := q
    refine cx_ifb_ne (tgt := 21) dX9_forgive_14 (by decide) rfl (fun z14 => ?_) (fun z14 => ?_)
    · have f14 : cd_H c t = 0 := of_decide_eq_true z14
      obtain ⟨b2, hb2, rfl⟩ := cd_H_of (by omega) f14
      have vab2 : vN (nI b2) = b2 := vN_nI (by omega)
      refine hk_iload_n dX9_forgive_21 rfl rfl rfl ?_
      refine hk_iconst (v := nI 1) dX9_forgive_22 rfl (by decide) ?_
      refine hk_sipush (v := nI 9999) dX9_forgive_23 rfl (by decide) ?_
      refine hk_callS dX9_forgive_26 rfl ms_X9_60 (cm_isBetween hfl) rfl rfl (by decide) ⟨Nat.zero_le _, Nat.zero_le _⟩ (Nat.le_of_ble_eq_true rfl) (hk_ki fun v h1 q => ?_) hk_nx
      obtain ⟨rfl, rfl⟩ := q
      refine cx_top (congrArg cx_b (cs_bwR _ _)) ?_
      refine cx_ifb_ne (tgt := 36) dX9_forgive_29 (by decide) rfl (fun z29 => ?_) (fun z29 => ?_)
      · have f29 : cd_R x 9999 = 0 := of_decide_eq_true z29
        refine hk_aload_n dX9_forgive_36 rfl rfl rfl ?_
        refine hk_getf dX9_forgive_37 rfl fl_X9_35 (hm_g0 hk) rfl ?_
        refine hk_iload_n dX9_forgive_40 rfl rfl rfl ?_
        refine hx_aaldI dX9_forgive_41 rfl (hm_g10 hk) (show _ < 6 by omega) (by decide) (if_pos (show _ < 6 by omega)) ?_
        refine hk_iload_n dX9_forgive_42 rfl rfl rfl ?_
        refine hx_iald dX9_forgive_43 rfl (hm_g11 hk (by omega)) (show _ < 6 by omega) (by decide) ?_
        refine cx_top (if_pos (by omega)) ?_
        refine hk_iload_n dX9_forgive_44 rfl rfl rfl ?_
        refine hk_icmp_ge (tgt := 52) dX9_forgive_45 (by decide) rfl (fun z45 => ?_) (fun z45 => ?_)
        · skip
          have f45 : cd_C S a b2 x = 0 := if_pos z45
          refine hk_iconst (v := nI 0) dX9_forgive_52 rfl (by decide) ?_
          refine hk_callV dX9_forgive_53 rfl mv_X9_80 (cm_isWrong (k := 0) hfl (by decide) hk) rfl rfl (hm_g0 hk) rfl rfl (by decide) ⟨Nat.zero_le _, Nat.zero_le _⟩ (Nat.le_of_ble_eq_true rfl) (hk_ki fun v h1 q => ?_) hk_nx
          obtain ⟨rfl, rfl⟩ := q
          try rw [hm_mt_mt]
          refine cx_ifb_eq (tgt := 61) dX9_forgive_56 (by decide) rfl (fun z56 => ?_) (fun z56 => ?_)
          · skip
            refine hk_aload_n dX9_forgive_61 rfl rfl rfl ?_
            refine hk_getf dX9_forgive_62 rfl fl_X9_35 (hm_g0 hk) rfl ?_
            refine hk_iload_n dX9_forgive_65 rfl rfl rfl ?_
            refine hx_aaldI dX9_forgive_66 rfl (hm_g10 hk) (show _ < 6 by omega) (by decide) (if_pos (show _ < 6 by omega)) ?_
            refine hk_iload_n dX9_forgive_67 rfl rfl rfl ?_
            refine hk_dup2 dX9_forgive_68 rfl rfl rfl ?_
            refine hx_iald dX9_forgive_69 rfl (hm_g11 hk (by omega)) (show _ < 6 by omega) (by decide) ?_
            refine cx_top (if_pos (by omega)) ?_
            refine hk_iload_n dX9_forgive_70 rfl rfl rfl ?_
            refine hk_isub dX9_forgive_71 rfl ?_
            refine hx_iast dX9_forgive_72 rfl (hm_g11 hk (by omega)) (show _ < 6 by omega) (by decide) ?_
            refine hx_cg (hm_v19 hk (by omega) (by omega)) ?_
            refine hk_aload_n dX9_forgive_73 rfl rfl rfl ?_
            refine hk_getf dX9_forgive_74 rfl fl_X9_35 (hm_g0 hk) rfl ?_
            refine hk_iload_n dX9_forgive_77 rfl rfl rfl ?_
            refine hx_aaldI dX9_forgive_78 rfl (hm_g10 hk) (show _ < 6 by omega) (by decide) (if_pos (show _ < 6 by omega)) ?_
            refine hk_iload_n dX9_forgive_79 rfl rfl rfl ?_
            refine hx_iald dX9_forgive_80 rfl (hm_g11 hk (by omega)) (show _ < 6 by omega) (by decide) ?_
            refine cx_top (if_pos (by omega)) ?_
            exact hk_ireturn rfl (rfl) dX9_forgive_81 (by have e : cd_forgive S c (nI a) (nI b2) x = 0 := (by simp [cd_forgive, cs_sq, f6, vaa, f14, vab2, f29, f45]); exact ⟨_, rfl, g, hm_x.rf, Or.inl ⟨by rw [e]; rfl, by simp only [cs_cadd, vaa, vab2, ← Int32.sub_eq_add_neg] <;> rfl, A, hm_mt M (nI 0), rfl, hm_mt0, ok, hk, by simp only [cs_cadd, vaa, vab2, ← Int32.sub_eq_add_neg] <;> rfl⟩⟩)
          · exact absurd z56 (by decide)
        · skip
          have f45 : cd_C S a b2 x = 4 := if_neg z45
          refine hk_iconst (v := nI 3) dX9_forgive_48 rfl (by decide) ?_
          refine hk_goto (tgt := 53) dX9_forgive_49 (by decide) ?_
          refine hk_callV dX9_forgive_53 rfl mv_X9_80 (cm_isWrong (k := 3) hfl (by decide) hk) rfl rfl (hm_g0 hk) rfl rfl (by decide) ⟨Nat.zero_le _, Nat.zero_le _⟩ (Nat.le_of_ble_eq_true rfl) (hk_ki fun v h1 q => ?_) hk_nx
          obtain ⟨rfl, rfl⟩ := q
          try rw [hm_mt_mt]
          refine cx_ifb_eq (tgt := 61) dX9_forgive_56 (by decide) rfl (fun z56 => ?_) (fun z56 => ?_)
          · exact absurd z56 (by decide)
          · skip
            refine hk_iconst (v := nI 0) dX9_forgive_59 rfl (by decide) ?_
            exact hk_ireturn rfl (rfl) dX9_forgive_60 (by have e : cd_forgive S c (nI a) (nI b2) x = 4 := (by simp [cd_forgive, cs_sq, f6, vaa, f14, vab2, f29, f45]); exact ⟨_, rfl, g, hm_x.rf, Or.inr ⟨by rw [e]; decide, A, hm_mt M (nI 3), rfl, by rw [e]; exact hm_mt0, ok, hk, rfl⟩⟩)
      · have f29 : cd_R x 9999 = 2 := cd_R_2 (of_decide_eq_false z29)
        refine hk_iconst (v := nI 2) dX9_forgive_32 rfl (by decide) ?_
        refine hk_goto (tgt := 53) dX9_forgive_33 (by decide) ?_
        refine hk_callV dX9_forgive_53 rfl mv_X9_80 (cm_isWrong (k := 2) hfl (by decide) hk) rfl rfl (hm_g0 hk) rfl rfl (by decide) ⟨Nat.zero_le _, Nat.zero_le _⟩ (Nat.le_of_ble_eq_true rfl) (hk_ki fun v h1 q => ?_) hk_nx
        obtain ⟨rfl, rfl⟩ := q
        try rw [hm_mt_mt]
        refine cx_ifb_eq (tgt := 61) dX9_forgive_56 (by decide) rfl (fun z56 => ?_) (fun z56 => ?_)
        · exact absurd z56 (by decide)
        · skip
          refine hk_iconst (v := nI 0) dX9_forgive_59 rfl (by decide) ?_
          exact hk_ireturn rfl (rfl) dX9_forgive_60 (by have e : cd_forgive S c (nI a) (nI b2) x = 2 := (by simp [cd_forgive, cs_sq, f6, vaa, f14, vab2, f29]); exact ⟨_, rfl, g, hm_x.rf, Or.inr ⟨by rw [e]; decide, A, hm_mt M (nI 2), rfl, by rw [e]; exact hm_mt0, ok, hk, rfl⟩⟩)
    · have f14 : cd_H c t = 1 := cd_H_1 (of_decide_eq_false z14)
      refine hk_iconst (v := nI 1) dX9_forgive_17 rfl (by decide) ?_
      refine hk_goto (tgt := 53) dX9_forgive_18 (by decide) ?_
      refine hk_callV dX9_forgive_53 rfl mv_X9_80 (cm_isWrong (k := 1) hfl (by decide) hk) rfl rfl (hm_g0 hk) rfl rfl (by decide) ⟨Nat.zero_le _, Nat.zero_le _⟩ (Nat.le_of_ble_eq_true rfl) (hk_ki fun v h1 q => ?_) hk_nx
      obtain ⟨rfl, rfl⟩ := q
      try rw [hm_mt_mt]
      refine cx_ifb_eq (tgt := 61) dX9_forgive_56 (by decide) rfl (fun z56 => ?_) (fun z56 => ?_)
      · exact absurd z56 (by decide)
      · skip
        refine hk_iconst (v := nI 0) dX9_forgive_59 rfl (by decide) ?_
        exact hk_ireturn rfl (rfl) dX9_forgive_60 (by have e : cd_forgive S c (nI a) t x = 1 := (by simp [cd_forgive, cs_sq, f6, vaa, f14]); exact ⟨_, rfl, g, hm_x.rf, Or.inr ⟨by rw [e]; decide, A, hm_mt M (nI 1), rfl, by rw [e]; exact hm_mt0, ok, hk, rfl⟩⟩)
theorem cm_lend {q v x : Int32} (hfl : l.stackTraces = false) (hw : hm_Wd G m S c nc nb thr g h) : hk_Ctr G l 8 yX9_lend cX9_lend 5 (some .int) 0 0 [.ref m, .int q, .int v, .int x] h (hk_qi fun rv h1 => ml_Q G m (ml_tr [1, 2, 3] (cd_lend S c q v x)) S c nc nb (cs_lend S q v x) (c) (nc) (nb) g (rv = (cs_lend S q v x).1 19 (vN v * 6 + vN q)) h1) hk_no := by
  obtain ⟨A, M, rfl, rfl, ok, hk, rfl⟩ := hw
  have hc1 := ok.1.2.1
  have hc := ok.1.2.2
  have hnc := ok.2.1.2
  have hnb := ok.2.2.1.2
  refine hk_enter (by decide) hfl (Nat.le_of_ble_eq_true rfl) rfl ?_
  refine hk_aload_n dX9_lend_0 rfl rfl rfl ?_
  refine hk_aload_n dX9_lend_1 rfl rfl rfl ?_
  refine hk_iload_n dX9_lend_2 rfl rfl rfl ?_
  refine hk_callV dX9_lend_3 rfl mv_X9_84 (cm_isHouse hfl hk ok) rfl rfl (hm_g0 hk) rfl rfl (by decide) ⟨Nat.zero_le _, Nat.zero_le _⟩ (Nat.le_of_ble_eq_true rfl) (hk_ki fun v h1 q => ?_) hk_nx
  obtain ⟨rfl, rfl⟩ := q
  refine cx_ifb_eq (tgt := 21) dX9_lend_6 (by decide) rfl (fun z6 => ?_) (fun z6 => ?_)
  · have f6 : cd_H c q = 1 := cd_H_1 (of_decide_eq_false z6)
    refine hk_iconst (v := nI 1) dX9_lend_21 rfl (by decide) ?_
    refine hk_callV dX9_lend_22 rfl mv_X9_80 (cm_isWrong (k := 1) hfl (by decide) hk) rfl rfl (hm_g0 hk) rfl rfl (by decide) ⟨Nat.zero_le _, Nat.zero_le _⟩ (Nat.le_of_ble_eq_true rfl) (hk_ki fun v h1 q => ?_) hk_nx
    obtain ⟨rfl, rfl⟩ := q
    try rw [hm_mt_mt]
    refine cx_ifb_eq (tgt := 30) dX9_lend_25 (by decide) rfl (fun z25 => ?_) (fun z25 => ?_)
    · exact absurd z25 (by decide)
    · skip
      refine hk_iconst (v := nI 0) dX9_lend_28 rfl (by decide) ?_
      exact hk_ireturn rfl (rfl) dX9_lend_29 (by have e : cd_lend S c q v x = 1 := (by first | (simp [cd_lend, cs_sq, cd_K, f6]; done) | (rcases cd_O_or S a with o0 | o0 <;> rcases cd_O_or S b2 with o1 | o1 <;> simp [cd_lend, cs_sq, cd_K, f6, o0, o1])); exact ⟨_, rfl, g, hm_x.rf, Or.inr ⟨by rw [e]; decide, A, hm_mt M (nI 1), rfl, by rw [e]; exact hm_mt0, ok, hk, rfl⟩⟩)
  · have f6 : cd_H c q = 0 := of_decide_eq_true z6
    obtain ⟨a, ha, rfl⟩ := cd_H_of (by omega) f6
    have vaa : vN (nI a) = a := vN_nI (by omega)
    refine hk_aload_n dX9_lend_9 rfl rfl rfl ?_
    refine hk_iload_n dX9_lend_10 rfl rfl rfl ?_
    refine hk_callV dX9_lend_11 rfl mv_X9_84 (cm_isHouse hfl hk ok) rfl rfl (hm_g0 hk) rfl rfl (by decide) ⟨Nat.zero_le _, Nat.zero_le _⟩ (Nat.le_of_ble_eq_true rfl) (hk_ki fun v h1 q => ?_) hk_nx
    obtain ⟨rfl, rfl⟩ := q
    refine cx_ifb_eq (tgt := 21) dX9_lend_14 (by decide) rfl (fun z14 => ?_) (fun z14 => ?_)
    · have f14 : cd_H c v = 1 := cd_H_1 (of_decide_eq_false z14)
      refine hk_iconst (v := nI 1) dX9_lend_21 rfl (by decide) ?_
      refine hk_callV dX9_lend_22 rfl mv_X9_80 (cm_isWrong (k := 1) hfl (by decide) hk) rfl rfl (hm_g0 hk) rfl rfl (by decide) ⟨Nat.zero_le _, Nat.zero_le _⟩ (Nat.le_of_ble_eq_true rfl) (hk_ki fun v h1 q => ?_) hk_nx
      obtain ⟨rfl, rfl⟩ := q
      try rw [hm_mt_mt]
      refine cx_ifb_eq (tgt := 30) dX9_lend_25 (by decide) rfl (fun z25 => ?_) (fun z25 => ?_)
      · exact absurd z25 (by decide)
      · skip
        refine hk_iconst (v := nI 0) dX9_lend_28 rfl (by decide) ?_
        exact hk_ireturn rfl (rfl) dX9_lend_29 (by have e : cd_lend S c (nI a) v x = 1 := (by first | (simp [cd_lend, cs_sq, cd_K, f6, vaa, f14]; done) | (rcases cd_O_or S a with o0 | o0 <;> rcases cd_O_or S b2 with o1 | o1 <;> simp [cd_lend, cs_sq, cd_K, f6, vaa, f14, o0, o1])); exact ⟨_, rfl, g, hm_x.rf, Or.inr ⟨by rw [e]; decide, A, hm_mt M (nI 1), rfl, by rw [e]; exact hm_mt0, ok, hk, rfl⟩⟩)
    · have f14 : cd_H c v = 0 := of_decide_eq_true z14
      obtain ⟨b2, hb2, rfl⟩ := cd_H_of (by omega) f14
      have vab2 : vN (nI b2) = b2 := vN_nI (by omega)
      refine hk_iconst (v := nI 0) dX9_lend_17 rfl (by decide) ?_
      refine hk_goto (tgt := 22) dX9_lend_18 (by decide) ?_
      refine hk_callV dX9_lend_22 rfl mv_X9_80 (cm_isWrong (k := 0) hfl (by decide) hk) rfl rfl (hm_g0 hk) rfl rfl (by decide) ⟨Nat.zero_le _, Nat.zero_le _⟩ (Nat.le_of_ble_eq_true rfl) (hk_ki fun v h1 q => ?_) hk_nx
      obtain ⟨rfl, rfl⟩ := q
      try rw [hm_mt_mt]
      refine cx_ifb_eq (tgt := 30) dX9_lend_25 (by decide) rfl (fun z25 => ?_) (fun z25 => ?_)
      · skip
        refine hk_aload_n dX9_lend_30 rfl rfl rfl ?_
        refine hk_getf dX9_lend_31 rfl fl_X9_16 (hm_g0 hk) rfl ?_
        refine hk_iload_n dX9_lend_34 rfl rfl rfl ?_
        refine hk_callF dX9_lend_35 rfl mf_X9_64 (cj_get hfl (hm_l0 hk ok) (hm_r (i := 0) hk ok (by omega) ok.2.2.2.2.1.1) (by omega) (by rw [← hm_n0 ok]; exact (hm_cap ok ok.2.2.2.2.1.1).1) (Nat.lt_of_le_of_lt (hm_cap ok ok.2.2.2.2.1.1).2.2 (by decide)) (hm_kg ok (by omega))) rfl rfl (hm_l0 hk ok) rfl rfl (by decide) ⟨Nat.zero_le _, Nat.zero_le _⟩ (Nat.le_of_ble_eq_true rfl) (hk_kr fun v h1 q => ?_) hk_nx
        obtain ⟨rfl, rfl⟩ := q
        refine hk_castJ dX9_lend_40 rfl (fun U H z => (z.2.1.2.2 _ (hm_kl ok (by omega))).1) kl_X9_45 ?_
        refine hk_callJ dX9_lend_43 rfl mv_X9_68 (cj_cc hfl (hm_kl ok (by omega))) rfl rfl (fun U H z => (z.2.1.2.2 _ (hm_kl ok (by omega))).1) (by decide) ⟨Nat.zero_le _, Nat.zero_le _⟩ (Nat.le_of_ble_eq_true rfl) (hk_ki fun v h1 q => ?_) hk_nx
        obtain ⟨rfl, rfl⟩ := q
        have hkl := hm_kl ok ha
        refine hk_bipush (v := nI 98) dX9_lend_46 rfl (by decide) ?_
        refine cx_icmp_eq (tgt := 59) (by omega) (by omega) dX9_lend_48 (by decide) rfl (fun z48 => ?_) (fun z48 => ?_)
        · skip
          have b48 : cd_B S a = 0 := cd_B_1 ok (by omega) (Or.inl z48)
          refine hk_iconst (v := nI 1) dX9_lend_59 rfl (by decide) ?_
          refine hk_goto (tgt := 64) dX9_lend_60 (by decide) ?_
          refine hk_istore dX9_lend_64 rfl (by decide) rfl ?_
          refine hk_aload_n dX9_lend_66 rfl rfl rfl ?_
          refine hk_iload_n dX9_lend_67 rfl rfl rfl ?_
          refine hk_iconst (v := nI 1) dX9_lend_68 rfl (by decide) ?_
          refine hk_sipush (v := nI 9999) dX9_lend_69 rfl (by decide) ?_
          refine hk_callS dX9_lend_72 rfl ms_X9_60 (cm_isBetween hfl) rfl rfl (by decide) ⟨Nat.zero_le _, Nat.zero_le _⟩ (Nat.le_of_ble_eq_true rfl) (hk_ki fun v h1 q => ?_) hk_nx
          obtain ⟨rfl, rfl⟩ := q
          refine cx_top (congrArg cx_b (cs_bwR _ _)) ?_
          refine cx_ifb_eq (tgt := 88) dX9_lend_75 (by decide) rfl (fun z75 => ?_) (fun z75 => ?_)
          · have f75 : cd_R x 9999 = 2 := cd_R_2 (of_decide_eq_false z75)
            refine hk_iconst (v := nI 2) dX9_lend_88 rfl (by decide) ?_
            refine hk_goto (tgt := 113) dX9_lend_89 (by decide) ?_
            refine hk_callV dX9_lend_113 rfl mv_X9_80 (cm_isWrong (k := 2) hfl (by decide) hk) rfl rfl (hm_g0 hk) rfl rfl (by decide) ⟨Nat.zero_le _, Nat.zero_le _⟩ (Nat.le_of_ble_eq_true rfl) (hk_ki fun v h1 q => ?_) hk_nx
            obtain ⟨rfl, rfl⟩ := q
            try rw [hm_mt_mt]
            refine cx_ifb_eq (tgt := 121) dX9_lend_116 (by decide) rfl (fun z116 => ?_) (fun z116 => ?_)
            · exact absurd z116 (by decide)
            · skip
              refine hk_iconst (v := nI 0) dX9_lend_119 rfl (by decide) ?_
              exact hk_ireturn rfl (rfl) dX9_lend_120 (by have e : cd_lend S c (nI a) (nI b2) x = 2 := (by first | (simp [cd_lend, cs_sq, cd_K, f6, vaa, f14, vab2, b48, f75]; done) | (rcases cd_O_or S a with o0 | o0 <;> rcases cd_O_or S b2 with o1 | o1 <;> simp [cd_lend, cs_sq, cd_K, f6, vaa, f14, vab2, b48, f75, o0, o1])); exact ⟨_, rfl, g, hm_x.rf, Or.inr ⟨by rw [e]; decide, A, hm_mt M (nI 2), rfl, by rw [e]; exact hm_mt0, ok, hk, rfl⟩⟩)
          · have f75 : cd_R x 9999 = 0 := of_decide_eq_true z75
            refine hk_iload_n dX9_lend_78 rfl rfl rfl ?_
            refine hk_iload_n dX9_lend_79 rfl rfl rfl ?_
            refine cx_icmp_eq (tgt := 88) (by omega) (by omega) dX9_lend_80 (by decide) rfl (fun z80 => ?_) (fun z80 => ?_)
            · skip
              have f80 : cd_D (nI b2) (nI a) = 2 := cd_D_eq (by omega)
              refine hk_iconst (v := nI 2) dX9_lend_88 rfl (by decide) ?_
              refine hk_goto (tgt := 113) dX9_lend_89 (by decide) ?_
              refine hk_callV dX9_lend_113 rfl mv_X9_80 (cm_isWrong (k := 2) hfl (by decide) hk) rfl rfl (hm_g0 hk) rfl rfl (by decide) ⟨Nat.zero_le _, Nat.zero_le _⟩ (Nat.le_of_ble_eq_true rfl) (hk_ki fun v h1 q => ?_) hk_nx
              obtain ⟨rfl, rfl⟩ := q
              try rw [hm_mt_mt]
              refine cx_ifb_eq (tgt := 121) dX9_lend_116 (by decide) rfl (fun z116 => ?_) (fun z116 => ?_)
              · exact absurd z116 (by decide)
              · skip
                refine hk_iconst (v := nI 0) dX9_lend_119 rfl (by decide) ?_
                exact hk_ireturn rfl (rfl) dX9_lend_120 (by have e : cd_lend S c (nI a) (nI b2) x = 2 := (by first | (simp [cd_lend, cs_sq, cd_K, f6, vaa, f14, vab2, b48, f75, f80]; done) | (rcases cd_O_or S a with o0 | o0 <;> rcases cd_O_or S b2 with o1 | o1 <;> simp [cd_lend, cs_sq, cd_K, f6, vaa, f14, vab2, b48, f75, f80, o0, o1])); exact ⟨_, rfl, g, hm_x.rf, Or.inr ⟨by rw [e]; decide, A, hm_mt M (nI 2), rfl, by rw [e]; exact hm_mt0, ok, hk, rfl⟩⟩)
            · skip
              have f80 : cd_D (nI b2) (nI a) = 0 := cd_D_ne (by omega)
              refine hk_iload dX9_lend_83 rfl rfl ?_
              refine cx_ifn_ne (tgt := 92) (by omega) dX9_lend_85 (by decide) rfl (fun z85 => ?_) (fun z85 => ?_)
              · skip
                refine hk_aload_n dX9_lend_92 rfl rfl rfl ?_
                refine hk_iload_n dX9_lend_93 rfl rfl rfl ?_
                refine hk_callV dX9_lend_94 rfl mv_X9_91 (cm_hasFailed hfl hk ok (by omega)) rfl rfl (hm_g0 hk) rfl rfl (by decide) ⟨Nat.zero_le _, Nat.zero_le _⟩ (Nat.le_of_ble_eq_true rfl) (hk_ki fun v h1 q => ?_) hk_nx
                obtain ⟨rfl, rfl⟩ := q
                refine cx_ifb_ne (tgt := 108) dX9_lend_97 (by decide) rfl (fun z97 => ?_) (fun z97 => ?_)
                · have f97 : cd_O S a = 3 := cd_O_3 (of_decide_eq_true z97)
                  refine hk_iconst (v := nI 3) dX9_lend_108 rfl (by decide) ?_
                  refine hk_goto (tgt := 113) dX9_lend_109 (by decide) ?_
                  refine hk_callV dX9_lend_113 rfl mv_X9_80 (cm_isWrong (k := 3) hfl (by decide) hk) rfl rfl (hm_g0 hk) rfl rfl (by decide) ⟨Nat.zero_le _, Nat.zero_le _⟩ (Nat.le_of_ble_eq_true rfl) (hk_ki fun v h1 q => ?_) hk_nx
                  obtain ⟨rfl, rfl⟩ := q
                  try rw [hm_mt_mt]
                  refine cx_ifb_eq (tgt := 121) dX9_lend_116 (by decide) rfl (fun z116 => ?_) (fun z116 => ?_)
                  · exact absurd z116 (by decide)
                  · skip
                    refine hk_iconst (v := nI 0) dX9_lend_119 rfl (by decide) ?_
                    exact hk_ireturn rfl (rfl) dX9_lend_120 (by have e : cd_lend S c (nI a) (nI b2) x = 3 := (by first | (simp [cd_lend, cs_sq, cd_K, f6, vaa, f14, vab2, b48, f75, f80, f97]; done) | (rcases cd_O_or S a with o0 | o0 <;> rcases cd_O_or S b2 with o1 | o1 <;> simp [cd_lend, cs_sq, cd_K, f6, vaa, f14, vab2, b48, f75, f80, f97, o0, o1])); exact ⟨_, rfl, g, hm_x.rf, Or.inr ⟨by rw [e]; decide, A, hm_mt M (nI 3), rfl, by rw [e]; exact hm_mt0, ok, hk, rfl⟩⟩)
                · have f97 : cd_O S a = 0 := Decidable.of_not_not (of_decide_eq_false z97)
                  refine hk_aload_n dX9_lend_100 rfl rfl rfl ?_
                  refine hk_iload_n dX9_lend_101 rfl rfl rfl ?_
                  refine hk_callV dX9_lend_102 rfl mv_X9_91 (cm_hasFailed hfl hk ok (by omega)) rfl rfl (hm_g0 hk) rfl rfl (by decide) ⟨Nat.zero_le _, Nat.zero_le _⟩ (Nat.le_of_ble_eq_true rfl) (hk_ki fun v h1 q => ?_) hk_nx
                  obtain ⟨rfl, rfl⟩ := q
                  refine cx_ifb_eq (tgt := 112) dX9_lend_105 (by decide) rfl (fun z105 => ?_) (fun z105 => ?_)
                  · have f105 : cd_O S b2 = 0 := Decidable.of_not_not (of_decide_eq_false z105)
                    refine hk_iconst (v := nI 0) dX9_lend_112 rfl (by decide) ?_
                    refine hk_callV dX9_lend_113 rfl mv_X9_80 (cm_isWrong (k := 0) hfl (by decide) hk) rfl rfl (hm_g0 hk) rfl rfl (by decide) ⟨Nat.zero_le _, Nat.zero_le _⟩ (Nat.le_of_ble_eq_true rfl) (hk_ki fun v h1 q => ?_) hk_nx
                    obtain ⟨rfl, rfl⟩ := q
                    try rw [hm_mt_mt]
                    refine cx_ifb_eq (tgt := 121) dX9_lend_116 (by decide) rfl (fun z116 => ?_) (fun z116 => ?_)
                    · skip
                      refine hk_aload_n dX9_lend_121 rfl rfl rfl ?_
                      refine hk_getf dX9_lend_122 rfl fl_X9_35 (hm_g0 hk) rfl ?_
                      refine hk_iload_n dX9_lend_125 rfl rfl rfl ?_
                      refine hx_aaldI dX9_lend_126 rfl (hm_g10 hk) (show _ < 6 by omega) (by decide) (if_pos (show _ < 6 by omega)) ?_
                      refine hk_iload_n dX9_lend_127 rfl rfl rfl ?_
                      refine hk_dup2 dX9_lend_128 rfl rfl rfl ?_
                      refine hx_iald dX9_lend_129 rfl (hm_g11 hk (by omega)) (show _ < 6 by omega) (by decide) ?_
                      refine cx_top (if_pos (by omega)) ?_
                      refine hk_iload_n dX9_lend_130 rfl rfl rfl ?_
                      refine hk_iadd dX9_lend_131 rfl ?_
                      refine hx_iast dX9_lend_132 rfl (hm_g11 hk (by omega)) (show _ < 6 by omega) (by decide) ?_
                      refine hx_cg (hm_v19 hk (by omega) (by omega)) ?_
                      refine hk_aload_n dX9_lend_133 rfl rfl rfl ?_
                      refine hk_getf dX9_lend_134 rfl fl_X9_35 (hm_g0 hk) rfl ?_
                      refine hk_iload_n dX9_lend_137 rfl rfl rfl ?_
                      refine hx_aaldI dX9_lend_138 rfl (hm_g10 hk) (show _ < 6 by omega) (by decide) (if_pos (show _ < 6 by omega)) ?_
                      refine hk_iload_n dX9_lend_139 rfl rfl rfl ?_
                      refine hk_dup2 dX9_lend_140 rfl rfl rfl ?_
                      refine hx_iald dX9_lend_141 rfl (hm_g11 hk (by omega)) (show _ < 6 by omega) (by decide) ?_
                      refine cx_top (if_pos (by omega)) ?_
                      refine hk_iload_n dX9_lend_142 rfl rfl rfl ?_
                      refine hk_iadd dX9_lend_143 rfl ?_
                      refine hx_iast dX9_lend_144 rfl (hm_g11 hk (by omega)) (show _ < 6 by omega) (by decide) ?_
                      refine hx_cg (hm_v19 hk (by omega) (by omega)) ?_
                      refine hk_aload_n dX9_lend_145 rfl rfl rfl ?_
                      refine hk_getf dX9_lend_146 rfl fl_X9_35 (hm_g0 hk) rfl ?_
                      refine hk_iload_n dX9_lend_149 rfl rfl rfl ?_
                      refine hx_aaldI dX9_lend_150 rfl (hm_g10 hk) (show _ < 6 by omega) (by decide) (if_pos (show _ < 6 by omega)) ?_
                      refine hk_iload_n dX9_lend_151 rfl rfl rfl ?_
                      refine hx_iald dX9_lend_152 rfl (hm_g11 hk (by omega)) (show _ < 6 by omega) (by decide) ?_
                      refine cx_top (if_pos (by omega)) ?_
                      exact hk_ireturn rfl (rfl) dX9_lend_153 (by have e : cd_lend S c (nI a) (nI b2) x = 0 := (by simp [cd_lend, cs_sq, f6, vaa, f14, vab2, b48, f75, f80, f97, f105, cd_K]); exact ⟨_, rfl, g, hm_x.rf, Or.inl ⟨by rw [e]; rfl, by simp only [cs_lend, cs_cadd, vaa, vab2] <;> rfl, A, hm_mt M (nI 0), rfl, hm_mt0, ok, hk, by simp only [cs_lend, cs_cadd, vaa, vab2] <;> rfl⟩⟩)
                    · exact absurd z116 (by decide)
                  · have f105 : cd_O S b2 = 3 := cd_O_3 (of_decide_eq_true z105)
                    refine hk_iconst (v := nI 3) dX9_lend_108 rfl (by decide) ?_
                    refine hk_goto (tgt := 113) dX9_lend_109 (by decide) ?_
                    refine hk_callV dX9_lend_113 rfl mv_X9_80 (cm_isWrong (k := 3) hfl (by decide) hk) rfl rfl (hm_g0 hk) rfl rfl (by decide) ⟨Nat.zero_le _, Nat.zero_le _⟩ (Nat.le_of_ble_eq_true rfl) (hk_ki fun v h1 q => ?_) hk_nx
                    obtain ⟨rfl, rfl⟩ := q
                    try rw [hm_mt_mt]
                    refine cx_ifb_eq (tgt := 121) dX9_lend_116 (by decide) rfl (fun z116 => ?_) (fun z116 => ?_)
                    · exact absurd z116 (by decide)
                    · skip
                      refine hk_iconst (v := nI 0) dX9_lend_119 rfl (by decide) ?_
                      exact hk_ireturn rfl (rfl) dX9_lend_120 (by have e : cd_lend S c (nI a) (nI b2) x = 3 := (by first | (simp [cd_lend, cs_sq, cd_K, f6, vaa, f14, vab2, b48, f75, f80, f97, f105]; done) | (rcases cd_O_or S a with o0 | o0 <;> rcases cd_O_or S b2 with o1 | o1 <;> simp [cd_lend, cs_sq, cd_K, f6, vaa, f14, vab2, b48, f75, f80, f97, f105, o0, o1])); exact ⟨_, rfl, g, hm_x.rf, Or.inr ⟨by rw [e]; decide, A, hm_mt M (nI 3), rfl, by rw [e]; exact hm_mt0, ok, hk, rfl⟩⟩)
              · exact absurd z85 (by decide)
        · skip
          refine hk_aload_n dX9_lend_51 rfl rfl rfl ?_
          refine hk_iload_n dX9_lend_52 rfl rfl rfl ?_
          refine hk_callV dX9_lend_53 rfl mv_X9_146 (cm_wasBank hfl hk ok (by omega)) rfl rfl (hm_g0 hk) rfl rfl (by decide) ⟨Nat.zero_le _, Nat.zero_le _⟩ (Nat.le_of_ble_eq_true rfl) (hk_ki fun v h1 q => ?_) hk_nx
          obtain ⟨rfl, rfl⟩ := q
          refine cx_ifb_eq (tgt := 63) dX9_lend_56 (by decide) rfl (fun z56 => ?_) (fun z56 => ?_)
          · have f56 : cd_O S a = 0 := Decidable.of_not_not (of_decide_eq_false z56)
            have b48 : cd_B S a = 2 := cd_B_0 ok (by omega) z48 f56
            refine hk_iconst (v := nI 0) dX9_lend_63 rfl (by decide) ?_
            refine hk_istore dX9_lend_64 rfl (by decide) rfl ?_
            refine hk_aload_n dX9_lend_66 rfl rfl rfl ?_
            refine hk_iload_n dX9_lend_67 rfl rfl rfl ?_
            refine hk_iconst (v := nI 1) dX9_lend_68 rfl (by decide) ?_
            refine hk_sipush (v := nI 9999) dX9_lend_69 rfl (by decide) ?_
            refine hk_callS dX9_lend_72 rfl ms_X9_60 (cm_isBetween hfl) rfl rfl (by decide) ⟨Nat.zero_le _, Nat.zero_le _⟩ (Nat.le_of_ble_eq_true rfl) (hk_ki fun v h1 q => ?_) hk_nx
            obtain ⟨rfl, rfl⟩ := q
            refine cx_top (congrArg cx_b (cs_bwR _ _)) ?_
            refine cx_ifb_eq (tgt := 88) dX9_lend_75 (by decide) rfl (fun z75 => ?_) (fun z75 => ?_)
            · have f75 : cd_R x 9999 = 2 := cd_R_2 (of_decide_eq_false z75)
              refine hk_iconst (v := nI 2) dX9_lend_88 rfl (by decide) ?_
              refine hk_goto (tgt := 113) dX9_lend_89 (by decide) ?_
              refine hk_callV dX9_lend_113 rfl mv_X9_80 (cm_isWrong (k := 2) hfl (by decide) hk) rfl rfl (hm_g0 hk) rfl rfl (by decide) ⟨Nat.zero_le _, Nat.zero_le _⟩ (Nat.le_of_ble_eq_true rfl) (hk_ki fun v h1 q => ?_) hk_nx
              obtain ⟨rfl, rfl⟩ := q
              try rw [hm_mt_mt]
              refine cx_ifb_eq (tgt := 121) dX9_lend_116 (by decide) rfl (fun z116 => ?_) (fun z116 => ?_)
              · exact absurd z116 (by decide)
              · skip
                refine hk_iconst (v := nI 0) dX9_lend_119 rfl (by decide) ?_
                exact hk_ireturn rfl (rfl) dX9_lend_120 (by have e : cd_lend S c (nI a) (nI b2) x = 2 := (by first | (simp [cd_lend, cs_sq, cd_K, f6, vaa, f14, vab2, f56, b48, f75]; done) | (rcases cd_O_or S a with o0 | o0 <;> rcases cd_O_or S b2 with o1 | o1 <;> simp [cd_lend, cs_sq, cd_K, f6, vaa, f14, vab2, f56, b48, f75, o0, o1])); exact ⟨_, rfl, g, hm_x.rf, Or.inr ⟨by rw [e]; decide, A, hm_mt M (nI 2), rfl, by rw [e]; exact hm_mt0, ok, hk, rfl⟩⟩)
            · have f75 : cd_R x 9999 = 0 := of_decide_eq_true z75
              refine hk_iload_n dX9_lend_78 rfl rfl rfl ?_
              refine hk_iload_n dX9_lend_79 rfl rfl rfl ?_
              refine cx_icmp_eq (tgt := 88) (by omega) (by omega) dX9_lend_80 (by decide) rfl (fun z80 => ?_) (fun z80 => ?_)
              · skip
                have f80 : cd_D (nI b2) (nI a) = 2 := cd_D_eq (by omega)
                refine hk_iconst (v := nI 2) dX9_lend_88 rfl (by decide) ?_
                refine hk_goto (tgt := 113) dX9_lend_89 (by decide) ?_
                refine hk_callV dX9_lend_113 rfl mv_X9_80 (cm_isWrong (k := 2) hfl (by decide) hk) rfl rfl (hm_g0 hk) rfl rfl (by decide) ⟨Nat.zero_le _, Nat.zero_le _⟩ (Nat.le_of_ble_eq_true rfl) (hk_ki fun v h1 q => ?_) hk_nx
                obtain ⟨rfl, rfl⟩ := q
                try rw [hm_mt_mt]
                refine cx_ifb_eq (tgt := 121) dX9_lend_116 (by decide) rfl (fun z116 => ?_) (fun z116 => ?_)
                · exact absurd z116 (by decide)
                · skip
                  refine hk_iconst (v := nI 0) dX9_lend_119 rfl (by decide) ?_
                  exact hk_ireturn rfl (rfl) dX9_lend_120 (by have e : cd_lend S c (nI a) (nI b2) x = 2 := (by first | (simp [cd_lend, cs_sq, cd_K, f6, vaa, f14, vab2, f56, b48, f75, f80]; done) | (rcases cd_O_or S a with o0 | o0 <;> rcases cd_O_or S b2 with o1 | o1 <;> simp [cd_lend, cs_sq, cd_K, f6, vaa, f14, vab2, f56, b48, f75, f80, o0, o1])); exact ⟨_, rfl, g, hm_x.rf, Or.inr ⟨by rw [e]; decide, A, hm_mt M (nI 2), rfl, by rw [e]; exact hm_mt0, ok, hk, rfl⟩⟩)
              · skip
                have f80 : cd_D (nI b2) (nI a) = 0 := cd_D_ne (by omega)
                refine hk_iload dX9_lend_83 rfl rfl ?_
                refine cx_ifn_ne (tgt := 92) (by omega) dX9_lend_85 (by decide) rfl (fun z85 => ?_) (fun z85 => ?_)
                · exact absurd z85 (by decide)
                · skip
                  refine hk_iconst (v := nI 2) dX9_lend_88 rfl (by decide) ?_
                  refine hk_goto (tgt := 113) dX9_lend_89 (by decide) ?_
                  refine hk_callV dX9_lend_113 rfl mv_X9_80 (cm_isWrong (k := 2) hfl (by decide) hk) rfl rfl (hm_g0 hk) rfl rfl (by decide) ⟨Nat.zero_le _, Nat.zero_le _⟩ (Nat.le_of_ble_eq_true rfl) (hk_ki fun v h1 q => ?_) hk_nx
                  obtain ⟨rfl, rfl⟩ := q
                  try rw [hm_mt_mt]
                  refine cx_ifb_eq (tgt := 121) dX9_lend_116 (by decide) rfl (fun z116 => ?_) (fun z116 => ?_)
                  · exact absurd z116 (by decide)
                  · skip
                    refine hk_iconst (v := nI 0) dX9_lend_119 rfl (by decide) ?_
                    exact hk_ireturn rfl (rfl) dX9_lend_120 (by have e : cd_lend S c (nI a) (nI b2) x = 2 := (by first | (simp [cd_lend, cs_sq, cd_K, f6, vaa, f14, vab2, f56, b48, f75, f80]; done) | (rcases cd_O_or S a with o0 | o0 <;> rcases cd_O_or S b2 with o1 | o1 <;> simp [cd_lend, cs_sq, cd_K, f6, vaa, f14, vab2, f56, b48, f75, f80, o0, o1])); exact ⟨_, rfl, g, hm_x.rf, Or.inr ⟨by rw [e]; decide, A, hm_mt M (nI 2), rfl, by rw [e]; exact hm_mt0, ok, hk, rfl⟩⟩)
          · have f56 : cd_O S a = 3 := cd_O_3 (of_decide_eq_true z56)
            have b48 : cd_B S a = 0 := cd_B_1 ok (by omega) (Or.inr f56)
            refine hk_iconst (v := nI 1) dX9_lend_59 rfl (by decide) ?_
            refine hk_goto (tgt := 64) dX9_lend_60 (by decide) ?_
            refine hk_istore dX9_lend_64 rfl (by decide) rfl ?_
            refine hk_aload_n dX9_lend_66 rfl rfl rfl ?_
            refine hk_iload_n dX9_lend_67 rfl rfl rfl ?_
            refine hk_iconst (v := nI 1) dX9_lend_68 rfl (by decide) ?_
            refine hk_sipush (v := nI 9999) dX9_lend_69 rfl (by decide) ?_
            refine hk_callS dX9_lend_72 rfl ms_X9_60 (cm_isBetween hfl) rfl rfl (by decide) ⟨Nat.zero_le _, Nat.zero_le _⟩ (Nat.le_of_ble_eq_true rfl) (hk_ki fun v h1 q => ?_) hk_nx
            obtain ⟨rfl, rfl⟩ := q
            refine cx_top (congrArg cx_b (cs_bwR _ _)) ?_
            refine cx_ifb_eq (tgt := 88) dX9_lend_75 (by decide) rfl (fun z75 => ?_) (fun z75 => ?_)
            · have f75 : cd_R x 9999 = 2 := cd_R_2 (of_decide_eq_false z75)
              refine hk_iconst (v := nI 2) dX9_lend_88 rfl (by decide) ?_
              refine hk_goto (tgt := 113) dX9_lend_89 (by decide) ?_
              refine hk_callV dX9_lend_113 rfl mv_X9_80 (cm_isWrong (k := 2) hfl (by decide) hk) rfl rfl (hm_g0 hk) rfl rfl (by decide) ⟨Nat.zero_le _, Nat.zero_le _⟩ (Nat.le_of_ble_eq_true rfl) (hk_ki fun v h1 q => ?_) hk_nx
              obtain ⟨rfl, rfl⟩ := q
              try rw [hm_mt_mt]
              refine cx_ifb_eq (tgt := 121) dX9_lend_116 (by decide) rfl (fun z116 => ?_) (fun z116 => ?_)
              · exact absurd z116 (by decide)
              · skip
                refine hk_iconst (v := nI 0) dX9_lend_119 rfl (by decide) ?_
                exact hk_ireturn rfl (rfl) dX9_lend_120 (by have e : cd_lend S c (nI a) (nI b2) x = 2 := (by first | (simp [cd_lend, cs_sq, cd_K, f6, vaa, f14, vab2, f56, b48, f75]; done) | (rcases cd_O_or S a with o0 | o0 <;> rcases cd_O_or S b2 with o1 | o1 <;> simp [cd_lend, cs_sq, cd_K, f6, vaa, f14, vab2, f56, b48, f75, o0, o1])); exact ⟨_, rfl, g, hm_x.rf, Or.inr ⟨by rw [e]; decide, A, hm_mt M (nI 2), rfl, by rw [e]; exact hm_mt0, ok, hk, rfl⟩⟩)
            · have f75 : cd_R x 9999 = 0 := of_decide_eq_true z75
              refine hk_iload_n dX9_lend_78 rfl rfl rfl ?_
              refine hk_iload_n dX9_lend_79 rfl rfl rfl ?_
              refine cx_icmp_eq (tgt := 88) (by omega) (by omega) dX9_lend_80 (by decide) rfl (fun z80 => ?_) (fun z80 => ?_)
              · skip
                have f80 : cd_D (nI b2) (nI a) = 2 := cd_D_eq (by omega)
                refine hk_iconst (v := nI 2) dX9_lend_88 rfl (by decide) ?_
                refine hk_goto (tgt := 113) dX9_lend_89 (by decide) ?_
                refine hk_callV dX9_lend_113 rfl mv_X9_80 (cm_isWrong (k := 2) hfl (by decide) hk) rfl rfl (hm_g0 hk) rfl rfl (by decide) ⟨Nat.zero_le _, Nat.zero_le _⟩ (Nat.le_of_ble_eq_true rfl) (hk_ki fun v h1 q => ?_) hk_nx
                obtain ⟨rfl, rfl⟩ := q
                try rw [hm_mt_mt]
                refine cx_ifb_eq (tgt := 121) dX9_lend_116 (by decide) rfl (fun z116 => ?_) (fun z116 => ?_)
                · exact absurd z116 (by decide)
                · skip
                  refine hk_iconst (v := nI 0) dX9_lend_119 rfl (by decide) ?_
                  exact hk_ireturn rfl (rfl) dX9_lend_120 (by have e : cd_lend S c (nI a) (nI b2) x = 2 := (by first | (simp [cd_lend, cs_sq, cd_K, f6, vaa, f14, vab2, f56, b48, f75, f80]; done) | (rcases cd_O_or S a with o0 | o0 <;> rcases cd_O_or S b2 with o1 | o1 <;> simp [cd_lend, cs_sq, cd_K, f6, vaa, f14, vab2, f56, b48, f75, f80, o0, o1])); exact ⟨_, rfl, g, hm_x.rf, Or.inr ⟨by rw [e]; decide, A, hm_mt M (nI 2), rfl, by rw [e]; exact hm_mt0, ok, hk, rfl⟩⟩)
              · skip
                have f80 : cd_D (nI b2) (nI a) = 0 := cd_D_ne (by omega)
                refine hk_iload dX9_lend_83 rfl rfl ?_
                refine cx_ifn_ne (tgt := 92) (by omega) dX9_lend_85 (by decide) rfl (fun z85 => ?_) (fun z85 => ?_)
                · skip
                  refine hk_aload_n dX9_lend_92 rfl rfl rfl ?_
                  refine hk_iload_n dX9_lend_93 rfl rfl rfl ?_
                  refine hk_callV dX9_lend_94 rfl mv_X9_91 (cm_hasFailed hfl hk ok (by omega)) rfl rfl (hm_g0 hk) rfl rfl (by decide) ⟨Nat.zero_le _, Nat.zero_le _⟩ (Nat.le_of_ble_eq_true rfl) (hk_ki fun v h1 q => ?_) hk_nx
                  obtain ⟨rfl, rfl⟩ := q
                  refine cx_ifb_ne (tgt := 108) dX9_lend_97 (by decide) rfl (fun z97 => ?_) (fun z97 => ?_)
                  · have f97 : cd_O S a = 3 := cd_O_3 (of_decide_eq_true z97)
                    refine hk_iconst (v := nI 3) dX9_lend_108 rfl (by decide) ?_
                    refine hk_goto (tgt := 113) dX9_lend_109 (by decide) ?_
                    refine hk_callV dX9_lend_113 rfl mv_X9_80 (cm_isWrong (k := 3) hfl (by decide) hk) rfl rfl (hm_g0 hk) rfl rfl (by decide) ⟨Nat.zero_le _, Nat.zero_le _⟩ (Nat.le_of_ble_eq_true rfl) (hk_ki fun v h1 q => ?_) hk_nx
                    obtain ⟨rfl, rfl⟩ := q
                    try rw [hm_mt_mt]
                    refine cx_ifb_eq (tgt := 121) dX9_lend_116 (by decide) rfl (fun z116 => ?_) (fun z116 => ?_)
                    · exact absurd z116 (by decide)
                    · skip
                      refine hk_iconst (v := nI 0) dX9_lend_119 rfl (by decide) ?_
                      exact hk_ireturn rfl (rfl) dX9_lend_120 (by have e : cd_lend S c (nI a) (nI b2) x = 3 := (by first | (simp [cd_lend, cs_sq, cd_K, f6, vaa, f14, vab2, f56, b48, f75, f80, f97]; done) | (rcases cd_O_or S a with o0 | o0 <;> rcases cd_O_or S b2 with o1 | o1 <;> simp [cd_lend, cs_sq, cd_K, f6, vaa, f14, vab2, f56, b48, f75, f80, f97, o0, o1])); exact ⟨_, rfl, g, hm_x.rf, Or.inr ⟨by rw [e]; decide, A, hm_mt M (nI 3), rfl, by rw [e]; exact hm_mt0, ok, hk, rfl⟩⟩)
                  · exact absurd ((f56).symm.trans (Decidable.of_not_not (of_decide_eq_false z97))) (by decide)
                · exact absurd z85 (by decide)
      · exact absurd z25 (by decide)
theorem cm_hand {v t q x : Int32} (hfl : l.stackTraces = false) (hw : hm_Wd G m S c nc nb thr g h) : hk_Ctr G l 8 yX9_hand cX9_hand 7 (some .int) 0 0 [.ref m, .int v, .int t, .int q, .int x] h (hk_qi fun rv h1 => ml_Q G m (ml_tr [1, 2, 3, 4] (cd_hand S c v t q x)) S c nc nb (cs_hand S v t q x) (c) (nc) (nb) g (rv = (cs_hand S v t q x).1 19 (vN v * 6 + vN q)) h1) hk_no := by
  obtain ⟨A, M, rfl, rfl, ok, hk, rfl⟩ := hw
  have hc1 := ok.1.2.1
  have hc := ok.1.2.2
  have hnc := ok.2.1.2
  have hnb := ok.2.2.1.2
  refine hk_enter (by decide) hfl (Nat.le_of_ble_eq_true rfl) rfl ?_
  refine hk_aload_n dX9_hand_0 rfl rfl rfl ?_
  refine hk_aload_n dX9_hand_1 rfl rfl rfl ?_
  refine hk_iload_n dX9_hand_2 rfl rfl rfl ?_
  refine hk_callV dX9_hand_3 rfl mv_X9_84 (cm_isHouse hfl hk ok) rfl rfl (hm_g0 hk) rfl rfl (by decide) ⟨Nat.zero_le _, Nat.zero_le _⟩ (Nat.le_of_ble_eq_true rfl) (hk_ki fun v h1 q => ?_) hk_nx
  obtain ⟨rfl, rfl⟩ := q
  refine cx_ifb_eq (tgt := 29) dX9_hand_6 (by decide) rfl (fun z6 => ?_) (fun z6 => ?_)
  · have f6 : cd_H c v = 1 := cd_H_1 (of_decide_eq_false z6)
    refine hk_iconst (v := nI 1) dX9_hand_29 rfl (by decide) ?_
    refine hk_callV dX9_hand_30 rfl mv_X9_80 (cm_isWrong (k := 1) hfl (by decide) hk) rfl rfl (hm_g0 hk) rfl rfl (by decide) ⟨Nat.zero_le _, Nat.zero_le _⟩ (Nat.le_of_ble_eq_true rfl) (hk_ki fun v h1 q => ?_) hk_nx
    obtain ⟨rfl, rfl⟩ := q
    try rw [hm_mt_mt]
    refine cx_ifb_eq (tgt := 38) dX9_hand_33 (by decide) rfl (fun z33 => ?_) (fun z33 => ?_)
    · exact absurd z33 (by decide)
    · skip
      refine hk_iconst (v := nI 0) dX9_hand_36 rfl (by decide) ?_
      exact hk_ireturn rfl (rfl) dX9_hand_37 (by have e : cd_hand S c v t q x = 1 := (by first | (simp [cd_hand, cs_sq, cd_K, f6]; done) | (rcases cd_O_or S a with o0 | o0 <;> rcases cd_O_or S b2 with o1 | o1 <;> rcases cd_O_or S e3 with o2 | o2 <;> rcases cd_D_or (nI b2) (nI e3) with o3 | o3 <;> simp [cd_hand, cs_sq, cd_K, f6, o0, o1, o2, o3])); exact ⟨_, rfl, g, hm_x.rf, Or.inr ⟨by rw [e]; decide, A, hm_mt M (nI 1), rfl, by rw [e]; exact hm_mt0, ok, hk, rfl⟩⟩)
  · have f6 : cd_H c v = 0 := of_decide_eq_true z6
    obtain ⟨a, ha, rfl⟩ := cd_H_of (by omega) f6
    have vaa : vN (nI a) = a := vN_nI (by omega)
    refine hk_aload_n dX9_hand_9 rfl rfl rfl ?_
    refine hk_iload_n dX9_hand_10 rfl rfl rfl ?_
    refine hk_callV dX9_hand_11 rfl mv_X9_84 (cm_isHouse hfl hk ok) rfl rfl (hm_g0 hk) rfl rfl (by decide) ⟨Nat.zero_le _, Nat.zero_le _⟩ (Nat.le_of_ble_eq_true rfl) (hk_ki fun v h1 q => ?_) hk_nx
    obtain ⟨rfl, rfl⟩ := q
    refine cx_ifb_eq (tgt := 29) dX9_hand_14 (by decide) rfl (fun z14 => ?_) (fun z14 => ?_)
    · have f14 : cd_H c t = 1 := cd_H_1 (of_decide_eq_false z14)
      refine hk_iconst (v := nI 1) dX9_hand_29 rfl (by decide) ?_
      refine hk_callV dX9_hand_30 rfl mv_X9_80 (cm_isWrong (k := 1) hfl (by decide) hk) rfl rfl (hm_g0 hk) rfl rfl (by decide) ⟨Nat.zero_le _, Nat.zero_le _⟩ (Nat.le_of_ble_eq_true rfl) (hk_ki fun v h1 q => ?_) hk_nx
      obtain ⟨rfl, rfl⟩ := q
      try rw [hm_mt_mt]
      refine cx_ifb_eq (tgt := 38) dX9_hand_33 (by decide) rfl (fun z33 => ?_) (fun z33 => ?_)
      · exact absurd z33 (by decide)
      · skip
        refine hk_iconst (v := nI 0) dX9_hand_36 rfl (by decide) ?_
        exact hk_ireturn rfl (rfl) dX9_hand_37 (by have e : cd_hand S c (nI a) t q x = 1 := (by first | (simp [cd_hand, cs_sq, cd_K, f6, vaa, f14]; done) | (rcases cd_O_or S a with o0 | o0 <;> rcases cd_O_or S b2 with o1 | o1 <;> rcases cd_O_or S e3 with o2 | o2 <;> rcases cd_D_or (nI b2) (nI e3) with o3 | o3 <;> simp [cd_hand, cs_sq, cd_K, f6, vaa, f14, o0, o1, o2, o3])); exact ⟨_, rfl, g, hm_x.rf, Or.inr ⟨by rw [e]; decide, A, hm_mt M (nI 1), rfl, by rw [e]; exact hm_mt0, ok, hk, rfl⟩⟩)
    · have f14 : cd_H c t = 0 := of_decide_eq_true z14
      obtain ⟨b2, hb2, rfl⟩ := cd_H_of (by omega) f14
      have vab2 : vN (nI b2) = b2 := vN_nI (by omega)
      refine hk_aload_n dX9_hand_17 rfl rfl rfl ?_
      refine hk_iload_n dX9_hand_18 rfl rfl rfl ?_
      refine hk_callV dX9_hand_19 rfl mv_X9_84 (cm_isHouse hfl hk ok) rfl rfl (hm_g0 hk) rfl rfl (by decide) ⟨Nat.zero_le _, Nat.zero_le _⟩ (Nat.le_of_ble_eq_true rfl) (hk_ki fun v h1 q => ?_) hk_nx
      obtain ⟨rfl, rfl⟩ := q
      refine cx_ifb_eq (tgt := 29) dX9_hand_22 (by decide) rfl (fun z22 => ?_) (fun z22 => ?_)
      · have f22 : cd_H c q = 1 := cd_H_1 (of_decide_eq_false z22)
        refine hk_iconst (v := nI 1) dX9_hand_29 rfl (by decide) ?_
        refine hk_callV dX9_hand_30 rfl mv_X9_80 (cm_isWrong (k := 1) hfl (by decide) hk) rfl rfl (hm_g0 hk) rfl rfl (by decide) ⟨Nat.zero_le _, Nat.zero_le _⟩ (Nat.le_of_ble_eq_true rfl) (hk_ki fun v h1 q => ?_) hk_nx
        obtain ⟨rfl, rfl⟩ := q
        try rw [hm_mt_mt]
        refine cx_ifb_eq (tgt := 38) dX9_hand_33 (by decide) rfl (fun z33 => ?_) (fun z33 => ?_)
        · exact absurd z33 (by decide)
        · skip
          refine hk_iconst (v := nI 0) dX9_hand_36 rfl (by decide) ?_
          exact hk_ireturn rfl (rfl) dX9_hand_37 (by have e : cd_hand S c (nI a) (nI b2) q x = 1 := (by first | (simp [cd_hand, cs_sq, cd_K, f6, vaa, f14, vab2, f22]; done) | (rcases cd_O_or S a with o0 | o0 <;> rcases cd_O_or S b2 with o1 | o1 <;> rcases cd_O_or S e3 with o2 | o2 <;> rcases cd_D_or (nI b2) (nI e3) with o3 | o3 <;> simp [cd_hand, cs_sq, cd_K, f6, vaa, f14, vab2, f22, o0, o1, o2, o3])); exact ⟨_, rfl, g, hm_x.rf, Or.inr ⟨by rw [e]; decide, A, hm_mt M (nI 1), rfl, by rw [e]; exact hm_mt0, ok, hk, rfl⟩⟩)
      · have f22 : cd_H c q = 0 := of_decide_eq_true z22
        obtain ⟨e3, he3, rfl⟩ := cd_H_of (by omega) f22
        have vae3 : vN (nI e3) = e3 := vN_nI (by omega)
        refine hk_iconst (v := nI 0) dX9_hand_25 rfl (by decide) ?_
        refine hk_goto (tgt := 30) dX9_hand_26 (by decide) ?_
        refine hk_callV dX9_hand_30 rfl mv_X9_80 (cm_isWrong (k := 0) hfl (by decide) hk) rfl rfl (hm_g0 hk) rfl rfl (by decide) ⟨Nat.zero_le _, Nat.zero_le _⟩ (Nat.le_of_ble_eq_true rfl) (hk_ki fun v h1 q => ?_) hk_nx
        obtain ⟨rfl, rfl⟩ := q
        try rw [hm_mt_mt]
        refine cx_ifb_eq (tgt := 38) dX9_hand_33 (by decide) rfl (fun z33 => ?_) (fun z33 => ?_)
        · skip
          refine hk_aload_n dX9_hand_38 rfl rfl rfl ?_
          refine hk_getf dX9_hand_39 rfl fl_X9_16 (hm_g0 hk) rfl ?_
          refine hk_iload_n dX9_hand_42 rfl rfl rfl ?_
          refine hk_callF dX9_hand_43 rfl mf_X9_64 (cj_get hfl (hm_l0 hk ok) (hm_r (i := 0) hk ok (by omega) ok.2.2.2.2.1.1) (by omega) (by rw [← hm_n0 ok]; exact (hm_cap ok ok.2.2.2.2.1.1).1) (Nat.lt_of_le_of_lt (hm_cap ok ok.2.2.2.2.1.1).2.2 (by decide)) (hm_kg ok (by omega))) rfl rfl (hm_l0 hk ok) rfl rfl (by decide) ⟨Nat.zero_le _, Nat.zero_le _⟩ (Nat.le_of_ble_eq_true rfl) (hk_kr fun v h1 q => ?_) hk_nx
          obtain ⟨rfl, rfl⟩ := q
          refine hk_castJ dX9_hand_48 rfl (fun U H z => (z.2.1.2.2 _ (hm_kl ok (by omega))).1) kl_X9_45 ?_
          refine hk_callJ dX9_hand_51 rfl mv_X9_68 (cj_cc hfl (hm_kl ok (by omega))) rfl rfl (fun U H z => (z.2.1.2.2 _ (hm_kl ok (by omega))).1) (by decide) ⟨Nat.zero_le _, Nat.zero_le _⟩ (Nat.le_of_ble_eq_true rfl) (hk_ki fun v h1 q => ?_) hk_nx
          obtain ⟨rfl, rfl⟩ := q
          have hkl := hm_kl ok he3
          refine hk_bipush (v := nI 98) dX9_hand_54 rfl (by decide) ?_
          refine cx_icmp_eq (tgt := 67) (by omega) (by omega) dX9_hand_56 (by decide) rfl (fun z56 => ?_) (fun z56 => ?_)
          · skip
            have b56 : cd_B S e3 = 0 := cd_B_1 ok (by omega) (Or.inl z56)
            refine hk_iconst (v := nI 1) dX9_hand_67 rfl (by decide) ?_
            refine hk_goto (tgt := 72) dX9_hand_68 (by decide) ?_
            refine hk_istore dX9_hand_72 rfl (by decide) rfl ?_
            refine hk_aload_n dX9_hand_74 rfl rfl rfl ?_
            refine hk_iload_n dX9_hand_75 rfl rfl rfl ?_
            refine hk_callV dX9_hand_76 rfl mv_X9_91 (cm_hasFailed hfl hk ok (by omega)) rfl rfl (hm_g0 hk) rfl rfl (by decide) ⟨Nat.zero_le _, Nat.zero_le _⟩ (Nat.le_of_ble_eq_true rfl) (hk_ki fun v h1 q => ?_) hk_nx
            obtain ⟨rfl, rfl⟩ := q
            refine cx_ifb_ne (tgt := 98) dX9_hand_79 (by decide) rfl (fun z79 => ?_) (fun z79 => ?_)
            · have f79 : cd_O S a = 3 := cd_O_3 (of_decide_eq_true z79)
              refine hk_iconst (v := nI 1) dX9_hand_98 rfl (by decide) ?_
              refine hk_goto (tgt := 103) dX9_hand_99 (by decide) ?_
              refine hk_istore dX9_hand_103 rfl (by decide) rfl ?_
              refine hk_aload_n dX9_hand_105 rfl rfl rfl ?_
              refine hk_iload dX9_hand_106 rfl rfl ?_
              refine hk_iconst (v := nI 1) dX9_hand_108 rfl (by decide) ?_
              refine hk_sipush (v := nI 9999) dX9_hand_109 rfl (by decide) ?_
              refine hk_callS dX9_hand_112 rfl ms_X9_60 (cm_isBetween hfl) rfl rfl (by decide) ⟨Nat.zero_le _, Nat.zero_le _⟩ (Nat.le_of_ble_eq_true rfl) (hk_ki fun v h1 q => ?_) hk_nx
              obtain ⟨rfl, rfl⟩ := q
              refine cx_top (congrArg cx_b (cs_bwR _ _)) ?_
              refine cx_ifb_eq (tgt := 138) dX9_hand_115 (by decide) rfl (fun z115 => ?_) (fun z115 => ?_)
              · have f115 : cd_R x 9999 = 2 := cd_R_2 (of_decide_eq_false z115)
                refine hk_iconst (v := nI 2) dX9_hand_138 rfl (by decide) ?_
                refine hk_goto (tgt := 169) dX9_hand_139 (by decide) ?_
                refine hk_callV dX9_hand_169 rfl mv_X9_80 (cm_isWrong (k := 2) hfl (by decide) hk) rfl rfl (hm_g0 hk) rfl rfl (by decide) ⟨Nat.zero_le _, Nat.zero_le _⟩ (Nat.le_of_ble_eq_true rfl) (hk_ki fun v h1 q => ?_) hk_nx
                obtain ⟨rfl, rfl⟩ := q
                try rw [hm_mt_mt]
                refine cx_ifb_eq (tgt := 177) dX9_hand_172 (by decide) rfl (fun z172 => ?_) (fun z172 => ?_)
                · exact absurd z172 (by decide)
                · skip
                  refine hk_iconst (v := nI 0) dX9_hand_175 rfl (by decide) ?_
                  exact hk_ireturn rfl (rfl) dX9_hand_176 (by have e : cd_hand S c (nI a) (nI b2) (nI e3) x = 2 := (by first | (simp [cd_hand, cs_sq, cd_K, f6, vaa, f14, vab2, f22, vae3, b56, f79, f115]; done) | (rcases cd_O_or S a with o0 | o0 <;> rcases cd_O_or S b2 with o1 | o1 <;> rcases cd_O_or S e3 with o2 | o2 <;> rcases cd_D_or (nI b2) (nI e3) with o3 | o3 <;> simp [cd_hand, cs_sq, cd_K, f6, vaa, f14, vab2, f22, vae3, b56, f79, f115, o0, o1, o2, o3])); exact ⟨_, rfl, g, hm_x.rf, Or.inr ⟨by rw [e]; decide, A, hm_mt M (nI 2), rfl, by rw [e]; exact hm_mt0, ok, hk, rfl⟩⟩)
              · have f115 : cd_R x 9999 = 0 := of_decide_eq_true z115
                refine hk_iload_n dX9_hand_118 rfl rfl rfl ?_
                refine hk_iload_n dX9_hand_119 rfl rfl rfl ?_
                refine cx_icmp_eq (tgt := 138) (by omega) (by omega) dX9_hand_120 (by decide) rfl (fun z120 => ?_) (fun z120 => ?_)
                · skip
                  have f120 : cd_D (nI a) (nI b2) = 2 := cd_D_eq (by omega)
                  refine hk_iconst (v := nI 2) dX9_hand_138 rfl (by decide) ?_
                  refine hk_goto (tgt := 169) dX9_hand_139 (by decide) ?_
                  refine hk_callV dX9_hand_169 rfl mv_X9_80 (cm_isWrong (k := 2) hfl (by decide) hk) rfl rfl (hm_g0 hk) rfl rfl (by decide) ⟨Nat.zero_le _, Nat.zero_le _⟩ (Nat.le_of_ble_eq_true rfl) (hk_ki fun v h1 q => ?_) hk_nx
                  obtain ⟨rfl, rfl⟩ := q
                  try rw [hm_mt_mt]
                  refine cx_ifb_eq (tgt := 177) dX9_hand_172 (by decide) rfl (fun z172 => ?_) (fun z172 => ?_)
                  · exact absurd z172 (by decide)
                  · skip
                    refine hk_iconst (v := nI 0) dX9_hand_175 rfl (by decide) ?_
                    exact hk_ireturn rfl (rfl) dX9_hand_176 (by have e : cd_hand S c (nI a) (nI b2) (nI e3) x = 2 := (by first | (simp [cd_hand, cs_sq, cd_K, f6, vaa, f14, vab2, f22, vae3, b56, f79, f115, f120]; done) | (rcases cd_O_or S a with o0 | o0 <;> rcases cd_O_or S b2 with o1 | o1 <;> rcases cd_O_or S e3 with o2 | o2 <;> rcases cd_D_or (nI b2) (nI e3) with o3 | o3 <;> simp [cd_hand, cs_sq, cd_K, f6, vaa, f14, vab2, f22, vae3, b56, f79, f115, f120, o0, o1, o2, o3])); exact ⟨_, rfl, g, hm_x.rf, Or.inr ⟨by rw [e]; decide, A, hm_mt M (nI 2), rfl, by rw [e]; exact hm_mt0, ok, hk, rfl⟩⟩)
                · skip
                  have f120 : cd_D (nI a) (nI b2) = 0 := cd_D_ne (by omega)
                  refine hk_iload_n dX9_hand_123 rfl rfl rfl ?_
                  refine hk_iload_n dX9_hand_124 rfl rfl rfl ?_
                  refine cx_icmp_eq (tgt := 138) (by omega) (by omega) dX9_hand_125 (by decide) rfl (fun z125 => ?_) (fun z125 => ?_)
                  · skip
                    have f125 : cd_D (nI a) (nI e3) = 2 := cd_D_eq (by omega)
                    refine hk_iconst (v := nI 2) dX9_hand_138 rfl (by decide) ?_
                    refine hk_goto (tgt := 169) dX9_hand_139 (by decide) ?_
                    refine hk_callV dX9_hand_169 rfl mv_X9_80 (cm_isWrong (k := 2) hfl (by decide) hk) rfl rfl (hm_g0 hk) rfl rfl (by decide) ⟨Nat.zero_le _, Nat.zero_le _⟩ (Nat.le_of_ble_eq_true rfl) (hk_ki fun v h1 q => ?_) hk_nx
                    obtain ⟨rfl, rfl⟩ := q
                    try rw [hm_mt_mt]
                    refine cx_ifb_eq (tgt := 177) dX9_hand_172 (by decide) rfl (fun z172 => ?_) (fun z172 => ?_)
                    · exact absurd z172 (by decide)
                    · skip
                      refine hk_iconst (v := nI 0) dX9_hand_175 rfl (by decide) ?_
                      exact hk_ireturn rfl (rfl) dX9_hand_176 (by have e : cd_hand S c (nI a) (nI b2) (nI e3) x = 2 := (by first | (simp [cd_hand, cs_sq, cd_K, f6, vaa, f14, vab2, f22, vae3, b56, f79, f115, f120, f125]; done) | (rcases cd_O_or S a with o0 | o0 <;> rcases cd_O_or S b2 with o1 | o1 <;> rcases cd_O_or S e3 with o2 | o2 <;> rcases cd_D_or (nI b2) (nI e3) with o3 | o3 <;> simp [cd_hand, cs_sq, cd_K, f6, vaa, f14, vab2, f22, vae3, b56, f79, f115, f120, f125, o0, o1, o2, o3])); exact ⟨_, rfl, g, hm_x.rf, Or.inr ⟨by rw [e]; decide, A, hm_mt M (nI 2), rfl, by rw [e]; exact hm_mt0, ok, hk, rfl⟩⟩)
                  · skip
                    have f125 : cd_D (nI a) (nI e3) = 0 := cd_D_ne (by omega)
                    refine hk_iload_n dX9_hand_128 rfl rfl rfl ?_
                    refine hk_iload_n dX9_hand_129 rfl rfl rfl ?_
                    refine cx_icmp_eq (tgt := 138) (by omega) (by omega) dX9_hand_130 (by decide) rfl (fun z130 => ?_) (fun z130 => ?_)
                    · skip
                      have f130 : cd_D (nI b2) (nI e3) = 2 := cd_D_eq (by omega)
                      refine hk_iconst (v := nI 2) dX9_hand_138 rfl (by decide) ?_
                      refine hk_goto (tgt := 169) dX9_hand_139 (by decide) ?_
                      refine hk_callV dX9_hand_169 rfl mv_X9_80 (cm_isWrong (k := 2) hfl (by decide) hk) rfl rfl (hm_g0 hk) rfl rfl (by decide) ⟨Nat.zero_le _, Nat.zero_le _⟩ (Nat.le_of_ble_eq_true rfl) (hk_ki fun v h1 q => ?_) hk_nx
                      obtain ⟨rfl, rfl⟩ := q
                      try rw [hm_mt_mt]
                      refine cx_ifb_eq (tgt := 177) dX9_hand_172 (by decide) rfl (fun z172 => ?_) (fun z172 => ?_)
                      · exact absurd z172 (by decide)
                      · skip
                        refine hk_iconst (v := nI 0) dX9_hand_175 rfl (by decide) ?_
                        exact hk_ireturn rfl (rfl) dX9_hand_176 (by have e : cd_hand S c (nI a) (nI b2) (nI e3) x = 2 := (by first | (simp [cd_hand, cs_sq, cd_K, f6, vaa, f14, vab2, f22, vae3, b56, f79, f115, f120, f125, f130]; done) | (rcases cd_O_or S a with o0 | o0 <;> rcases cd_O_or S b2 with o1 | o1 <;> rcases cd_O_or S e3 with o2 | o2 <;> rcases cd_D_or (nI b2) (nI e3) with o3 | o3 <;> simp [cd_hand, cs_sq, cd_K, f6, vaa, f14, vab2, f22, vae3, b56, f79, f115, f120, f125, f130, o0, o1, o2, o3])); exact ⟨_, rfl, g, hm_x.rf, Or.inr ⟨by rw [e]; decide, A, hm_mt M (nI 2), rfl, by rw [e]; exact hm_mt0, ok, hk, rfl⟩⟩)
                    · skip
                      have f130 : cd_D (nI b2) (nI e3) = 0 := cd_D_ne (by omega)
                      refine hk_iload dX9_hand_133 rfl rfl ?_
                      refine cx_ifn_ne (tgt := 142) (by omega) dX9_hand_135 (by decide) rfl (fun z135 => ?_) (fun z135 => ?_)
                      · skip
                        refine hk_iload dX9_hand_142 rfl rfl ?_
                        refine cx_ifn_eq (tgt := 151) (by omega) dX9_hand_144 (by decide) rfl (fun z144 => ?_) (fun z144 => ?_)
                        · exact absurd z144 (by decide)
                        · skip
                          refine hk_iconst (v := nI 3) dX9_hand_147 rfl (by decide) ?_
                          refine hk_goto (tgt := 169) dX9_hand_148 (by decide) ?_
                          refine hk_callV dX9_hand_169 rfl mv_X9_80 (cm_isWrong (k := 3) hfl (by decide) hk) rfl rfl (hm_g0 hk) rfl rfl (by decide) ⟨Nat.zero_le _, Nat.zero_le _⟩ (Nat.le_of_ble_eq_true rfl) (hk_ki fun v h1 q => ?_) hk_nx
                          obtain ⟨rfl, rfl⟩ := q
                          try rw [hm_mt_mt]
                          refine cx_ifb_eq (tgt := 177) dX9_hand_172 (by decide) rfl (fun z172 => ?_) (fun z172 => ?_)
                          · exact absurd z172 (by decide)
                          · skip
                            refine hk_iconst (v := nI 0) dX9_hand_175 rfl (by decide) ?_
                            exact hk_ireturn rfl (rfl) dX9_hand_176 (by have e : cd_hand S c (nI a) (nI b2) (nI e3) x = 3 := (by first | (simp [cd_hand, cs_sq, cd_K, f6, vaa, f14, vab2, f22, vae3, b56, f79, f115, f120, f125, f130]; done) | (rcases cd_O_or S a with o0 | o0 <;> rcases cd_O_or S b2 with o1 | o1 <;> rcases cd_O_or S e3 with o2 | o2 <;> rcases cd_D_or (nI b2) (nI e3) with o3 | o3 <;> simp [cd_hand, cs_sq, cd_K, f6, vaa, f14, vab2, f22, vae3, b56, f79, f115, f120, f125, f130, o0, o1, o2, o3])); exact ⟨_, rfl, g, hm_x.rf, Or.inr ⟨by rw [e]; decide, A, hm_mt M (nI 3), rfl, by rw [e]; exact hm_mt0, ok, hk, rfl⟩⟩)
                      · exact absurd z135 (by decide)
            · have f79 : cd_O S a = 0 := Decidable.of_not_not (of_decide_eq_false z79)
              refine hk_aload_n dX9_hand_82 rfl rfl rfl ?_
              refine hk_iload_n dX9_hand_83 rfl rfl rfl ?_
              refine hk_callV dX9_hand_84 rfl mv_X9_91 (cm_hasFailed hfl hk ok (by omega)) rfl rfl (hm_g0 hk) rfl rfl (by decide) ⟨Nat.zero_le _, Nat.zero_le _⟩ (Nat.le_of_ble_eq_true rfl) (hk_ki fun v h1 q => ?_) hk_nx
              obtain ⟨rfl, rfl⟩ := q
              refine cx_ifb_ne (tgt := 98) dX9_hand_87 (by decide) rfl (fun z87 => ?_) (fun z87 => ?_)
              · have f87 : cd_O S b2 = 3 := cd_O_3 (of_decide_eq_true z87)
                refine hk_iconst (v := nI 1) dX9_hand_98 rfl (by decide) ?_
                refine hk_goto (tgt := 103) dX9_hand_99 (by decide) ?_
                refine hk_istore dX9_hand_103 rfl (by decide) rfl ?_
                refine hk_aload_n dX9_hand_105 rfl rfl rfl ?_
                refine hk_iload dX9_hand_106 rfl rfl ?_
                refine hk_iconst (v := nI 1) dX9_hand_108 rfl (by decide) ?_
                refine hk_sipush (v := nI 9999) dX9_hand_109 rfl (by decide) ?_
                refine hk_callS dX9_hand_112 rfl ms_X9_60 (cm_isBetween hfl) rfl rfl (by decide) ⟨Nat.zero_le _, Nat.zero_le _⟩ (Nat.le_of_ble_eq_true rfl) (hk_ki fun v h1 q => ?_) hk_nx
                obtain ⟨rfl, rfl⟩ := q
                refine cx_top (congrArg cx_b (cs_bwR _ _)) ?_
                refine cx_ifb_eq (tgt := 138) dX9_hand_115 (by decide) rfl (fun z115 => ?_) (fun z115 => ?_)
                · have f115 : cd_R x 9999 = 2 := cd_R_2 (of_decide_eq_false z115)
                  refine hk_iconst (v := nI 2) dX9_hand_138 rfl (by decide) ?_
                  refine hk_goto (tgt := 169) dX9_hand_139 (by decide) ?_
                  refine hk_callV dX9_hand_169 rfl mv_X9_80 (cm_isWrong (k := 2) hfl (by decide) hk) rfl rfl (hm_g0 hk) rfl rfl (by decide) ⟨Nat.zero_le _, Nat.zero_le _⟩ (Nat.le_of_ble_eq_true rfl) (hk_ki fun v h1 q => ?_) hk_nx
                  obtain ⟨rfl, rfl⟩ := q
                  try rw [hm_mt_mt]
                  refine cx_ifb_eq (tgt := 177) dX9_hand_172 (by decide) rfl (fun z172 => ?_) (fun z172 => ?_)
                  · exact absurd z172 (by decide)
                  · skip
                    refine hk_iconst (v := nI 0) dX9_hand_175 rfl (by decide) ?_
                    exact hk_ireturn rfl (rfl) dX9_hand_176 (by have e : cd_hand S c (nI a) (nI b2) (nI e3) x = 2 := (by first | (simp [cd_hand, cs_sq, cd_K, f6, vaa, f14, vab2, f22, vae3, b56, f79, f87, f115]; done) | (rcases cd_O_or S a with o0 | o0 <;> rcases cd_O_or S b2 with o1 | o1 <;> rcases cd_O_or S e3 with o2 | o2 <;> rcases cd_D_or (nI b2) (nI e3) with o3 | o3 <;> simp [cd_hand, cs_sq, cd_K, f6, vaa, f14, vab2, f22, vae3, b56, f79, f87, f115, o0, o1, o2, o3])); exact ⟨_, rfl, g, hm_x.rf, Or.inr ⟨by rw [e]; decide, A, hm_mt M (nI 2), rfl, by rw [e]; exact hm_mt0, ok, hk, rfl⟩⟩)
                · have f115 : cd_R x 9999 = 0 := of_decide_eq_true z115
                  refine hk_iload_n dX9_hand_118 rfl rfl rfl ?_
                  refine hk_iload_n dX9_hand_119 rfl rfl rfl ?_
                  refine cx_icmp_eq (tgt := 138) (by omega) (by omega) dX9_hand_120 (by decide) rfl (fun z120 => ?_) (fun z120 => ?_)
                  · skip
                    have f120 : cd_D (nI a) (nI b2) = 2 := cd_D_eq (by omega)
                    refine hk_iconst (v := nI 2) dX9_hand_138 rfl (by decide) ?_
                    refine hk_goto (tgt := 169) dX9_hand_139 (by decide) ?_
                    refine hk_callV dX9_hand_169 rfl mv_X9_80 (cm_isWrong (k := 2) hfl (by decide) hk) rfl rfl (hm_g0 hk) rfl rfl (by decide) ⟨Nat.zero_le _, Nat.zero_le _⟩ (Nat.le_of_ble_eq_true rfl) (hk_ki fun v h1 q => ?_) hk_nx
                    obtain ⟨rfl, rfl⟩ := q
                    try rw [hm_mt_mt]
                    refine cx_ifb_eq (tgt := 177) dX9_hand_172 (by decide) rfl (fun z172 => ?_) (fun z172 => ?_)
                    · exact absurd z172 (by decide)
                    · skip
                      refine hk_iconst (v := nI 0) dX9_hand_175 rfl (by decide) ?_
                      exact hk_ireturn rfl (rfl) dX9_hand_176 (by have e : cd_hand S c (nI a) (nI b2) (nI e3) x = 2 := (by first | (simp [cd_hand, cs_sq, cd_K, f6, vaa, f14, vab2, f22, vae3, b56, f79, f87, f115, f120]; done) | (rcases cd_O_or S a with o0 | o0 <;> rcases cd_O_or S b2 with o1 | o1 <;> rcases cd_O_or S e3 with o2 | o2 <;> rcases cd_D_or (nI b2) (nI e3) with o3 | o3 <;> simp [cd_hand, cs_sq, cd_K, f6, vaa, f14, vab2, f22, vae3, b56, f79, f87, f115, f120, o0, o1, o2, o3])); exact ⟨_, rfl, g, hm_x.rf, Or.inr ⟨by rw [e]; decide, A, hm_mt M (nI 2), rfl, by rw [e]; exact hm_mt0, ok, hk, rfl⟩⟩)
                  · skip
                    have f120 : cd_D (nI a) (nI b2) = 0 := cd_D_ne (by omega)
                    refine hk_iload_n dX9_hand_123 rfl rfl rfl ?_
                    refine hk_iload_n dX9_hand_124 rfl rfl rfl ?_
                    refine cx_icmp_eq (tgt := 138) (by omega) (by omega) dX9_hand_125 (by decide) rfl (fun z125 => ?_) (fun z125 => ?_)
                    · skip
                      have f125 : cd_D (nI a) (nI e3) = 2 := cd_D_eq (by omega)
                      refine hk_iconst (v := nI 2) dX9_hand_138 rfl (by decide) ?_
                      refine hk_goto (tgt := 169) dX9_hand_139 (by decide) ?_
                      refine hk_callV dX9_hand_169 rfl mv_X9_80 (cm_isWrong (k := 2) hfl (by decide) hk) rfl rfl (hm_g0 hk) rfl rfl (by decide) ⟨Nat.zero_le _, Nat.zero_le _⟩ (Nat.le_of_ble_eq_true rfl) (hk_ki fun v h1 q => ?_) hk_nx
                      obtain ⟨rfl, rfl⟩ := q
                      try rw [hm_mt_mt]
                      refine cx_ifb_eq (tgt := 177) dX9_hand_172 (by decide) rfl (fun z172 => ?_) (fun z172 => ?_)
                      · exact absurd z172 (by decide)
                      · skip
                        refine hk_iconst (v := nI 0) dX9_hand_175 rfl (by decide) ?_
                        exact hk_ireturn rfl (rfl) dX9_hand_176 (by have e : cd_hand S c (nI a) (nI b2) (nI e3) x = 2 := (by first | (simp [cd_hand, cs_sq, cd_K, f6, vaa, f14, vab2, f22, vae3, b56, f79, f87, f115, f120, f125]; done) | (rcases cd_O_or S a with o0 | o0 <;> rcases cd_O_or S b2 with o1 | o1 <;> rcases cd_O_or S e3 with o2 | o2 <;> rcases cd_D_or (nI b2) (nI e3) with o3 | o3 <;> simp [cd_hand, cs_sq, cd_K, f6, vaa, f14, vab2, f22, vae3, b56, f79, f87, f115, f120, f125, o0, o1, o2, o3])); exact ⟨_, rfl, g, hm_x.rf, Or.inr ⟨by rw [e]; decide, A, hm_mt M (nI 2), rfl, by rw [e]; exact hm_mt0, ok, hk, rfl⟩⟩)
                    · skip
                      have f125 : cd_D (nI a) (nI e3) = 0 := cd_D_ne (by omega)
                      refine hk_iload_n dX9_hand_128 rfl rfl rfl ?_
                      refine hk_iload_n dX9_hand_129 rfl rfl rfl ?_
                      refine cx_icmp_eq (tgt := 138) (by omega) (by omega) dX9_hand_130 (by decide) rfl (fun z130 => ?_) (fun z130 => ?_)
                      · skip
                        have f130 : cd_D (nI b2) (nI e3) = 2 := cd_D_eq (by omega)
                        refine hk_iconst (v := nI 2) dX9_hand_138 rfl (by decide) ?_
                        refine hk_goto (tgt := 169) dX9_hand_139 (by decide) ?_
                        refine hk_callV dX9_hand_169 rfl mv_X9_80 (cm_isWrong (k := 2) hfl (by decide) hk) rfl rfl (hm_g0 hk) rfl rfl (by decide) ⟨Nat.zero_le _, Nat.zero_le _⟩ (Nat.le_of_ble_eq_true rfl) (hk_ki fun v h1 q => ?_) hk_nx
                        obtain ⟨rfl, rfl⟩ := q
                        try rw [hm_mt_mt]
                        refine cx_ifb_eq (tgt := 177) dX9_hand_172 (by decide) rfl (fun z172 => ?_) (fun z172 => ?_)
                        · exact absurd z172 (by decide)
                        · skip
                          refine hk_iconst (v := nI 0) dX9_hand_175 rfl (by decide) ?_
                          exact hk_ireturn rfl (rfl) dX9_hand_176 (by have e : cd_hand S c (nI a) (nI b2) (nI e3) x = 2 := (by first | (simp [cd_hand, cs_sq, cd_K, f6, vaa, f14, vab2, f22, vae3, b56, f79, f87, f115, f120, f125, f130]; done) | (rcases cd_O_or S a with o0 | o0 <;> rcases cd_O_or S b2 with o1 | o1 <;> rcases cd_O_or S e3 with o2 | o2 <;> rcases cd_D_or (nI b2) (nI e3) with o3 | o3 <;> simp [cd_hand, cs_sq, cd_K, f6, vaa, f14, vab2, f22, vae3, b56, f79, f87, f115, f120, f125, f130, o0, o1, o2, o3])); exact ⟨_, rfl, g, hm_x.rf, Or.inr ⟨by rw [e]; decide, A, hm_mt M (nI 2), rfl, by rw [e]; exact hm_mt0, ok, hk, rfl⟩⟩)
                      · skip
                        have f130 : cd_D (nI b2) (nI e3) = 0 := cd_D_ne (by omega)
                        refine hk_iload dX9_hand_133 rfl rfl ?_
                        refine cx_ifn_ne (tgt := 142) (by omega) dX9_hand_135 (by decide) rfl (fun z135 => ?_) (fun z135 => ?_)
                        · skip
                          refine hk_iload dX9_hand_142 rfl rfl ?_
                          refine cx_ifn_eq (tgt := 151) (by omega) dX9_hand_144 (by decide) rfl (fun z144 => ?_) (fun z144 => ?_)
                          · exact absurd z144 (by decide)
                          · skip
                            refine hk_iconst (v := nI 3) dX9_hand_147 rfl (by decide) ?_
                            refine hk_goto (tgt := 169) dX9_hand_148 (by decide) ?_
                            refine hk_callV dX9_hand_169 rfl mv_X9_80 (cm_isWrong (k := 3) hfl (by decide) hk) rfl rfl (hm_g0 hk) rfl rfl (by decide) ⟨Nat.zero_le _, Nat.zero_le _⟩ (Nat.le_of_ble_eq_true rfl) (hk_ki fun v h1 q => ?_) hk_nx
                            obtain ⟨rfl, rfl⟩ := q
                            try rw [hm_mt_mt]
                            refine cx_ifb_eq (tgt := 177) dX9_hand_172 (by decide) rfl (fun z172 => ?_) (fun z172 => ?_)
                            · exact absurd z172 (by decide)
                            · skip
                              refine hk_iconst (v := nI 0) dX9_hand_175 rfl (by decide) ?_
                              exact hk_ireturn rfl (rfl) dX9_hand_176 (by have e : cd_hand S c (nI a) (nI b2) (nI e3) x = 3 := (by first | (simp [cd_hand, cs_sq, cd_K, f6, vaa, f14, vab2, f22, vae3, b56, f79, f87, f115, f120, f125, f130]; done) | (rcases cd_O_or S a with o0 | o0 <;> rcases cd_O_or S b2 with o1 | o1 <;> rcases cd_O_or S e3 with o2 | o2 <;> rcases cd_D_or (nI b2) (nI e3) with o3 | o3 <;> simp [cd_hand, cs_sq, cd_K, f6, vaa, f14, vab2, f22, vae3, b56, f79, f87, f115, f120, f125, f130, o0, o1, o2, o3])); exact ⟨_, rfl, g, hm_x.rf, Or.inr ⟨by rw [e]; decide, A, hm_mt M (nI 3), rfl, by rw [e]; exact hm_mt0, ok, hk, rfl⟩⟩)
                        · exact absurd z135 (by decide)
              · have f87 : cd_O S b2 = 0 := Decidable.of_not_not (of_decide_eq_false z87)
                refine hk_aload_n dX9_hand_90 rfl rfl rfl ?_
                refine hk_iload_n dX9_hand_91 rfl rfl rfl ?_
                refine hk_callV dX9_hand_92 rfl mv_X9_91 (cm_hasFailed hfl hk ok (by omega)) rfl rfl (hm_g0 hk) rfl rfl (by decide) ⟨Nat.zero_le _, Nat.zero_le _⟩ (Nat.le_of_ble_eq_true rfl) (hk_ki fun v h1 q => ?_) hk_nx
                obtain ⟨rfl, rfl⟩ := q
                refine cx_ifb_eq (tgt := 102) dX9_hand_95 (by decide) rfl (fun z95 => ?_) (fun z95 => ?_)
                · have f95 : cd_O S e3 = 0 := Decidable.of_not_not (of_decide_eq_false z95)
                  refine hk_iconst (v := nI 0) dX9_hand_102 rfl (by decide) ?_
                  refine hk_istore dX9_hand_103 rfl (by decide) rfl ?_
                  refine hk_aload_n dX9_hand_105 rfl rfl rfl ?_
                  refine hk_iload dX9_hand_106 rfl rfl ?_
                  refine hk_iconst (v := nI 1) dX9_hand_108 rfl (by decide) ?_
                  refine hk_sipush (v := nI 9999) dX9_hand_109 rfl (by decide) ?_
                  refine hk_callS dX9_hand_112 rfl ms_X9_60 (cm_isBetween hfl) rfl rfl (by decide) ⟨Nat.zero_le _, Nat.zero_le _⟩ (Nat.le_of_ble_eq_true rfl) (hk_ki fun v h1 q => ?_) hk_nx
                  obtain ⟨rfl, rfl⟩ := q
                  refine cx_top (congrArg cx_b (cs_bwR _ _)) ?_
                  refine cx_ifb_eq (tgt := 138) dX9_hand_115 (by decide) rfl (fun z115 => ?_) (fun z115 => ?_)
                  · have f115 : cd_R x 9999 = 2 := cd_R_2 (of_decide_eq_false z115)
                    refine hk_iconst (v := nI 2) dX9_hand_138 rfl (by decide) ?_
                    refine hk_goto (tgt := 169) dX9_hand_139 (by decide) ?_
                    refine hk_callV dX9_hand_169 rfl mv_X9_80 (cm_isWrong (k := 2) hfl (by decide) hk) rfl rfl (hm_g0 hk) rfl rfl (by decide) ⟨Nat.zero_le _, Nat.zero_le _⟩ (Nat.le_of_ble_eq_true rfl) (hk_ki fun v h1 q => ?_) hk_nx
                    obtain ⟨rfl, rfl⟩ := q
                    try rw [hm_mt_mt]
                    refine cx_ifb_eq (tgt := 177) dX9_hand_172 (by decide) rfl (fun z172 => ?_) (fun z172 => ?_)
                    · exact absurd z172 (by decide)
                    · skip
                      refine hk_iconst (v := nI 0) dX9_hand_175 rfl (by decide) ?_
                      exact hk_ireturn rfl (rfl) dX9_hand_176 (by have e : cd_hand S c (nI a) (nI b2) (nI e3) x = 2 := (by first | (simp [cd_hand, cs_sq, cd_K, f6, vaa, f14, vab2, f22, vae3, b56, f79, f87, f95, f115]; done) | (rcases cd_O_or S a with o0 | o0 <;> rcases cd_O_or S b2 with o1 | o1 <;> rcases cd_O_or S e3 with o2 | o2 <;> rcases cd_D_or (nI b2) (nI e3) with o3 | o3 <;> simp [cd_hand, cs_sq, cd_K, f6, vaa, f14, vab2, f22, vae3, b56, f79, f87, f95, f115, o0, o1, o2, o3])); exact ⟨_, rfl, g, hm_x.rf, Or.inr ⟨by rw [e]; decide, A, hm_mt M (nI 2), rfl, by rw [e]; exact hm_mt0, ok, hk, rfl⟩⟩)
                  · have f115 : cd_R x 9999 = 0 := of_decide_eq_true z115
                    refine hk_iload_n dX9_hand_118 rfl rfl rfl ?_
                    refine hk_iload_n dX9_hand_119 rfl rfl rfl ?_
                    refine cx_icmp_eq (tgt := 138) (by omega) (by omega) dX9_hand_120 (by decide) rfl (fun z120 => ?_) (fun z120 => ?_)
                    · skip
                      have f120 : cd_D (nI a) (nI b2) = 2 := cd_D_eq (by omega)
                      refine hk_iconst (v := nI 2) dX9_hand_138 rfl (by decide) ?_
                      refine hk_goto (tgt := 169) dX9_hand_139 (by decide) ?_
                      refine hk_callV dX9_hand_169 rfl mv_X9_80 (cm_isWrong (k := 2) hfl (by decide) hk) rfl rfl (hm_g0 hk) rfl rfl (by decide) ⟨Nat.zero_le _, Nat.zero_le _⟩ (Nat.le_of_ble_eq_true rfl) (hk_ki fun v h1 q => ?_) hk_nx
                      obtain ⟨rfl, rfl⟩ := q
                      try rw [hm_mt_mt]
                      refine cx_ifb_eq (tgt := 177) dX9_hand_172 (by decide) rfl (fun z172 => ?_) (fun z172 => ?_)
                      · exact absurd z172 (by decide)
                      · skip
                        refine hk_iconst (v := nI 0) dX9_hand_175 rfl (by decide) ?_
                        exact hk_ireturn rfl (rfl) dX9_hand_176 (by have e : cd_hand S c (nI a) (nI b2) (nI e3) x = 2 := (by first | (simp [cd_hand, cs_sq, cd_K, f6, vaa, f14, vab2, f22, vae3, b56, f79, f87, f95, f115, f120]; done) | (rcases cd_O_or S a with o0 | o0 <;> rcases cd_O_or S b2 with o1 | o1 <;> rcases cd_O_or S e3 with o2 | o2 <;> rcases cd_D_or (nI b2) (nI e3) with o3 | o3 <;> simp [cd_hand, cs_sq, cd_K, f6, vaa, f14, vab2, f22, vae3, b56, f79, f87, f95, f115, f120, o0, o1, o2, o3])); exact ⟨_, rfl, g, hm_x.rf, Or.inr ⟨by rw [e]; decide, A, hm_mt M (nI 2), rfl, by rw [e]; exact hm_mt0, ok, hk, rfl⟩⟩)
                    · skip
                      have f120 : cd_D (nI a) (nI b2) = 0 := cd_D_ne (by omega)
                      refine hk_iload_n dX9_hand_123 rfl rfl rfl ?_
                      refine hk_iload_n dX9_hand_124 rfl rfl rfl ?_
                      refine cx_icmp_eq (tgt := 138) (by omega) (by omega) dX9_hand_125 (by decide) rfl (fun z125 => ?_) (fun z125 => ?_)
                      · skip
                        have f125 : cd_D (nI a) (nI e3) = 2 := cd_D_eq (by omega)
                        refine hk_iconst (v := nI 2) dX9_hand_138 rfl (by decide) ?_
                        refine hk_goto (tgt := 169) dX9_hand_139 (by decide) ?_
                        refine hk_callV dX9_hand_169 rfl mv_X9_80 (cm_isWrong (k := 2) hfl (by decide) hk) rfl rfl (hm_g0 hk) rfl rfl (by decide) ⟨Nat.zero_le _, Nat.zero_le _⟩ (Nat.le_of_ble_eq_true rfl) (hk_ki fun v h1 q => ?_) hk_nx
                        obtain ⟨rfl, rfl⟩ := q
                        try rw [hm_mt_mt]
                        refine cx_ifb_eq (tgt := 177) dX9_hand_172 (by decide) rfl (fun z172 => ?_) (fun z172 => ?_)
                        · exact absurd z172 (by decide)
                        · skip
                          refine hk_iconst (v := nI 0) dX9_hand_175 rfl (by decide) ?_
                          exact hk_ireturn rfl (rfl) dX9_hand_176 (by have e : cd_hand S c (nI a) (nI b2) (nI e3) x = 2 := (by first | (simp [cd_hand, cs_sq, cd_K, f6, vaa, f14, vab2, f22, vae3, b56, f79, f87, f95, f115, f120, f125]; done) | (rcases cd_O_or S a with o0 | o0 <;> rcases cd_O_or S b2 with o1 | o1 <;> rcases cd_O_or S e3 with o2 | o2 <;> rcases cd_D_or (nI b2) (nI e3) with o3 | o3 <;> simp [cd_hand, cs_sq, cd_K, f6, vaa, f14, vab2, f22, vae3, b56, f79, f87, f95, f115, f120, f125, o0, o1, o2, o3])); exact ⟨_, rfl, g, hm_x.rf, Or.inr ⟨by rw [e]; decide, A, hm_mt M (nI 2), rfl, by rw [e]; exact hm_mt0, ok, hk, rfl⟩⟩)
                      · skip
                        have f125 : cd_D (nI a) (nI e3) = 0 := cd_D_ne (by omega)
                        refine hk_iload_n dX9_hand_128 rfl rfl rfl ?_
                        refine hk_iload_n dX9_hand_129 rfl rfl rfl ?_
                        refine cx_icmp_eq (tgt := 138) (by omega) (by omega) dX9_hand_130 (by decide) rfl (fun z130 => ?_) (fun z130 => ?_)
                        · skip
                          have f130 : cd_D (nI b2) (nI e3) = 2 := cd_D_eq (by omega)
                          refine hk_iconst (v := nI 2) dX9_hand_138 rfl (by decide) ?_
                          refine hk_goto (tgt := 169) dX9_hand_139 (by decide) ?_
                          refine hk_callV dX9_hand_169 rfl mv_X9_80 (cm_isWrong (k := 2) hfl (by decide) hk) rfl rfl (hm_g0 hk) rfl rfl (by decide) ⟨Nat.zero_le _, Nat.zero_le _⟩ (Nat.le_of_ble_eq_true rfl) (hk_ki fun v h1 q => ?_) hk_nx
                          obtain ⟨rfl, rfl⟩ := q
                          try rw [hm_mt_mt]
                          refine cx_ifb_eq (tgt := 177) dX9_hand_172 (by decide) rfl (fun z172 => ?_) (fun z172 => ?_)
                          · exact absurd z172 (by decide)
                          · skip
                            refine hk_iconst (v := nI 0) dX9_hand_175 rfl (by decide) ?_
                            exact hk_ireturn rfl (rfl) dX9_hand_176 (by have e : cd_hand S c (nI a) (nI b2) (nI e3) x = 2 := (by first | (simp [cd_hand, cs_sq, cd_K, f6, vaa, f14, vab2, f22, vae3, b56, f79, f87, f95, f115, f120, f125, f130]; done) | (rcases cd_O_or S a with o0 | o0 <;> rcases cd_O_or S b2 with o1 | o1 <;> rcases cd_O_or S e3 with o2 | o2 <;> rcases cd_D_or (nI b2) (nI e3) with o3 | o3 <;> simp [cd_hand, cs_sq, cd_K, f6, vaa, f14, vab2, f22, vae3, b56, f79, f87, f95, f115, f120, f125, f130, o0, o1, o2, o3])); exact ⟨_, rfl, g, hm_x.rf, Or.inr ⟨by rw [e]; decide, A, hm_mt M (nI 2), rfl, by rw [e]; exact hm_mt0, ok, hk, rfl⟩⟩)
                        · skip
                          have f130 : cd_D (nI b2) (nI e3) = 0 := cd_D_ne (by omega)
                          refine hk_iload dX9_hand_133 rfl rfl ?_
                          refine cx_ifn_ne (tgt := 142) (by omega) dX9_hand_135 (by decide) rfl (fun z135 => ?_) (fun z135 => ?_)
                          · skip
                            refine hk_iload dX9_hand_142 rfl rfl ?_
                            refine cx_ifn_eq (tgt := 151) (by omega) dX9_hand_144 (by decide) rfl (fun z144 => ?_) (fun z144 => ?_)
                            · skip
                              refine hk_aload_n dX9_hand_151 rfl rfl rfl ?_
                              refine hk_getf dX9_hand_152 rfl fl_X9_35 (hm_g0 hk) rfl ?_
                              refine hk_iload_n dX9_hand_155 rfl rfl rfl ?_
                              refine hx_aaldI dX9_hand_156 rfl (hm_g10 hk) (show _ < 6 by omega) (by decide) (if_pos (show _ < 6 by omega)) ?_
                              refine hk_iload_n dX9_hand_157 rfl rfl rfl ?_
                              refine hx_iald dX9_hand_158 rfl (hm_g11 hk (by omega)) (show _ < 6 by omega) (by decide) ?_
                              refine cx_top (if_pos (by omega)) ?_
                              refine hk_iload dX9_hand_159 rfl rfl ?_
                              refine hk_icmp_ge (tgt := 168) dX9_hand_161 (by decide) rfl (fun z161 => ?_) (fun z161 => ?_)
                              · skip
                                have f161 : cd_C S a e3 x = 0 := if_pos z161
                                refine hk_iconst (v := nI 0) dX9_hand_168 rfl (by decide) ?_
                                refine hk_callV dX9_hand_169 rfl mv_X9_80 (cm_isWrong (k := 0) hfl (by decide) hk) rfl rfl (hm_g0 hk) rfl rfl (by decide) ⟨Nat.zero_le _, Nat.zero_le _⟩ (Nat.le_of_ble_eq_true rfl) (hk_ki fun v h1 q => ?_) hk_nx
                                obtain ⟨rfl, rfl⟩ := q
                                try rw [hm_mt_mt]
                                refine cx_ifb_eq (tgt := 177) dX9_hand_172 (by decide) rfl (fun z172 => ?_) (fun z172 => ?_)
                                · skip
                                  refine hk_aload_n dX9_hand_177 rfl rfl rfl ?_
                                  refine hk_getf dX9_hand_178 rfl fl_X9_35 (hm_g0 hk) rfl ?_
                                  refine hk_iload_n dX9_hand_181 rfl rfl rfl ?_
                                  refine hx_aaldI dX9_hand_182 rfl (hm_g10 hk) (show _ < 6 by omega) (by decide) (if_pos (show _ < 6 by omega)) ?_
                                  refine hk_iload_n dX9_hand_183 rfl rfl rfl ?_
                                  refine hk_dup2 dX9_hand_184 rfl rfl rfl ?_
                                  refine hx_iald dX9_hand_185 rfl (hm_g11 hk (by omega)) (show _ < 6 by omega) (by decide) ?_
                                  refine cx_top (if_pos (by omega)) ?_
                                  refine hk_iload dX9_hand_186 rfl rfl ?_
                                  refine hk_isub dX9_hand_188 rfl ?_
                                  refine hx_iast dX9_hand_189 rfl (hm_g11 hk (by omega)) (show _ < 6 by omega) (by decide) ?_
                                  refine hx_cg (hm_v19 hk (by omega) (by omega)) ?_
                                  refine hk_aload_n dX9_hand_190 rfl rfl rfl ?_
                                  refine hk_getf dX9_hand_191 rfl fl_X9_35 (hm_g0 hk) rfl ?_
                                  refine hk_iload_n dX9_hand_194 rfl rfl rfl ?_
                                  refine hx_aaldI dX9_hand_195 rfl (hm_g10 hk) (show _ < 6 by omega) (by decide) (if_pos (show _ < 6 by omega)) ?_
                                  refine hk_iload_n dX9_hand_196 rfl rfl rfl ?_
                                  refine hk_dup2 dX9_hand_197 rfl rfl rfl ?_
                                  refine hx_iald dX9_hand_198 rfl (hm_g11 hk (by omega)) (show _ < 6 by omega) (by decide) ?_
                                  refine cx_top (if_pos (by omega)) ?_
                                  refine hk_iload dX9_hand_199 rfl rfl ?_
                                  refine hk_iadd dX9_hand_201 rfl ?_
                                  refine hx_iast dX9_hand_202 rfl (hm_g11 hk (by omega)) (show _ < 6 by omega) (by decide) ?_
                                  refine hx_cg (hm_v19 hk (by omega) (by omega)) ?_
                                  refine hk_aload_n dX9_hand_203 rfl rfl rfl ?_
                                  refine hk_getf dX9_hand_204 rfl fl_X9_35 (hm_g0 hk) rfl ?_
                                  refine hk_iload_n dX9_hand_207 rfl rfl rfl ?_
                                  refine hx_aaldI dX9_hand_208 rfl (hm_g10 hk) (show _ < 6 by omega) (by decide) (if_pos (show _ < 6 by omega)) ?_
                                  refine hk_iload_n dX9_hand_209 rfl rfl rfl ?_
                                  refine hx_iald dX9_hand_210 rfl (hm_g11 hk (by omega)) (show _ < 6 by omega) (by decide) ?_
                                  refine cx_top (if_pos (by omega)) ?_
                                  exact hk_ireturn rfl (rfl) dX9_hand_211 (by have e : cd_hand S c (nI a) (nI b2) (nI e3) x = 0 := (by simp [cd_hand, cs_sq, f6, vaa, f14, vab2, f22, vae3, b56, f79, f87, f95, f115, f120, f125, f130, f161, cd_K]); exact ⟨_, rfl, g, hm_x.rf, Or.inl ⟨by rw [e]; rfl, by simp only [cs_hand, cs_cadd, vaa, vab2, vae3, ← Int32.sub_eq_add_neg] <;> rfl, A, hm_mt M (nI 0), rfl, hm_mt0, ok, hk, by simp only [cs_hand, cs_cadd, vaa, vab2, vae3, ← Int32.sub_eq_add_neg] <;> rfl⟩⟩)
                                · exact absurd z172 (by decide)
                              · skip
                                have f161 : cd_C S a e3 x = 4 := if_neg z161
                                refine hk_iconst (v := nI 4) dX9_hand_164 rfl (by decide) ?_
                                refine hk_goto (tgt := 169) dX9_hand_165 (by decide) ?_
                                refine hk_callV dX9_hand_169 rfl mv_X9_80 (cm_isWrong (k := 4) hfl (by decide) hk) rfl rfl (hm_g0 hk) rfl rfl (by decide) ⟨Nat.zero_le _, Nat.zero_le _⟩ (Nat.le_of_ble_eq_true rfl) (hk_ki fun v h1 q => ?_) hk_nx
                                obtain ⟨rfl, rfl⟩ := q
                                try rw [hm_mt_mt]
                                refine cx_ifb_eq (tgt := 177) dX9_hand_172 (by decide) rfl (fun z172 => ?_) (fun z172 => ?_)
                                · exact absurd z172 (by decide)
                                · skip
                                  refine hk_iconst (v := nI 0) dX9_hand_175 rfl (by decide) ?_
                                  exact hk_ireturn rfl (rfl) dX9_hand_176 (by have e : cd_hand S c (nI a) (nI b2) (nI e3) x = 4 := (by first | (simp [cd_hand, cs_sq, cd_K, f6, vaa, f14, vab2, f22, vae3, b56, f79, f87, f95, f115, f120, f125, f130, f161]; done) | (rcases cd_O_or S a with o0 | o0 <;> rcases cd_O_or S b2 with o1 | o1 <;> rcases cd_O_or S e3 with o2 | o2 <;> rcases cd_D_or (nI b2) (nI e3) with o3 | o3 <;> simp [cd_hand, cs_sq, cd_K, f6, vaa, f14, vab2, f22, vae3, b56, f79, f87, f95, f115, f120, f125, f130, f161, o0, o1, o2, o3])); exact ⟨_, rfl, g, hm_x.rf, Or.inr ⟨by rw [e]; decide, A, hm_mt M (nI 4), rfl, by rw [e]; exact hm_mt0, ok, hk, rfl⟩⟩)
                            · exact absurd z144 (by decide)
                          · exact absurd z135 (by decide)
                · have f95 : cd_O S e3 = 3 := cd_O_3 (of_decide_eq_true z95)
                  refine hk_iconst (v := nI 1) dX9_hand_98 rfl (by decide) ?_
                  refine hk_goto (tgt := 103) dX9_hand_99 (by decide) ?_
                  refine hk_istore dX9_hand_103 rfl (by decide) rfl ?_
                  refine hk_aload_n dX9_hand_105 rfl rfl rfl ?_
                  refine hk_iload dX9_hand_106 rfl rfl ?_
                  refine hk_iconst (v := nI 1) dX9_hand_108 rfl (by decide) ?_
                  refine hk_sipush (v := nI 9999) dX9_hand_109 rfl (by decide) ?_
                  refine hk_callS dX9_hand_112 rfl ms_X9_60 (cm_isBetween hfl) rfl rfl (by decide) ⟨Nat.zero_le _, Nat.zero_le _⟩ (Nat.le_of_ble_eq_true rfl) (hk_ki fun v h1 q => ?_) hk_nx
                  obtain ⟨rfl, rfl⟩ := q
                  refine cx_top (congrArg cx_b (cs_bwR _ _)) ?_
                  refine cx_ifb_eq (tgt := 138) dX9_hand_115 (by decide) rfl (fun z115 => ?_) (fun z115 => ?_)
                  · have f115 : cd_R x 9999 = 2 := cd_R_2 (of_decide_eq_false z115)
                    refine hk_iconst (v := nI 2) dX9_hand_138 rfl (by decide) ?_
                    refine hk_goto (tgt := 169) dX9_hand_139 (by decide) ?_
                    refine hk_callV dX9_hand_169 rfl mv_X9_80 (cm_isWrong (k := 2) hfl (by decide) hk) rfl rfl (hm_g0 hk) rfl rfl (by decide) ⟨Nat.zero_le _, Nat.zero_le _⟩ (Nat.le_of_ble_eq_true rfl) (hk_ki fun v h1 q => ?_) hk_nx
                    obtain ⟨rfl, rfl⟩ := q
                    try rw [hm_mt_mt]
                    refine cx_ifb_eq (tgt := 177) dX9_hand_172 (by decide) rfl (fun z172 => ?_) (fun z172 => ?_)
                    · exact absurd z172 (by decide)
                    · skip
                      refine hk_iconst (v := nI 0) dX9_hand_175 rfl (by decide) ?_
                      exact hk_ireturn rfl (rfl) dX9_hand_176 (by have e : cd_hand S c (nI a) (nI b2) (nI e3) x = 2 := (by first | (simp [cd_hand, cs_sq, cd_K, f6, vaa, f14, vab2, f22, vae3, b56, f79, f87, f95, f115]; done) | (rcases cd_O_or S a with o0 | o0 <;> rcases cd_O_or S b2 with o1 | o1 <;> rcases cd_O_or S e3 with o2 | o2 <;> rcases cd_D_or (nI b2) (nI e3) with o3 | o3 <;> simp [cd_hand, cs_sq, cd_K, f6, vaa, f14, vab2, f22, vae3, b56, f79, f87, f95, f115, o0, o1, o2, o3])); exact ⟨_, rfl, g, hm_x.rf, Or.inr ⟨by rw [e]; decide, A, hm_mt M (nI 2), rfl, by rw [e]; exact hm_mt0, ok, hk, rfl⟩⟩)
                  · have f115 : cd_R x 9999 = 0 := of_decide_eq_true z115
                    refine hk_iload_n dX9_hand_118 rfl rfl rfl ?_
                    refine hk_iload_n dX9_hand_119 rfl rfl rfl ?_
                    refine cx_icmp_eq (tgt := 138) (by omega) (by omega) dX9_hand_120 (by decide) rfl (fun z120 => ?_) (fun z120 => ?_)
                    · skip
                      have f120 : cd_D (nI a) (nI b2) = 2 := cd_D_eq (by omega)
                      refine hk_iconst (v := nI 2) dX9_hand_138 rfl (by decide) ?_
                      refine hk_goto (tgt := 169) dX9_hand_139 (by decide) ?_
                      refine hk_callV dX9_hand_169 rfl mv_X9_80 (cm_isWrong (k := 2) hfl (by decide) hk) rfl rfl (hm_g0 hk) rfl rfl (by decide) ⟨Nat.zero_le _, Nat.zero_le _⟩ (Nat.le_of_ble_eq_true rfl) (hk_ki fun v h1 q => ?_) hk_nx
                      obtain ⟨rfl, rfl⟩ := q
                      try rw [hm_mt_mt]
                      refine cx_ifb_eq (tgt := 177) dX9_hand_172 (by decide) rfl (fun z172 => ?_) (fun z172 => ?_)
                      · exact absurd z172 (by decide)
                      · skip
                        refine hk_iconst (v := nI 0) dX9_hand_175 rfl (by decide) ?_
                        exact hk_ireturn rfl (rfl) dX9_hand_176 (by have e : cd_hand S c (nI a) (nI b2) (nI e3) x = 2 := (by first | (simp [cd_hand, cs_sq, cd_K, f6, vaa, f14, vab2, f22, vae3, b56, f79, f87, f95, f115, f120]; done) | (rcases cd_O_or S a with o0 | o0 <;> rcases cd_O_or S b2 with o1 | o1 <;> rcases cd_O_or S e3 with o2 | o2 <;> rcases cd_D_or (nI b2) (nI e3) with o3 | o3 <;> simp [cd_hand, cs_sq, cd_K, f6, vaa, f14, vab2, f22, vae3, b56, f79, f87, f95, f115, f120, o0, o1, o2, o3])); exact ⟨_, rfl, g, hm_x.rf, Or.inr ⟨by rw [e]; decide, A, hm_mt M (nI 2), rfl, by rw [e]; exact hm_mt0, ok, hk, rfl⟩⟩)
                    · skip
                      have f120 : cd_D (nI a) (nI b2) = 0 := cd_D_ne (by omega)
                      refine hk_iload_n dX9_hand_123 rfl rfl rfl ?_
                      refine hk_iload_n dX9_hand_124 rfl rfl rfl ?_
                      refine cx_icmp_eq (tgt := 138) (by omega) (by omega) dX9_hand_125 (by decide) rfl (fun z125 => ?_) (fun z125 => ?_)
                      · skip
                        have f125 : cd_D (nI a) (nI e3) = 2 := cd_D_eq (by omega)
                        refine hk_iconst (v := nI 2) dX9_hand_138 rfl (by decide) ?_
                        refine hk_goto (tgt := 169) dX9_hand_139 (by decide) ?_
                        refine hk_callV dX9_hand_169 rfl mv_X9_80 (cm_isWrong (k := 2) hfl (by decide) hk) rfl rfl (hm_g0 hk) rfl rfl (by decide) ⟨Nat.zero_le _, Nat.zero_le _⟩ (Nat.le_of_ble_eq_true rfl) (hk_ki fun v h1 q => ?_) hk_nx
                        obtain ⟨rfl, rfl⟩ := q
                        try rw [hm_mt_mt]
                        refine cx_ifb_eq (tgt := 177) dX9_hand_172 (by decide) rfl (fun z172 => ?_) (fun z172 => ?_)
                        · exact absurd z172 (by decide)
                        · skip
                          refine hk_iconst (v := nI 0) dX9_hand_175 rfl (by decide) ?_
                          exact hk_ireturn rfl (rfl) dX9_hand_176 (by have e : cd_hand S c (nI a) (nI b2) (nI e3) x = 2 := (by first | (simp [cd_hand, cs_sq, cd_K, f6, vaa, f14, vab2, f22, vae3, b56, f79, f87, f95, f115, f120, f125]; done) | (rcases cd_O_or S a with o0 | o0 <;> rcases cd_O_or S b2 with o1 | o1 <;> rcases cd_O_or S e3 with o2 | o2 <;> rcases cd_D_or (nI b2) (nI e3) with o3 | o3 <;> simp [cd_hand, cs_sq, cd_K, f6, vaa, f14, vab2, f22, vae3, b56, f79, f87, f95, f115, f120, f125, o0, o1, o2, o3])); exact ⟨_, rfl, g, hm_x.rf, Or.inr ⟨by rw [e]; decide, A, hm_mt M (nI 2), rfl, by rw [e]; exact hm_mt0, ok, hk, rfl⟩⟩)
                      · skip
                        have f125 : cd_D (nI a) (nI e3) = 0 := cd_D_ne (by omega)
                        refine hk_iload_n dX9_hand_128 rfl rfl rfl ?_
                        refine hk_iload_n dX9_hand_129 rfl rfl rfl ?_
                        refine cx_icmp_eq (tgt := 138) (by omega) (by omega) dX9_hand_130 (by decide) rfl (fun z130 => ?_) (fun z130 => ?_)
                        · skip
                          have f130 : cd_D (nI b2) (nI e3) = 2 := cd_D_eq (by omega)
                          refine hk_iconst (v := nI 2) dX9_hand_138 rfl (by decide) ?_
                          refine hk_goto (tgt := 169) dX9_hand_139 (by decide) ?_
                          refine hk_callV dX9_hand_169 rfl mv_X9_80 (cm_isWrong (k := 2) hfl (by decide) hk) rfl rfl (hm_g0 hk) rfl rfl (by decide) ⟨Nat.zero_le _, Nat.zero_le _⟩ (Nat.le_of_ble_eq_true rfl) (hk_ki fun v h1 q => ?_) hk_nx
                          obtain ⟨rfl, rfl⟩ := q
                          try rw [hm_mt_mt]
                          refine cx_ifb_eq (tgt := 177) dX9_hand_172 (by decide) rfl (fun z172 => ?_) (fun z172 => ?_)
                          · exact absurd z172 (by decide)
                          · skip
                            refine hk_iconst (v := nI 0) dX9_hand_175 rfl (by decide) ?_
                            exact hk_ireturn rfl (rfl) dX9_hand_176 (by have e : cd_hand S c (nI a) (nI b2) (nI e3) x = 2 := (by first | (simp [cd_hand, cs_sq, cd_K, f6, vaa, f14, vab2, f22, vae3, b56, f79, f87, f95, f115, f120, f125, f130]; done) | (rcases cd_O_or S a with o0 | o0 <;> rcases cd_O_or S b2 with o1 | o1 <;> rcases cd_O_or S e3 with o2 | o2 <;> rcases cd_D_or (nI b2) (nI e3) with o3 | o3 <;> simp [cd_hand, cs_sq, cd_K, f6, vaa, f14, vab2, f22, vae3, b56, f79, f87, f95, f115, f120, f125, f130, o0, o1, o2, o3])); exact ⟨_, rfl, g, hm_x.rf, Or.inr ⟨by rw [e]; decide, A, hm_mt M (nI 2), rfl, by rw [e]; exact hm_mt0, ok, hk, rfl⟩⟩)
                        · skip
                          have f130 : cd_D (nI b2) (nI e3) = 0 := cd_D_ne (by omega)
                          refine hk_iload dX9_hand_133 rfl rfl ?_
                          refine cx_ifn_ne (tgt := 142) (by omega) dX9_hand_135 (by decide) rfl (fun z135 => ?_) (fun z135 => ?_)
                          · skip
                            refine hk_iload dX9_hand_142 rfl rfl ?_
                            refine cx_ifn_eq (tgt := 151) (by omega) dX9_hand_144 (by decide) rfl (fun z144 => ?_) (fun z144 => ?_)
                            · exact absurd z144 (by decide)
                            · skip
                              refine hk_iconst (v := nI 3) dX9_hand_147 rfl (by decide) ?_
                              refine hk_goto (tgt := 169) dX9_hand_148 (by decide) ?_
                              refine hk_callV dX9_hand_169 rfl mv_X9_80 (cm_isWrong (k := 3) hfl (by decide) hk) rfl rfl (hm_g0 hk) rfl rfl (by decide) ⟨Nat.zero_le _, Nat.zero_le _⟩ (Nat.le_of_ble_eq_true rfl) (hk_ki fun v h1 q => ?_) hk_nx
                              obtain ⟨rfl, rfl⟩ := q
                              try rw [hm_mt_mt]
                              refine cx_ifb_eq (tgt := 177) dX9_hand_172 (by decide) rfl (fun z172 => ?_) (fun z172 => ?_)
                              · exact absurd z172 (by decide)
                              · skip
                                refine hk_iconst (v := nI 0) dX9_hand_175 rfl (by decide) ?_
                                exact hk_ireturn rfl (rfl) dX9_hand_176 (by have e : cd_hand S c (nI a) (nI b2) (nI e3) x = 3 := (by first | (simp [cd_hand, cs_sq, cd_K, f6, vaa, f14, vab2, f22, vae3, b56, f79, f87, f95, f115, f120, f125, f130]; done) | (rcases cd_O_or S a with o0 | o0 <;> rcases cd_O_or S b2 with o1 | o1 <;> rcases cd_O_or S e3 with o2 | o2 <;> rcases cd_D_or (nI b2) (nI e3) with o3 | o3 <;> simp [cd_hand, cs_sq, cd_K, f6, vaa, f14, vab2, f22, vae3, b56, f79, f87, f95, f115, f120, f125, f130, o0, o1, o2, o3])); exact ⟨_, rfl, g, hm_x.rf, Or.inr ⟨by rw [e]; decide, A, hm_mt M (nI 3), rfl, by rw [e]; exact hm_mt0, ok, hk, rfl⟩⟩)
                          · exact absurd z135 (by decide)
          · skip
            refine hk_aload_n dX9_hand_59 rfl rfl rfl ?_
            refine hk_iload_n dX9_hand_60 rfl rfl rfl ?_
            refine hk_callV dX9_hand_61 rfl mv_X9_146 (cm_wasBank hfl hk ok (by omega)) rfl rfl (hm_g0 hk) rfl rfl (by decide) ⟨Nat.zero_le _, Nat.zero_le _⟩ (Nat.le_of_ble_eq_true rfl) (hk_ki fun v h1 q => ?_) hk_nx
            obtain ⟨rfl, rfl⟩ := q
            refine cx_ifb_eq (tgt := 71) dX9_hand_64 (by decide) rfl (fun z64 => ?_) (fun z64 => ?_)
            · have f64 : cd_O S e3 = 0 := Decidable.of_not_not (of_decide_eq_false z64)
              have b56 : cd_B S e3 = 2 := cd_B_0 ok (by omega) z56 f64
              refine hk_iconst (v := nI 0) dX9_hand_71 rfl (by decide) ?_
              refine hk_istore dX9_hand_72 rfl (by decide) rfl ?_
              refine hk_aload_n dX9_hand_74 rfl rfl rfl ?_
              refine hk_iload_n dX9_hand_75 rfl rfl rfl ?_
              refine hk_callV dX9_hand_76 rfl mv_X9_91 (cm_hasFailed hfl hk ok (by omega)) rfl rfl (hm_g0 hk) rfl rfl (by decide) ⟨Nat.zero_le _, Nat.zero_le _⟩ (Nat.le_of_ble_eq_true rfl) (hk_ki fun v h1 q => ?_) hk_nx
              obtain ⟨rfl, rfl⟩ := q
              refine cx_ifb_ne (tgt := 98) dX9_hand_79 (by decide) rfl (fun z79 => ?_) (fun z79 => ?_)
              · have f79 : cd_O S a = 3 := cd_O_3 (of_decide_eq_true z79)
                refine hk_iconst (v := nI 1) dX9_hand_98 rfl (by decide) ?_
                refine hk_goto (tgt := 103) dX9_hand_99 (by decide) ?_
                refine hk_istore dX9_hand_103 rfl (by decide) rfl ?_
                refine hk_aload_n dX9_hand_105 rfl rfl rfl ?_
                refine hk_iload dX9_hand_106 rfl rfl ?_
                refine hk_iconst (v := nI 1) dX9_hand_108 rfl (by decide) ?_
                refine hk_sipush (v := nI 9999) dX9_hand_109 rfl (by decide) ?_
                refine hk_callS dX9_hand_112 rfl ms_X9_60 (cm_isBetween hfl) rfl rfl (by decide) ⟨Nat.zero_le _, Nat.zero_le _⟩ (Nat.le_of_ble_eq_true rfl) (hk_ki fun v h1 q => ?_) hk_nx
                obtain ⟨rfl, rfl⟩ := q
                refine cx_top (congrArg cx_b (cs_bwR _ _)) ?_
                refine cx_ifb_eq (tgt := 138) dX9_hand_115 (by decide) rfl (fun z115 => ?_) (fun z115 => ?_)
                · have f115 : cd_R x 9999 = 2 := cd_R_2 (of_decide_eq_false z115)
                  refine hk_iconst (v := nI 2) dX9_hand_138 rfl (by decide) ?_
                  refine hk_goto (tgt := 169) dX9_hand_139 (by decide) ?_
                  refine hk_callV dX9_hand_169 rfl mv_X9_80 (cm_isWrong (k := 2) hfl (by decide) hk) rfl rfl (hm_g0 hk) rfl rfl (by decide) ⟨Nat.zero_le _, Nat.zero_le _⟩ (Nat.le_of_ble_eq_true rfl) (hk_ki fun v h1 q => ?_) hk_nx
                  obtain ⟨rfl, rfl⟩ := q
                  try rw [hm_mt_mt]
                  refine cx_ifb_eq (tgt := 177) dX9_hand_172 (by decide) rfl (fun z172 => ?_) (fun z172 => ?_)
                  · exact absurd z172 (by decide)
                  · skip
                    refine hk_iconst (v := nI 0) dX9_hand_175 rfl (by decide) ?_
                    exact hk_ireturn rfl (rfl) dX9_hand_176 (by have e : cd_hand S c (nI a) (nI b2) (nI e3) x = 2 := (by first | (simp [cd_hand, cs_sq, cd_K, f6, vaa, f14, vab2, f22, vae3, f64, b56, f79, f115]; done) | (rcases cd_O_or S a with o0 | o0 <;> rcases cd_O_or S b2 with o1 | o1 <;> rcases cd_O_or S e3 with o2 | o2 <;> rcases cd_D_or (nI b2) (nI e3) with o3 | o3 <;> simp [cd_hand, cs_sq, cd_K, f6, vaa, f14, vab2, f22, vae3, f64, b56, f79, f115, o0, o1, o2, o3])); exact ⟨_, rfl, g, hm_x.rf, Or.inr ⟨by rw [e]; decide, A, hm_mt M (nI 2), rfl, by rw [e]; exact hm_mt0, ok, hk, rfl⟩⟩)
                · have f115 : cd_R x 9999 = 0 := of_decide_eq_true z115
                  refine hk_iload_n dX9_hand_118 rfl rfl rfl ?_
                  refine hk_iload_n dX9_hand_119 rfl rfl rfl ?_
                  refine cx_icmp_eq (tgt := 138) (by omega) (by omega) dX9_hand_120 (by decide) rfl (fun z120 => ?_) (fun z120 => ?_)
                  · skip
                    have f120 : cd_D (nI a) (nI b2) = 2 := cd_D_eq (by omega)
                    refine hk_iconst (v := nI 2) dX9_hand_138 rfl (by decide) ?_
                    refine hk_goto (tgt := 169) dX9_hand_139 (by decide) ?_
                    refine hk_callV dX9_hand_169 rfl mv_X9_80 (cm_isWrong (k := 2) hfl (by decide) hk) rfl rfl (hm_g0 hk) rfl rfl (by decide) ⟨Nat.zero_le _, Nat.zero_le _⟩ (Nat.le_of_ble_eq_true rfl) (hk_ki fun v h1 q => ?_) hk_nx
                    obtain ⟨rfl, rfl⟩ := q
                    try rw [hm_mt_mt]
                    refine cx_ifb_eq (tgt := 177) dX9_hand_172 (by decide) rfl (fun z172 => ?_) (fun z172 => ?_)
                    · exact absurd z172 (by decide)
                    · skip
                      refine hk_iconst (v := nI 0) dX9_hand_175 rfl (by decide) ?_
                      exact hk_ireturn rfl (rfl) dX9_hand_176 (by have e : cd_hand S c (nI a) (nI b2) (nI e3) x = 2 := (by first | (simp [cd_hand, cs_sq, cd_K, f6, vaa, f14, vab2, f22, vae3, f64, b56, f79, f115, f120]; done) | (rcases cd_O_or S a with o0 | o0 <;> rcases cd_O_or S b2 with o1 | o1 <;> rcases cd_O_or S e3 with o2 | o2 <;> rcases cd_D_or (nI b2) (nI e3) with o3 | o3 <;> simp [cd_hand, cs_sq, cd_K, f6, vaa, f14, vab2, f22, vae3, f64, b56, f79, f115, f120, o0, o1, o2, o3])); exact ⟨_, rfl, g, hm_x.rf, Or.inr ⟨by rw [e]; decide, A, hm_mt M (nI 2), rfl, by rw [e]; exact hm_mt0, ok, hk, rfl⟩⟩)
                  · skip
                    have f120 : cd_D (nI a) (nI b2) = 0 := cd_D_ne (by omega)
                    refine hk_iload_n dX9_hand_123 rfl rfl rfl ?_
                    refine hk_iload_n dX9_hand_124 rfl rfl rfl ?_
                    refine cx_icmp_eq (tgt := 138) (by omega) (by omega) dX9_hand_125 (by decide) rfl (fun z125 => ?_) (fun z125 => ?_)
                    · skip
                      have f125 : cd_D (nI a) (nI e3) = 2 := cd_D_eq (by omega)
                      refine hk_iconst (v := nI 2) dX9_hand_138 rfl (by decide) ?_
                      refine hk_goto (tgt := 169) dX9_hand_139 (by decide) ?_
                      refine hk_callV dX9_hand_169 rfl mv_X9_80 (cm_isWrong (k := 2) hfl (by decide) hk) rfl rfl (hm_g0 hk) rfl rfl (by decide) ⟨Nat.zero_le _, Nat.zero_le _⟩ (Nat.le_of_ble_eq_true rfl) (hk_ki fun v h1 q => ?_) hk_nx
                      obtain ⟨rfl, rfl⟩ := q
                      try rw [hm_mt_mt]
                      refine cx_ifb_eq (tgt := 177) dX9_hand_172 (by decide) rfl (fun z172 => ?_) (fun z172 => ?_)
                      · exact absurd z172 (by decide)
                      · skip
                        refine hk_iconst (v := nI 0) dX9_hand_175 rfl (by decide) ?_
                        exact hk_ireturn rfl (rfl) dX9_hand_176 (by have e : cd_hand S c (nI a) (nI b2) (nI e3) x = 2 := (by first | (simp [cd_hand, cs_sq, cd_K, f6, vaa, f14, vab2, f22, vae3, f64, b56, f79, f115, f120, f125]; done) | (rcases cd_O_or S a with o0 | o0 <;> rcases cd_O_or S b2 with o1 | o1 <;> rcases cd_O_or S e3 with o2 | o2 <;> rcases cd_D_or (nI b2) (nI e3) with o3 | o3 <;> simp [cd_hand, cs_sq, cd_K, f6, vaa, f14, vab2, f22, vae3, f64, b56, f79, f115, f120, f125, o0, o1, o2, o3])); exact ⟨_, rfl, g, hm_x.rf, Or.inr ⟨by rw [e]; decide, A, hm_mt M (nI 2), rfl, by rw [e]; exact hm_mt0, ok, hk, rfl⟩⟩)
                    · skip
                      have f125 : cd_D (nI a) (nI e3) = 0 := cd_D_ne (by omega)
                      refine hk_iload_n dX9_hand_128 rfl rfl rfl ?_
                      refine hk_iload_n dX9_hand_129 rfl rfl rfl ?_
                      refine cx_icmp_eq (tgt := 138) (by omega) (by omega) dX9_hand_130 (by decide) rfl (fun z130 => ?_) (fun z130 => ?_)
                      · skip
                        have f130 : cd_D (nI b2) (nI e3) = 2 := cd_D_eq (by omega)
                        refine hk_iconst (v := nI 2) dX9_hand_138 rfl (by decide) ?_
                        refine hk_goto (tgt := 169) dX9_hand_139 (by decide) ?_
                        refine hk_callV dX9_hand_169 rfl mv_X9_80 (cm_isWrong (k := 2) hfl (by decide) hk) rfl rfl (hm_g0 hk) rfl rfl (by decide) ⟨Nat.zero_le _, Nat.zero_le _⟩ (Nat.le_of_ble_eq_true rfl) (hk_ki fun v h1 q => ?_) hk_nx
                        obtain ⟨rfl, rfl⟩ := q
                        try rw [hm_mt_mt]
                        refine cx_ifb_eq (tgt := 177) dX9_hand_172 (by decide) rfl (fun z172 => ?_) (fun z172 => ?_)
                        · exact absurd z172 (by decide)
                        · skip
                          refine hk_iconst (v := nI 0) dX9_hand_175 rfl (by decide) ?_
                          exact hk_ireturn rfl (rfl) dX9_hand_176 (by have e : cd_hand S c (nI a) (nI b2) (nI e3) x = 2 := (by first | (simp [cd_hand, cs_sq, cd_K, f6, vaa, f14, vab2, f22, vae3, f64, b56, f79, f115, f120, f125, f130]; done) | (rcases cd_O_or S a with o0 | o0 <;> rcases cd_O_or S b2 with o1 | o1 <;> rcases cd_O_or S e3 with o2 | o2 <;> rcases cd_D_or (nI b2) (nI e3) with o3 | o3 <;> simp [cd_hand, cs_sq, cd_K, f6, vaa, f14, vab2, f22, vae3, f64, b56, f79, f115, f120, f125, f130, o0, o1, o2, o3])); exact ⟨_, rfl, g, hm_x.rf, Or.inr ⟨by rw [e]; decide, A, hm_mt M (nI 2), rfl, by rw [e]; exact hm_mt0, ok, hk, rfl⟩⟩)
                      · skip
                        have f130 : cd_D (nI b2) (nI e3) = 0 := cd_D_ne (by omega)
                        refine hk_iload dX9_hand_133 rfl rfl ?_
                        refine cx_ifn_ne (tgt := 142) (by omega) dX9_hand_135 (by decide) rfl (fun z135 => ?_) (fun z135 => ?_)
                        · exact absurd z135 (by decide)
                        · skip
                          refine hk_iconst (v := nI 2) dX9_hand_138 rfl (by decide) ?_
                          refine hk_goto (tgt := 169) dX9_hand_139 (by decide) ?_
                          refine hk_callV dX9_hand_169 rfl mv_X9_80 (cm_isWrong (k := 2) hfl (by decide) hk) rfl rfl (hm_g0 hk) rfl rfl (by decide) ⟨Nat.zero_le _, Nat.zero_le _⟩ (Nat.le_of_ble_eq_true rfl) (hk_ki fun v h1 q => ?_) hk_nx
                          obtain ⟨rfl, rfl⟩ := q
                          try rw [hm_mt_mt]
                          refine cx_ifb_eq (tgt := 177) dX9_hand_172 (by decide) rfl (fun z172 => ?_) (fun z172 => ?_)
                          · exact absurd z172 (by decide)
                          · skip
                            refine hk_iconst (v := nI 0) dX9_hand_175 rfl (by decide) ?_
                            exact hk_ireturn rfl (rfl) dX9_hand_176 (by have e : cd_hand S c (nI a) (nI b2) (nI e3) x = 2 := (by first | (simp [cd_hand, cs_sq, cd_K, f6, vaa, f14, vab2, f22, vae3, f64, b56, f79, f115, f120, f125, f130]; done) | (rcases cd_O_or S a with o0 | o0 <;> rcases cd_O_or S b2 with o1 | o1 <;> rcases cd_O_or S e3 with o2 | o2 <;> rcases cd_D_or (nI b2) (nI e3) with o3 | o3 <;> simp [cd_hand, cs_sq, cd_K, f6, vaa, f14, vab2, f22, vae3, f64, b56, f79, f115, f120, f125, f130, o0, o1, o2, o3])); exact ⟨_, rfl, g, hm_x.rf, Or.inr ⟨by rw [e]; decide, A, hm_mt M (nI 2), rfl, by rw [e]; exact hm_mt0, ok, hk, rfl⟩⟩)
              · have f79 : cd_O S a = 0 := Decidable.of_not_not (of_decide_eq_false z79)
                refine hk_aload_n dX9_hand_82 rfl rfl rfl ?_
                refine hk_iload_n dX9_hand_83 rfl rfl rfl ?_
                refine hk_callV dX9_hand_84 rfl mv_X9_91 (cm_hasFailed hfl hk ok (by omega)) rfl rfl (hm_g0 hk) rfl rfl (by decide) ⟨Nat.zero_le _, Nat.zero_le _⟩ (Nat.le_of_ble_eq_true rfl) (hk_ki fun v h1 q => ?_) hk_nx
                obtain ⟨rfl, rfl⟩ := q
                refine cx_ifb_ne (tgt := 98) dX9_hand_87 (by decide) rfl (fun z87 => ?_) (fun z87 => ?_)
                · have f87 : cd_O S b2 = 3 := cd_O_3 (of_decide_eq_true z87)
                  refine hk_iconst (v := nI 1) dX9_hand_98 rfl (by decide) ?_
                  refine hk_goto (tgt := 103) dX9_hand_99 (by decide) ?_
                  refine hk_istore dX9_hand_103 rfl (by decide) rfl ?_
                  refine hk_aload_n dX9_hand_105 rfl rfl rfl ?_
                  refine hk_iload dX9_hand_106 rfl rfl ?_
                  refine hk_iconst (v := nI 1) dX9_hand_108 rfl (by decide) ?_
                  refine hk_sipush (v := nI 9999) dX9_hand_109 rfl (by decide) ?_
                  refine hk_callS dX9_hand_112 rfl ms_X9_60 (cm_isBetween hfl) rfl rfl (by decide) ⟨Nat.zero_le _, Nat.zero_le _⟩ (Nat.le_of_ble_eq_true rfl) (hk_ki fun v h1 q => ?_) hk_nx
                  obtain ⟨rfl, rfl⟩ := q
                  refine cx_top (congrArg cx_b (cs_bwR _ _)) ?_
                  refine cx_ifb_eq (tgt := 138) dX9_hand_115 (by decide) rfl (fun z115 => ?_) (fun z115 => ?_)
                  · have f115 : cd_R x 9999 = 2 := cd_R_2 (of_decide_eq_false z115)
                    refine hk_iconst (v := nI 2) dX9_hand_138 rfl (by decide) ?_
                    refine hk_goto (tgt := 169) dX9_hand_139 (by decide) ?_
                    refine hk_callV dX9_hand_169 rfl mv_X9_80 (cm_isWrong (k := 2) hfl (by decide) hk) rfl rfl (hm_g0 hk) rfl rfl (by decide) ⟨Nat.zero_le _, Nat.zero_le _⟩ (Nat.le_of_ble_eq_true rfl) (hk_ki fun v h1 q => ?_) hk_nx
                    obtain ⟨rfl, rfl⟩ := q
                    try rw [hm_mt_mt]
                    refine cx_ifb_eq (tgt := 177) dX9_hand_172 (by decide) rfl (fun z172 => ?_) (fun z172 => ?_)
                    · exact absurd z172 (by decide)
                    · skip
                      refine hk_iconst (v := nI 0) dX9_hand_175 rfl (by decide) ?_
                      exact hk_ireturn rfl (rfl) dX9_hand_176 (by have e : cd_hand S c (nI a) (nI b2) (nI e3) x = 2 := (by first | (simp [cd_hand, cs_sq, cd_K, f6, vaa, f14, vab2, f22, vae3, f64, b56, f79, f87, f115]; done) | (rcases cd_O_or S a with o0 | o0 <;> rcases cd_O_or S b2 with o1 | o1 <;> rcases cd_O_or S e3 with o2 | o2 <;> rcases cd_D_or (nI b2) (nI e3) with o3 | o3 <;> simp [cd_hand, cs_sq, cd_K, f6, vaa, f14, vab2, f22, vae3, f64, b56, f79, f87, f115, o0, o1, o2, o3])); exact ⟨_, rfl, g, hm_x.rf, Or.inr ⟨by rw [e]; decide, A, hm_mt M (nI 2), rfl, by rw [e]; exact hm_mt0, ok, hk, rfl⟩⟩)
                  · have f115 : cd_R x 9999 = 0 := of_decide_eq_true z115
                    refine hk_iload_n dX9_hand_118 rfl rfl rfl ?_
                    refine hk_iload_n dX9_hand_119 rfl rfl rfl ?_
                    refine cx_icmp_eq (tgt := 138) (by omega) (by omega) dX9_hand_120 (by decide) rfl (fun z120 => ?_) (fun z120 => ?_)
                    · skip
                      have f120 : cd_D (nI a) (nI b2) = 2 := cd_D_eq (by omega)
                      refine hk_iconst (v := nI 2) dX9_hand_138 rfl (by decide) ?_
                      refine hk_goto (tgt := 169) dX9_hand_139 (by decide) ?_
                      refine hk_callV dX9_hand_169 rfl mv_X9_80 (cm_isWrong (k := 2) hfl (by decide) hk) rfl rfl (hm_g0 hk) rfl rfl (by decide) ⟨Nat.zero_le _, Nat.zero_le _⟩ (Nat.le_of_ble_eq_true rfl) (hk_ki fun v h1 q => ?_) hk_nx
                      obtain ⟨rfl, rfl⟩ := q
                      try rw [hm_mt_mt]
                      refine cx_ifb_eq (tgt := 177) dX9_hand_172 (by decide) rfl (fun z172 => ?_) (fun z172 => ?_)
                      · exact absurd z172 (by decide)
                      · skip
                        refine hk_iconst (v := nI 0) dX9_hand_175 rfl (by decide) ?_
                        exact hk_ireturn rfl (rfl) dX9_hand_176 (by have e : cd_hand S c (nI a) (nI b2) (nI e3) x = 2 := (by first | (simp [cd_hand, cs_sq, cd_K, f6, vaa, f14, vab2, f22, vae3, f64, b56, f79, f87, f115, f120]; done) | (rcases cd_O_or S a with o0 | o0 <;> rcases cd_O_or S b2 with o1 | o1 <;> rcases cd_O_or S e3 with o2 | o2 <;> rcases cd_D_or (nI b2) (nI e3) with o3 | o3 <;> simp [cd_hand, cs_sq, cd_K, f6, vaa, f14, vab2, f22, vae3, f64, b56, f79, f87, f115, f120, o0, o1, o2, o3])); exact ⟨_, rfl, g, hm_x.rf, Or.inr ⟨by rw [e]; decide, A, hm_mt M (nI 2), rfl, by rw [e]; exact hm_mt0, ok, hk, rfl⟩⟩)
                    · skip
                      have f120 : cd_D (nI a) (nI b2) = 0 := cd_D_ne (by omega)
                      refine hk_iload_n dX9_hand_123 rfl rfl rfl ?_
                      refine hk_iload_n dX9_hand_124 rfl rfl rfl ?_
                      refine cx_icmp_eq (tgt := 138) (by omega) (by omega) dX9_hand_125 (by decide) rfl (fun z125 => ?_) (fun z125 => ?_)
                      · skip
                        have f125 : cd_D (nI a) (nI e3) = 2 := cd_D_eq (by omega)
                        refine hk_iconst (v := nI 2) dX9_hand_138 rfl (by decide) ?_
                        refine hk_goto (tgt := 169) dX9_hand_139 (by decide) ?_
                        refine hk_callV dX9_hand_169 rfl mv_X9_80 (cm_isWrong (k := 2) hfl (by decide) hk) rfl rfl (hm_g0 hk) rfl rfl (by decide) ⟨Nat.zero_le _, Nat.zero_le _⟩ (Nat.le_of_ble_eq_true rfl) (hk_ki fun v h1 q => ?_) hk_nx
                        obtain ⟨rfl, rfl⟩ := q
                        try rw [hm_mt_mt]
                        refine cx_ifb_eq (tgt := 177) dX9_hand_172 (by decide) rfl (fun z172 => ?_) (fun z172 => ?_)
                        · exact absurd z172 (by decide)
                        · skip
                          refine hk_iconst (v := nI 0) dX9_hand_175 rfl (by decide) ?_
                          exact hk_ireturn rfl (rfl) dX9_hand_176 (by have e : cd_hand S c (nI a) (nI b2) (nI e3) x = 2 := (by first | (simp [cd_hand, cs_sq, cd_K, f6, vaa, f14, vab2, f22, vae3, f64, b56, f79, f87, f115, f120, f125]; done) | (rcases cd_O_or S a with o0 | o0 <;> rcases cd_O_or S b2 with o1 | o1 <;> rcases cd_O_or S e3 with o2 | o2 <;> rcases cd_D_or (nI b2) (nI e3) with o3 | o3 <;> simp [cd_hand, cs_sq, cd_K, f6, vaa, f14, vab2, f22, vae3, f64, b56, f79, f87, f115, f120, f125, o0, o1, o2, o3])); exact ⟨_, rfl, g, hm_x.rf, Or.inr ⟨by rw [e]; decide, A, hm_mt M (nI 2), rfl, by rw [e]; exact hm_mt0, ok, hk, rfl⟩⟩)
                      · skip
                        have f125 : cd_D (nI a) (nI e3) = 0 := cd_D_ne (by omega)
                        refine hk_iload_n dX9_hand_128 rfl rfl rfl ?_
                        refine hk_iload_n dX9_hand_129 rfl rfl rfl ?_
                        refine cx_icmp_eq (tgt := 138) (by omega) (by omega) dX9_hand_130 (by decide) rfl (fun z130 => ?_) (fun z130 => ?_)
                        · skip
                          have f130 : cd_D (nI b2) (nI e3) = 2 := cd_D_eq (by omega)
                          refine hk_iconst (v := nI 2) dX9_hand_138 rfl (by decide) ?_
                          refine hk_goto (tgt := 169) dX9_hand_139 (by decide) ?_
                          refine hk_callV dX9_hand_169 rfl mv_X9_80 (cm_isWrong (k := 2) hfl (by decide) hk) rfl rfl (hm_g0 hk) rfl rfl (by decide) ⟨Nat.zero_le _, Nat.zero_le _⟩ (Nat.le_of_ble_eq_true rfl) (hk_ki fun v h1 q => ?_) hk_nx
                          obtain ⟨rfl, rfl⟩ := q
                          try rw [hm_mt_mt]
                          refine cx_ifb_eq (tgt := 177) dX9_hand_172 (by decide) rfl (fun z172 => ?_) (fun z172 => ?_)
                          · exact absurd z172 (by decide)
                          · skip
                            refine hk_iconst (v := nI 0) dX9_hand_175 rfl (by decide) ?_
                            exact hk_ireturn rfl (rfl) dX9_hand_176 (by have e : cd_hand S c (nI a) (nI b2) (nI e3) x = 2 := (by first | (simp [cd_hand, cs_sq, cd_K, f6, vaa, f14, vab2, f22, vae3, f64, b56, f79, f87, f115, f120, f125, f130]; done) | (rcases cd_O_or S a with o0 | o0 <;> rcases cd_O_or S b2 with o1 | o1 <;> rcases cd_O_or S e3 with o2 | o2 <;> rcases cd_D_or (nI b2) (nI e3) with o3 | o3 <;> simp [cd_hand, cs_sq, cd_K, f6, vaa, f14, vab2, f22, vae3, f64, b56, f79, f87, f115, f120, f125, f130, o0, o1, o2, o3])); exact ⟨_, rfl, g, hm_x.rf, Or.inr ⟨by rw [e]; decide, A, hm_mt M (nI 2), rfl, by rw [e]; exact hm_mt0, ok, hk, rfl⟩⟩)
                        · skip
                          have f130 : cd_D (nI b2) (nI e3) = 0 := cd_D_ne (by omega)
                          refine hk_iload dX9_hand_133 rfl rfl ?_
                          refine cx_ifn_ne (tgt := 142) (by omega) dX9_hand_135 (by decide) rfl (fun z135 => ?_) (fun z135 => ?_)
                          · exact absurd z135 (by decide)
                          · skip
                            refine hk_iconst (v := nI 2) dX9_hand_138 rfl (by decide) ?_
                            refine hk_goto (tgt := 169) dX9_hand_139 (by decide) ?_
                            refine hk_callV dX9_hand_169 rfl mv_X9_80 (cm_isWrong (k := 2) hfl (by decide) hk) rfl rfl (hm_g0 hk) rfl rfl (by decide) ⟨Nat.zero_le _, Nat.zero_le _⟩ (Nat.le_of_ble_eq_true rfl) (hk_ki fun v h1 q => ?_) hk_nx
                            obtain ⟨rfl, rfl⟩ := q
                            try rw [hm_mt_mt]
                            refine cx_ifb_eq (tgt := 177) dX9_hand_172 (by decide) rfl (fun z172 => ?_) (fun z172 => ?_)
                            · exact absurd z172 (by decide)
                            · skip
                              refine hk_iconst (v := nI 0) dX9_hand_175 rfl (by decide) ?_
                              exact hk_ireturn rfl (rfl) dX9_hand_176 (by have e : cd_hand S c (nI a) (nI b2) (nI e3) x = 2 := (by first | (simp [cd_hand, cs_sq, cd_K, f6, vaa, f14, vab2, f22, vae3, f64, b56, f79, f87, f115, f120, f125, f130]; done) | (rcases cd_O_or S a with o0 | o0 <;> rcases cd_O_or S b2 with o1 | o1 <;> rcases cd_O_or S e3 with o2 | o2 <;> rcases cd_D_or (nI b2) (nI e3) with o3 | o3 <;> simp [cd_hand, cs_sq, cd_K, f6, vaa, f14, vab2, f22, vae3, f64, b56, f79, f87, f115, f120, f125, f130, o0, o1, o2, o3])); exact ⟨_, rfl, g, hm_x.rf, Or.inr ⟨by rw [e]; decide, A, hm_mt M (nI 2), rfl, by rw [e]; exact hm_mt0, ok, hk, rfl⟩⟩)
                · have f87 : cd_O S b2 = 0 := Decidable.of_not_not (of_decide_eq_false z87)
                  refine hk_aload_n dX9_hand_90 rfl rfl rfl ?_
                  refine hk_iload_n dX9_hand_91 rfl rfl rfl ?_
                  refine hk_callV dX9_hand_92 rfl mv_X9_91 (cm_hasFailed hfl hk ok (by omega)) rfl rfl (hm_g0 hk) rfl rfl (by decide) ⟨Nat.zero_le _, Nat.zero_le _⟩ (Nat.le_of_ble_eq_true rfl) (hk_ki fun v h1 q => ?_) hk_nx
                  obtain ⟨rfl, rfl⟩ := q
                  refine cx_ifb_eq (tgt := 102) dX9_hand_95 (by decide) rfl (fun z95 => ?_) (fun z95 => ?_)
                  · have f95 : cd_O S e3 = 0 := Decidable.of_not_not (of_decide_eq_false z95)
                    refine hk_iconst (v := nI 0) dX9_hand_102 rfl (by decide) ?_
                    refine hk_istore dX9_hand_103 rfl (by decide) rfl ?_
                    refine hk_aload_n dX9_hand_105 rfl rfl rfl ?_
                    refine hk_iload dX9_hand_106 rfl rfl ?_
                    refine hk_iconst (v := nI 1) dX9_hand_108 rfl (by decide) ?_
                    refine hk_sipush (v := nI 9999) dX9_hand_109 rfl (by decide) ?_
                    refine hk_callS dX9_hand_112 rfl ms_X9_60 (cm_isBetween hfl) rfl rfl (by decide) ⟨Nat.zero_le _, Nat.zero_le _⟩ (Nat.le_of_ble_eq_true rfl) (hk_ki fun v h1 q => ?_) hk_nx
                    obtain ⟨rfl, rfl⟩ := q
                    refine cx_top (congrArg cx_b (cs_bwR _ _)) ?_
                    refine cx_ifb_eq (tgt := 138) dX9_hand_115 (by decide) rfl (fun z115 => ?_) (fun z115 => ?_)
                    · have f115 : cd_R x 9999 = 2 := cd_R_2 (of_decide_eq_false z115)
                      refine hk_iconst (v := nI 2) dX9_hand_138 rfl (by decide) ?_
                      refine hk_goto (tgt := 169) dX9_hand_139 (by decide) ?_
                      refine hk_callV dX9_hand_169 rfl mv_X9_80 (cm_isWrong (k := 2) hfl (by decide) hk) rfl rfl (hm_g0 hk) rfl rfl (by decide) ⟨Nat.zero_le _, Nat.zero_le _⟩ (Nat.le_of_ble_eq_true rfl) (hk_ki fun v h1 q => ?_) hk_nx
                      obtain ⟨rfl, rfl⟩ := q
                      try rw [hm_mt_mt]
                      refine cx_ifb_eq (tgt := 177) dX9_hand_172 (by decide) rfl (fun z172 => ?_) (fun z172 => ?_)
                      · exact absurd z172 (by decide)
                      · skip
                        refine hk_iconst (v := nI 0) dX9_hand_175 rfl (by decide) ?_
                        exact hk_ireturn rfl (rfl) dX9_hand_176 (by have e : cd_hand S c (nI a) (nI b2) (nI e3) x = 2 := (by first | (simp [cd_hand, cs_sq, cd_K, f6, vaa, f14, vab2, f22, vae3, f64, b56, f79, f87, f95, f115]; done) | (rcases cd_O_or S a with o0 | o0 <;> rcases cd_O_or S b2 with o1 | o1 <;> rcases cd_O_or S e3 with o2 | o2 <;> rcases cd_D_or (nI b2) (nI e3) with o3 | o3 <;> simp [cd_hand, cs_sq, cd_K, f6, vaa, f14, vab2, f22, vae3, f64, b56, f79, f87, f95, f115, o0, o1, o2, o3])); exact ⟨_, rfl, g, hm_x.rf, Or.inr ⟨by rw [e]; decide, A, hm_mt M (nI 2), rfl, by rw [e]; exact hm_mt0, ok, hk, rfl⟩⟩)
                    · have f115 : cd_R x 9999 = 0 := of_decide_eq_true z115
                      refine hk_iload_n dX9_hand_118 rfl rfl rfl ?_
                      refine hk_iload_n dX9_hand_119 rfl rfl rfl ?_
                      refine cx_icmp_eq (tgt := 138) (by omega) (by omega) dX9_hand_120 (by decide) rfl (fun z120 => ?_) (fun z120 => ?_)
                      · skip
                        have f120 : cd_D (nI a) (nI b2) = 2 := cd_D_eq (by omega)
                        refine hk_iconst (v := nI 2) dX9_hand_138 rfl (by decide) ?_
                        refine hk_goto (tgt := 169) dX9_hand_139 (by decide) ?_
                        refine hk_callV dX9_hand_169 rfl mv_X9_80 (cm_isWrong (k := 2) hfl (by decide) hk) rfl rfl (hm_g0 hk) rfl rfl (by decide) ⟨Nat.zero_le _, Nat.zero_le _⟩ (Nat.le_of_ble_eq_true rfl) (hk_ki fun v h1 q => ?_) hk_nx
                        obtain ⟨rfl, rfl⟩ := q
                        try rw [hm_mt_mt]
                        refine cx_ifb_eq (tgt := 177) dX9_hand_172 (by decide) rfl (fun z172 => ?_) (fun z172 => ?_)
                        · exact absurd z172 (by decide)
                        · skip
                          refine hk_iconst (v := nI 0) dX9_hand_175 rfl (by decide) ?_
                          exact hk_ireturn rfl (rfl) dX9_hand_176 (by have e : cd_hand S c (nI a) (nI b2) (nI e3) x = 2 := (by first | (simp [cd_hand, cs_sq, cd_K, f6, vaa, f14, vab2, f22, vae3, f64, b56, f79, f87, f95, f115, f120]; done) | (rcases cd_O_or S a with o0 | o0 <;> rcases cd_O_or S b2 with o1 | o1 <;> rcases cd_O_or S e3 with o2 | o2 <;> rcases cd_D_or (nI b2) (nI e3) with o3 | o3 <;> simp [cd_hand, cs_sq, cd_K, f6, vaa, f14, vab2, f22, vae3, f64, b56, f79, f87, f95, f115, f120, o0, o1, o2, o3])); exact ⟨_, rfl, g, hm_x.rf, Or.inr ⟨by rw [e]; decide, A, hm_mt M (nI 2), rfl, by rw [e]; exact hm_mt0, ok, hk, rfl⟩⟩)
                      · skip
                        have f120 : cd_D (nI a) (nI b2) = 0 := cd_D_ne (by omega)
                        refine hk_iload_n dX9_hand_123 rfl rfl rfl ?_
                        refine hk_iload_n dX9_hand_124 rfl rfl rfl ?_
                        refine cx_icmp_eq (tgt := 138) (by omega) (by omega) dX9_hand_125 (by decide) rfl (fun z125 => ?_) (fun z125 => ?_)
                        · skip
                          have f125 : cd_D (nI a) (nI e3) = 2 := cd_D_eq (by omega)
                          refine hk_iconst (v := nI 2) dX9_hand_138 rfl (by decide) ?_
                          refine hk_goto (tgt := 169) dX9_hand_139 (by decide) ?_
                          refine hk_callV dX9_hand_169 rfl mv_X9_80 (cm_isWrong (k := 2) hfl (by decide) hk) rfl rfl (hm_g0 hk) rfl rfl (by decide) ⟨Nat.zero_le _, Nat.zero_le _⟩ (Nat.le_of_ble_eq_true rfl) (hk_ki fun v h1 q => ?_) hk_nx
                          obtain ⟨rfl, rfl⟩ := q
                          try rw [hm_mt_mt]
                          refine cx_ifb_eq (tgt := 177) dX9_hand_172 (by decide) rfl (fun z172 => ?_) (fun z172 => ?_)
                          · exact absurd z172 (by decide)
                          · skip
                            refine hk_iconst (v := nI 0) dX9_hand_175 rfl (by decide) ?_
                            exact hk_ireturn rfl (rfl) dX9_hand_176 (by have e : cd_hand S c (nI a) (nI b2) (nI e3) x = 2 := (by first | (simp [cd_hand, cs_sq, cd_K, f6, vaa, f14, vab2, f22, vae3, f64, b56, f79, f87, f95, f115, f120, f125]; done) | (rcases cd_O_or S a with o0 | o0 <;> rcases cd_O_or S b2 with o1 | o1 <;> rcases cd_O_or S e3 with o2 | o2 <;> rcases cd_D_or (nI b2) (nI e3) with o3 | o3 <;> simp [cd_hand, cs_sq, cd_K, f6, vaa, f14, vab2, f22, vae3, f64, b56, f79, f87, f95, f115, f120, f125, o0, o1, o2, o3])); exact ⟨_, rfl, g, hm_x.rf, Or.inr ⟨by rw [e]; decide, A, hm_mt M (nI 2), rfl, by rw [e]; exact hm_mt0, ok, hk, rfl⟩⟩)
                        · skip
                          have f125 : cd_D (nI a) (nI e3) = 0 := cd_D_ne (by omega)
                          refine hk_iload_n dX9_hand_128 rfl rfl rfl ?_
                          refine hk_iload_n dX9_hand_129 rfl rfl rfl ?_
                          refine cx_icmp_eq (tgt := 138) (by omega) (by omega) dX9_hand_130 (by decide) rfl (fun z130 => ?_) (fun z130 => ?_)
                          · skip
                            have f130 : cd_D (nI b2) (nI e3) = 2 := cd_D_eq (by omega)
                            refine hk_iconst (v := nI 2) dX9_hand_138 rfl (by decide) ?_
                            refine hk_goto (tgt := 169) dX9_hand_139 (by decide) ?_
                            refine hk_callV dX9_hand_169 rfl mv_X9_80 (cm_isWrong (k := 2) hfl (by decide) hk) rfl rfl (hm_g0 hk) rfl rfl (by decide) ⟨Nat.zero_le _, Nat.zero_le _⟩ (Nat.le_of_ble_eq_true rfl) (hk_ki fun v h1 q => ?_) hk_nx
                            obtain ⟨rfl, rfl⟩ := q
                            try rw [hm_mt_mt]
                            refine cx_ifb_eq (tgt := 177) dX9_hand_172 (by decide) rfl (fun z172 => ?_) (fun z172 => ?_)
                            · exact absurd z172 (by decide)
                            · skip
                              refine hk_iconst (v := nI 0) dX9_hand_175 rfl (by decide) ?_
                              exact hk_ireturn rfl (rfl) dX9_hand_176 (by have e : cd_hand S c (nI a) (nI b2) (nI e3) x = 2 := (by first | (simp [cd_hand, cs_sq, cd_K, f6, vaa, f14, vab2, f22, vae3, f64, b56, f79, f87, f95, f115, f120, f125, f130]; done) | (rcases cd_O_or S a with o0 | o0 <;> rcases cd_O_or S b2 with o1 | o1 <;> rcases cd_O_or S e3 with o2 | o2 <;> rcases cd_D_or (nI b2) (nI e3) with o3 | o3 <;> simp [cd_hand, cs_sq, cd_K, f6, vaa, f14, vab2, f22, vae3, f64, b56, f79, f87, f95, f115, f120, f125, f130, o0, o1, o2, o3])); exact ⟨_, rfl, g, hm_x.rf, Or.inr ⟨by rw [e]; decide, A, hm_mt M (nI 2), rfl, by rw [e]; exact hm_mt0, ok, hk, rfl⟩⟩)
                          · skip
                            have f130 : cd_D (nI b2) (nI e3) = 0 := cd_D_ne (by omega)
                            refine hk_iload dX9_hand_133 rfl rfl ?_
                            refine cx_ifn_ne (tgt := 142) (by omega) dX9_hand_135 (by decide) rfl (fun z135 => ?_) (fun z135 => ?_)
                            · exact absurd z135 (by decide)
                            · skip
                              refine hk_iconst (v := nI 2) dX9_hand_138 rfl (by decide) ?_
                              refine hk_goto (tgt := 169) dX9_hand_139 (by decide) ?_
                              refine hk_callV dX9_hand_169 rfl mv_X9_80 (cm_isWrong (k := 2) hfl (by decide) hk) rfl rfl (hm_g0 hk) rfl rfl (by decide) ⟨Nat.zero_le _, Nat.zero_le _⟩ (Nat.le_of_ble_eq_true rfl) (hk_ki fun v h1 q => ?_) hk_nx
                              obtain ⟨rfl, rfl⟩ := q
                              try rw [hm_mt_mt]
                              refine cx_ifb_eq (tgt := 177) dX9_hand_172 (by decide) rfl (fun z172 => ?_) (fun z172 => ?_)
                              · exact absurd z172 (by decide)
                              · skip
                                refine hk_iconst (v := nI 0) dX9_hand_175 rfl (by decide) ?_
                                exact hk_ireturn rfl (rfl) dX9_hand_176 (by have e : cd_hand S c (nI a) (nI b2) (nI e3) x = 2 := (by first | (simp [cd_hand, cs_sq, cd_K, f6, vaa, f14, vab2, f22, vae3, f64, b56, f79, f87, f95, f115, f120, f125, f130]; done) | (rcases cd_O_or S a with o0 | o0 <;> rcases cd_O_or S b2 with o1 | o1 <;> rcases cd_O_or S e3 with o2 | o2 <;> rcases cd_D_or (nI b2) (nI e3) with o3 | o3 <;> simp [cd_hand, cs_sq, cd_K, f6, vaa, f14, vab2, f22, vae3, f64, b56, f79, f87, f95, f115, f120, f125, f130, o0, o1, o2, o3])); exact ⟨_, rfl, g, hm_x.rf, Or.inr ⟨by rw [e]; decide, A, hm_mt M (nI 2), rfl, by rw [e]; exact hm_mt0, ok, hk, rfl⟩⟩)
                  · exact absurd ((f64).symm.trans (cd_O_3 (of_decide_eq_true z95))) (by decide)
            · have f64 : cd_O S e3 = 3 := cd_O_3 (of_decide_eq_true z64)
              have b56 : cd_B S e3 = 0 := cd_B_1 ok (by omega) (Or.inr f64)
              refine hk_iconst (v := nI 1) dX9_hand_67 rfl (by decide) ?_
              refine hk_goto (tgt := 72) dX9_hand_68 (by decide) ?_
              refine hk_istore dX9_hand_72 rfl (by decide) rfl ?_
              refine hk_aload_n dX9_hand_74 rfl rfl rfl ?_
              refine hk_iload_n dX9_hand_75 rfl rfl rfl ?_
              refine hk_callV dX9_hand_76 rfl mv_X9_91 (cm_hasFailed hfl hk ok (by omega)) rfl rfl (hm_g0 hk) rfl rfl (by decide) ⟨Nat.zero_le _, Nat.zero_le _⟩ (Nat.le_of_ble_eq_true rfl) (hk_ki fun v h1 q => ?_) hk_nx
              obtain ⟨rfl, rfl⟩ := q
              refine cx_ifb_ne (tgt := 98) dX9_hand_79 (by decide) rfl (fun z79 => ?_) (fun z79 => ?_)
              · have f79 : cd_O S a = 3 := cd_O_3 (of_decide_eq_true z79)
                refine hk_iconst (v := nI 1) dX9_hand_98 rfl (by decide) ?_
                refine hk_goto (tgt := 103) dX9_hand_99 (by decide) ?_
                refine hk_istore dX9_hand_103 rfl (by decide) rfl ?_
                refine hk_aload_n dX9_hand_105 rfl rfl rfl ?_
                refine hk_iload dX9_hand_106 rfl rfl ?_
                refine hk_iconst (v := nI 1) dX9_hand_108 rfl (by decide) ?_
                refine hk_sipush (v := nI 9999) dX9_hand_109 rfl (by decide) ?_
                refine hk_callS dX9_hand_112 rfl ms_X9_60 (cm_isBetween hfl) rfl rfl (by decide) ⟨Nat.zero_le _, Nat.zero_le _⟩ (Nat.le_of_ble_eq_true rfl) (hk_ki fun v h1 q => ?_) hk_nx
                obtain ⟨rfl, rfl⟩ := q
                refine cx_top (congrArg cx_b (cs_bwR _ _)) ?_
                refine cx_ifb_eq (tgt := 138) dX9_hand_115 (by decide) rfl (fun z115 => ?_) (fun z115 => ?_)
                · have f115 : cd_R x 9999 = 2 := cd_R_2 (of_decide_eq_false z115)
                  refine hk_iconst (v := nI 2) dX9_hand_138 rfl (by decide) ?_
                  refine hk_goto (tgt := 169) dX9_hand_139 (by decide) ?_
                  refine hk_callV dX9_hand_169 rfl mv_X9_80 (cm_isWrong (k := 2) hfl (by decide) hk) rfl rfl (hm_g0 hk) rfl rfl (by decide) ⟨Nat.zero_le _, Nat.zero_le _⟩ (Nat.le_of_ble_eq_true rfl) (hk_ki fun v h1 q => ?_) hk_nx
                  obtain ⟨rfl, rfl⟩ := q
                  try rw [hm_mt_mt]
                  refine cx_ifb_eq (tgt := 177) dX9_hand_172 (by decide) rfl (fun z172 => ?_) (fun z172 => ?_)
                  · exact absurd z172 (by decide)
                  · skip
                    refine hk_iconst (v := nI 0) dX9_hand_175 rfl (by decide) ?_
                    exact hk_ireturn rfl (rfl) dX9_hand_176 (by have e : cd_hand S c (nI a) (nI b2) (nI e3) x = 2 := (by first | (simp [cd_hand, cs_sq, cd_K, f6, vaa, f14, vab2, f22, vae3, f64, b56, f79, f115]; done) | (rcases cd_O_or S a with o0 | o0 <;> rcases cd_O_or S b2 with o1 | o1 <;> rcases cd_O_or S e3 with o2 | o2 <;> rcases cd_D_or (nI b2) (nI e3) with o3 | o3 <;> simp [cd_hand, cs_sq, cd_K, f6, vaa, f14, vab2, f22, vae3, f64, b56, f79, f115, o0, o1, o2, o3])); exact ⟨_, rfl, g, hm_x.rf, Or.inr ⟨by rw [e]; decide, A, hm_mt M (nI 2), rfl, by rw [e]; exact hm_mt0, ok, hk, rfl⟩⟩)
                · have f115 : cd_R x 9999 = 0 := of_decide_eq_true z115
                  refine hk_iload_n dX9_hand_118 rfl rfl rfl ?_
                  refine hk_iload_n dX9_hand_119 rfl rfl rfl ?_
                  refine cx_icmp_eq (tgt := 138) (by omega) (by omega) dX9_hand_120 (by decide) rfl (fun z120 => ?_) (fun z120 => ?_)
                  · skip
                    have f120 : cd_D (nI a) (nI b2) = 2 := cd_D_eq (by omega)
                    refine hk_iconst (v := nI 2) dX9_hand_138 rfl (by decide) ?_
                    refine hk_goto (tgt := 169) dX9_hand_139 (by decide) ?_
                    refine hk_callV dX9_hand_169 rfl mv_X9_80 (cm_isWrong (k := 2) hfl (by decide) hk) rfl rfl (hm_g0 hk) rfl rfl (by decide) ⟨Nat.zero_le _, Nat.zero_le _⟩ (Nat.le_of_ble_eq_true rfl) (hk_ki fun v h1 q => ?_) hk_nx
                    obtain ⟨rfl, rfl⟩ := q
                    try rw [hm_mt_mt]
                    refine cx_ifb_eq (tgt := 177) dX9_hand_172 (by decide) rfl (fun z172 => ?_) (fun z172 => ?_)
                    · exact absurd z172 (by decide)
                    · skip
                      refine hk_iconst (v := nI 0) dX9_hand_175 rfl (by decide) ?_
                      exact hk_ireturn rfl (rfl) dX9_hand_176 (by have e : cd_hand S c (nI a) (nI b2) (nI e3) x = 2 := (by first | (simp [cd_hand, cs_sq, cd_K, f6, vaa, f14, vab2, f22, vae3, f64, b56, f79, f115, f120]; done) | (rcases cd_O_or S a with o0 | o0 <;> rcases cd_O_or S b2 with o1 | o1 <;> rcases cd_O_or S e3 with o2 | o2 <;> rcases cd_D_or (nI b2) (nI e3) with o3 | o3 <;> simp [cd_hand, cs_sq, cd_K, f6, vaa, f14, vab2, f22, vae3, f64, b56, f79, f115, f120, o0, o1, o2, o3])); exact ⟨_, rfl, g, hm_x.rf, Or.inr ⟨by rw [e]; decide, A, hm_mt M (nI 2), rfl, by rw [e]; exact hm_mt0, ok, hk, rfl⟩⟩)
                  · skip
                    have f120 : cd_D (nI a) (nI b2) = 0 := cd_D_ne (by omega)
                    refine hk_iload_n dX9_hand_123 rfl rfl rfl ?_
                    refine hk_iload_n dX9_hand_124 rfl rfl rfl ?_
                    refine cx_icmp_eq (tgt := 138) (by omega) (by omega) dX9_hand_125 (by decide) rfl (fun z125 => ?_) (fun z125 => ?_)
                    · skip
                      have f125 : cd_D (nI a) (nI e3) = 2 := cd_D_eq (by omega)
                      refine hk_iconst (v := nI 2) dX9_hand_138 rfl (by decide) ?_
                      refine hk_goto (tgt := 169) dX9_hand_139 (by decide) ?_
                      refine hk_callV dX9_hand_169 rfl mv_X9_80 (cm_isWrong (k := 2) hfl (by decide) hk) rfl rfl (hm_g0 hk) rfl rfl (by decide) ⟨Nat.zero_le _, Nat.zero_le _⟩ (Nat.le_of_ble_eq_true rfl) (hk_ki fun v h1 q => ?_) hk_nx
                      obtain ⟨rfl, rfl⟩ := q
                      try rw [hm_mt_mt]
                      refine cx_ifb_eq (tgt := 177) dX9_hand_172 (by decide) rfl (fun z172 => ?_) (fun z172 => ?_)
                      · exact absurd z172 (by decide)
                      · skip
                        refine hk_iconst (v := nI 0) dX9_hand_175 rfl (by decide) ?_
                        exact hk_ireturn rfl (rfl) dX9_hand_176 (by have e : cd_hand S c (nI a) (nI b2) (nI e3) x = 2 := (by first | (simp [cd_hand, cs_sq, cd_K, f6, vaa, f14, vab2, f22, vae3, f64, b56, f79, f115, f120, f125]; done) | (rcases cd_O_or S a with o0 | o0 <;> rcases cd_O_or S b2 with o1 | o1 <;> rcases cd_O_or S e3 with o2 | o2 <;> rcases cd_D_or (nI b2) (nI e3) with o3 | o3 <;> simp [cd_hand, cs_sq, cd_K, f6, vaa, f14, vab2, f22, vae3, f64, b56, f79, f115, f120, f125, o0, o1, o2, o3])); exact ⟨_, rfl, g, hm_x.rf, Or.inr ⟨by rw [e]; decide, A, hm_mt M (nI 2), rfl, by rw [e]; exact hm_mt0, ok, hk, rfl⟩⟩)
                    · skip
                      have f125 : cd_D (nI a) (nI e3) = 0 := cd_D_ne (by omega)
                      refine hk_iload_n dX9_hand_128 rfl rfl rfl ?_
                      refine hk_iload_n dX9_hand_129 rfl rfl rfl ?_
                      refine cx_icmp_eq (tgt := 138) (by omega) (by omega) dX9_hand_130 (by decide) rfl (fun z130 => ?_) (fun z130 => ?_)
                      · skip
                        have f130 : cd_D (nI b2) (nI e3) = 2 := cd_D_eq (by omega)
                        refine hk_iconst (v := nI 2) dX9_hand_138 rfl (by decide) ?_
                        refine hk_goto (tgt := 169) dX9_hand_139 (by decide) ?_
                        refine hk_callV dX9_hand_169 rfl mv_X9_80 (cm_isWrong (k := 2) hfl (by decide) hk) rfl rfl (hm_g0 hk) rfl rfl (by decide) ⟨Nat.zero_le _, Nat.zero_le _⟩ (Nat.le_of_ble_eq_true rfl) (hk_ki fun v h1 q => ?_) hk_nx
                        obtain ⟨rfl, rfl⟩ := q
                        try rw [hm_mt_mt]
                        refine cx_ifb_eq (tgt := 177) dX9_hand_172 (by decide) rfl (fun z172 => ?_) (fun z172 => ?_)
                        · exact absurd z172 (by decide)
                        · skip
                          refine hk_iconst (v := nI 0) dX9_hand_175 rfl (by decide) ?_
                          exact hk_ireturn rfl (rfl) dX9_hand_176 (by have e : cd_hand S c (nI a) (nI b2) (nI e3) x = 2 := (by first | (simp [cd_hand, cs_sq, cd_K, f6, vaa, f14, vab2, f22, vae3, f64, b56, f79, f115, f120, f125, f130]; done) | (rcases cd_O_or S a with o0 | o0 <;> rcases cd_O_or S b2 with o1 | o1 <;> rcases cd_O_or S e3 with o2 | o2 <;> rcases cd_D_or (nI b2) (nI e3) with o3 | o3 <;> simp [cd_hand, cs_sq, cd_K, f6, vaa, f14, vab2, f22, vae3, f64, b56, f79, f115, f120, f125, f130, o0, o1, o2, o3])); exact ⟨_, rfl, g, hm_x.rf, Or.inr ⟨by rw [e]; decide, A, hm_mt M (nI 2), rfl, by rw [e]; exact hm_mt0, ok, hk, rfl⟩⟩)
                      · skip
                        have f130 : cd_D (nI b2) (nI e3) = 0 := cd_D_ne (by omega)
                        refine hk_iload dX9_hand_133 rfl rfl ?_
                        refine cx_ifn_ne (tgt := 142) (by omega) dX9_hand_135 (by decide) rfl (fun z135 => ?_) (fun z135 => ?_)
                        · skip
                          refine hk_iload dX9_hand_142 rfl rfl ?_
                          refine cx_ifn_eq (tgt := 151) (by omega) dX9_hand_144 (by decide) rfl (fun z144 => ?_) (fun z144 => ?_)
                          · exact absurd z144 (by decide)
                          · skip
                            refine hk_iconst (v := nI 3) dX9_hand_147 rfl (by decide) ?_
                            refine hk_goto (tgt := 169) dX9_hand_148 (by decide) ?_
                            refine hk_callV dX9_hand_169 rfl mv_X9_80 (cm_isWrong (k := 3) hfl (by decide) hk) rfl rfl (hm_g0 hk) rfl rfl (by decide) ⟨Nat.zero_le _, Nat.zero_le _⟩ (Nat.le_of_ble_eq_true rfl) (hk_ki fun v h1 q => ?_) hk_nx
                            obtain ⟨rfl, rfl⟩ := q
                            try rw [hm_mt_mt]
                            refine cx_ifb_eq (tgt := 177) dX9_hand_172 (by decide) rfl (fun z172 => ?_) (fun z172 => ?_)
                            · exact absurd z172 (by decide)
                            · skip
                              refine hk_iconst (v := nI 0) dX9_hand_175 rfl (by decide) ?_
                              exact hk_ireturn rfl (rfl) dX9_hand_176 (by have e : cd_hand S c (nI a) (nI b2) (nI e3) x = 3 := (by first | (simp [cd_hand, cs_sq, cd_K, f6, vaa, f14, vab2, f22, vae3, f64, b56, f79, f115, f120, f125, f130]; done) | (rcases cd_O_or S a with o0 | o0 <;> rcases cd_O_or S b2 with o1 | o1 <;> rcases cd_O_or S e3 with o2 | o2 <;> rcases cd_D_or (nI b2) (nI e3) with o3 | o3 <;> simp [cd_hand, cs_sq, cd_K, f6, vaa, f14, vab2, f22, vae3, f64, b56, f79, f115, f120, f125, f130, o0, o1, o2, o3])); exact ⟨_, rfl, g, hm_x.rf, Or.inr ⟨by rw [e]; decide, A, hm_mt M (nI 3), rfl, by rw [e]; exact hm_mt0, ok, hk, rfl⟩⟩)
                        · exact absurd z135 (by decide)
              · have f79 : cd_O S a = 0 := Decidable.of_not_not (of_decide_eq_false z79)
                refine hk_aload_n dX9_hand_82 rfl rfl rfl ?_
                refine hk_iload_n dX9_hand_83 rfl rfl rfl ?_
                refine hk_callV dX9_hand_84 rfl mv_X9_91 (cm_hasFailed hfl hk ok (by omega)) rfl rfl (hm_g0 hk) rfl rfl (by decide) ⟨Nat.zero_le _, Nat.zero_le _⟩ (Nat.le_of_ble_eq_true rfl) (hk_ki fun v h1 q => ?_) hk_nx
                obtain ⟨rfl, rfl⟩ := q
                refine cx_ifb_ne (tgt := 98) dX9_hand_87 (by decide) rfl (fun z87 => ?_) (fun z87 => ?_)
                · have f87 : cd_O S b2 = 3 := cd_O_3 (of_decide_eq_true z87)
                  refine hk_iconst (v := nI 1) dX9_hand_98 rfl (by decide) ?_
                  refine hk_goto (tgt := 103) dX9_hand_99 (by decide) ?_
                  refine hk_istore dX9_hand_103 rfl (by decide) rfl ?_
                  refine hk_aload_n dX9_hand_105 rfl rfl rfl ?_
                  refine hk_iload dX9_hand_106 rfl rfl ?_
                  refine hk_iconst (v := nI 1) dX9_hand_108 rfl (by decide) ?_
                  refine hk_sipush (v := nI 9999) dX9_hand_109 rfl (by decide) ?_
                  refine hk_callS dX9_hand_112 rfl ms_X9_60 (cm_isBetween hfl) rfl rfl (by decide) ⟨Nat.zero_le _, Nat.zero_le _⟩ (Nat.le_of_ble_eq_true rfl) (hk_ki fun v h1 q => ?_) hk_nx
                  obtain ⟨rfl, rfl⟩ := q
                  refine cx_top (congrArg cx_b (cs_bwR _ _)) ?_
                  refine cx_ifb_eq (tgt := 138) dX9_hand_115 (by decide) rfl (fun z115 => ?_) (fun z115 => ?_)
                  · have f115 : cd_R x 9999 = 2 := cd_R_2 (of_decide_eq_false z115)
                    refine hk_iconst (v := nI 2) dX9_hand_138 rfl (by decide) ?_
                    refine hk_goto (tgt := 169) dX9_hand_139 (by decide) ?_
                    refine hk_callV dX9_hand_169 rfl mv_X9_80 (cm_isWrong (k := 2) hfl (by decide) hk) rfl rfl (hm_g0 hk) rfl rfl (by decide) ⟨Nat.zero_le _, Nat.zero_le _⟩ (Nat.le_of_ble_eq_true rfl) (hk_ki fun v h1 q => ?_) hk_nx
                    obtain ⟨rfl, rfl⟩ := q
                    try rw [hm_mt_mt]
                    refine cx_ifb_eq (tgt := 177) dX9_hand_172 (by decide) rfl (fun z172 => ?_) (fun z172 => ?_)
                    · exact absurd z172 (by decide)
                    · skip
                      refine hk_iconst (v := nI 0) dX9_hand_175 rfl (by decide) ?_
                      exact hk_ireturn rfl (rfl) dX9_hand_176 (by have e : cd_hand S c (nI a) (nI b2) (nI e3) x = 2 := (by first | (simp [cd_hand, cs_sq, cd_K, f6, vaa, f14, vab2, f22, vae3, f64, b56, f79, f87, f115]; done) | (rcases cd_O_or S a with o0 | o0 <;> rcases cd_O_or S b2 with o1 | o1 <;> rcases cd_O_or S e3 with o2 | o2 <;> rcases cd_D_or (nI b2) (nI e3) with o3 | o3 <;> simp [cd_hand, cs_sq, cd_K, f6, vaa, f14, vab2, f22, vae3, f64, b56, f79, f87, f115, o0, o1, o2, o3])); exact ⟨_, rfl, g, hm_x.rf, Or.inr ⟨by rw [e]; decide, A, hm_mt M (nI 2), rfl, by rw [e]; exact hm_mt0, ok, hk, rfl⟩⟩)
                  · have f115 : cd_R x 9999 = 0 := of_decide_eq_true z115
                    refine hk_iload_n dX9_hand_118 rfl rfl rfl ?_
                    refine hk_iload_n dX9_hand_119 rfl rfl rfl ?_
                    refine cx_icmp_eq (tgt := 138) (by omega) (by omega) dX9_hand_120 (by decide) rfl (fun z120 => ?_) (fun z120 => ?_)
                    · skip
                      have f120 : cd_D (nI a) (nI b2) = 2 := cd_D_eq (by omega)
                      refine hk_iconst (v := nI 2) dX9_hand_138 rfl (by decide) ?_
                      refine hk_goto (tgt := 169) dX9_hand_139 (by decide) ?_
                      refine hk_callV dX9_hand_169 rfl mv_X9_80 (cm_isWrong (k := 2) hfl (by decide) hk) rfl rfl (hm_g0 hk) rfl rfl (by decide) ⟨Nat.zero_le _, Nat.zero_le _⟩ (Nat.le_of_ble_eq_true rfl) (hk_ki fun v h1 q => ?_) hk_nx
                      obtain ⟨rfl, rfl⟩ := q
                      try rw [hm_mt_mt]
                      refine cx_ifb_eq (tgt := 177) dX9_hand_172 (by decide) rfl (fun z172 => ?_) (fun z172 => ?_)
                      · exact absurd z172 (by decide)
                      · skip
                        refine hk_iconst (v := nI 0) dX9_hand_175 rfl (by decide) ?_
                        exact hk_ireturn rfl (rfl) dX9_hand_176 (by have e : cd_hand S c (nI a) (nI b2) (nI e3) x = 2 := (by first | (simp [cd_hand, cs_sq, cd_K, f6, vaa, f14, vab2, f22, vae3, f64, b56, f79, f87, f115, f120]; done) | (rcases cd_O_or S a with o0 | o0 <;> rcases cd_O_or S b2 with o1 | o1 <;> rcases cd_O_or S e3 with o2 | o2 <;> rcases cd_D_or (nI b2) (nI e3) with o3 | o3 <;> simp [cd_hand, cs_sq, cd_K, f6, vaa, f14, vab2, f22, vae3, f64, b56, f79, f87, f115, f120, o0, o1, o2, o3])); exact ⟨_, rfl, g, hm_x.rf, Or.inr ⟨by rw [e]; decide, A, hm_mt M (nI 2), rfl, by rw [e]; exact hm_mt0, ok, hk, rfl⟩⟩)
                    · skip
                      have f120 : cd_D (nI a) (nI b2) = 0 := cd_D_ne (by omega)
                      refine hk_iload_n dX9_hand_123 rfl rfl rfl ?_
                      refine hk_iload_n dX9_hand_124 rfl rfl rfl ?_
                      refine cx_icmp_eq (tgt := 138) (by omega) (by omega) dX9_hand_125 (by decide) rfl (fun z125 => ?_) (fun z125 => ?_)
                      · skip
                        have f125 : cd_D (nI a) (nI e3) = 2 := cd_D_eq (by omega)
                        refine hk_iconst (v := nI 2) dX9_hand_138 rfl (by decide) ?_
                        refine hk_goto (tgt := 169) dX9_hand_139 (by decide) ?_
                        refine hk_callV dX9_hand_169 rfl mv_X9_80 (cm_isWrong (k := 2) hfl (by decide) hk) rfl rfl (hm_g0 hk) rfl rfl (by decide) ⟨Nat.zero_le _, Nat.zero_le _⟩ (Nat.le_of_ble_eq_true rfl) (hk_ki fun v h1 q => ?_) hk_nx
                        obtain ⟨rfl, rfl⟩ := q
                        try rw [hm_mt_mt]
                        refine cx_ifb_eq (tgt := 177) dX9_hand_172 (by decide) rfl (fun z172 => ?_) (fun z172 => ?_)
                        · exact absurd z172 (by decide)
                        · skip
                          refine hk_iconst (v := nI 0) dX9_hand_175 rfl (by decide) ?_
                          exact hk_ireturn rfl (rfl) dX9_hand_176 (by have e : cd_hand S c (nI a) (nI b2) (nI e3) x = 2 := (by first | (simp [cd_hand, cs_sq, cd_K, f6, vaa, f14, vab2, f22, vae3, f64, b56, f79, f87, f115, f120, f125]; done) | (rcases cd_O_or S a with o0 | o0 <;> rcases cd_O_or S b2 with o1 | o1 <;> rcases cd_O_or S e3 with o2 | o2 <;> rcases cd_D_or (nI b2) (nI e3) with o3 | o3 <;> simp [cd_hand, cs_sq, cd_K, f6, vaa, f14, vab2, f22, vae3, f64, b56, f79, f87, f115, f120, f125, o0, o1, o2, o3])); exact ⟨_, rfl, g, hm_x.rf, Or.inr ⟨by rw [e]; decide, A, hm_mt M (nI 2), rfl, by rw [e]; exact hm_mt0, ok, hk, rfl⟩⟩)
                      · skip
                        have f125 : cd_D (nI a) (nI e3) = 0 := cd_D_ne (by omega)
                        refine hk_iload_n dX9_hand_128 rfl rfl rfl ?_
                        refine hk_iload_n dX9_hand_129 rfl rfl rfl ?_
                        refine cx_icmp_eq (tgt := 138) (by omega) (by omega) dX9_hand_130 (by decide) rfl (fun z130 => ?_) (fun z130 => ?_)
                        · skip
                          have f130 : cd_D (nI b2) (nI e3) = 2 := cd_D_eq (by omega)
                          refine hk_iconst (v := nI 2) dX9_hand_138 rfl (by decide) ?_
                          refine hk_goto (tgt := 169) dX9_hand_139 (by decide) ?_
                          refine hk_callV dX9_hand_169 rfl mv_X9_80 (cm_isWrong (k := 2) hfl (by decide) hk) rfl rfl (hm_g0 hk) rfl rfl (by decide) ⟨Nat.zero_le _, Nat.zero_le _⟩ (Nat.le_of_ble_eq_true rfl) (hk_ki fun v h1 q => ?_) hk_nx
                          obtain ⟨rfl, rfl⟩ := q
                          try rw [hm_mt_mt]
                          refine cx_ifb_eq (tgt := 177) dX9_hand_172 (by decide) rfl (fun z172 => ?_) (fun z172 => ?_)
                          · exact absurd z172 (by decide)
                          · skip
                            refine hk_iconst (v := nI 0) dX9_hand_175 rfl (by decide) ?_
                            exact hk_ireturn rfl (rfl) dX9_hand_176 (by have e : cd_hand S c (nI a) (nI b2) (nI e3) x = 2 := (by first | (simp [cd_hand, cs_sq, cd_K, f6, vaa, f14, vab2, f22, vae3, f64, b56, f79, f87, f115, f120, f125, f130]; done) | (rcases cd_O_or S a with o0 | o0 <;> rcases cd_O_or S b2 with o1 | o1 <;> rcases cd_O_or S e3 with o2 | o2 <;> rcases cd_D_or (nI b2) (nI e3) with o3 | o3 <;> simp [cd_hand, cs_sq, cd_K, f6, vaa, f14, vab2, f22, vae3, f64, b56, f79, f87, f115, f120, f125, f130, o0, o1, o2, o3])); exact ⟨_, rfl, g, hm_x.rf, Or.inr ⟨by rw [e]; decide, A, hm_mt M (nI 2), rfl, by rw [e]; exact hm_mt0, ok, hk, rfl⟩⟩)
                        · skip
                          have f130 : cd_D (nI b2) (nI e3) = 0 := cd_D_ne (by omega)
                          refine hk_iload dX9_hand_133 rfl rfl ?_
                          refine cx_ifn_ne (tgt := 142) (by omega) dX9_hand_135 (by decide) rfl (fun z135 => ?_) (fun z135 => ?_)
                          · skip
                            refine hk_iload dX9_hand_142 rfl rfl ?_
                            refine cx_ifn_eq (tgt := 151) (by omega) dX9_hand_144 (by decide) rfl (fun z144 => ?_) (fun z144 => ?_)
                            · exact absurd z144 (by decide)
                            · skip
                              refine hk_iconst (v := nI 3) dX9_hand_147 rfl (by decide) ?_
                              refine hk_goto (tgt := 169) dX9_hand_148 (by decide) ?_
                              refine hk_callV dX9_hand_169 rfl mv_X9_80 (cm_isWrong (k := 3) hfl (by decide) hk) rfl rfl (hm_g0 hk) rfl rfl (by decide) ⟨Nat.zero_le _, Nat.zero_le _⟩ (Nat.le_of_ble_eq_true rfl) (hk_ki fun v h1 q => ?_) hk_nx
                              obtain ⟨rfl, rfl⟩ := q
                              try rw [hm_mt_mt]
                              refine cx_ifb_eq (tgt := 177) dX9_hand_172 (by decide) rfl (fun z172 => ?_) (fun z172 => ?_)
                              · exact absurd z172 (by decide)
                              · skip
                                refine hk_iconst (v := nI 0) dX9_hand_175 rfl (by decide) ?_
                                exact hk_ireturn rfl (rfl) dX9_hand_176 (by have e : cd_hand S c (nI a) (nI b2) (nI e3) x = 3 := (by first | (simp [cd_hand, cs_sq, cd_K, f6, vaa, f14, vab2, f22, vae3, f64, b56, f79, f87, f115, f120, f125, f130]; done) | (rcases cd_O_or S a with o0 | o0 <;> rcases cd_O_or S b2 with o1 | o1 <;> rcases cd_O_or S e3 with o2 | o2 <;> rcases cd_D_or (nI b2) (nI e3) with o3 | o3 <;> simp [cd_hand, cs_sq, cd_K, f6, vaa, f14, vab2, f22, vae3, f64, b56, f79, f87, f115, f120, f125, f130, o0, o1, o2, o3])); exact ⟨_, rfl, g, hm_x.rf, Or.inr ⟨by rw [e]; decide, A, hm_mt M (nI 3), rfl, by rw [e]; exact hm_mt0, ok, hk, rfl⟩⟩)
                          · exact absurd z135 (by decide)
                · have f87 : cd_O S b2 = 0 := Decidable.of_not_not (of_decide_eq_false z87)
                  refine hk_aload_n dX9_hand_90 rfl rfl rfl ?_
                  refine hk_iload_n dX9_hand_91 rfl rfl rfl ?_
                  refine hk_callV dX9_hand_92 rfl mv_X9_91 (cm_hasFailed hfl hk ok (by omega)) rfl rfl (hm_g0 hk) rfl rfl (by decide) ⟨Nat.zero_le _, Nat.zero_le _⟩ (Nat.le_of_ble_eq_true rfl) (hk_ki fun v h1 q => ?_) hk_nx
                  obtain ⟨rfl, rfl⟩ := q
                  refine cx_ifb_eq (tgt := 102) dX9_hand_95 (by decide) rfl (fun z95 => ?_) (fun z95 => ?_)
                  · exact absurd ((f64).symm.trans (Decidable.of_not_not (of_decide_eq_false z95))) (by decide)
                  · have f95 : cd_O S e3 = 3 := cd_O_3 (of_decide_eq_true z95)
                    refine hk_iconst (v := nI 1) dX9_hand_98 rfl (by decide) ?_
                    refine hk_goto (tgt := 103) dX9_hand_99 (by decide) ?_
                    refine hk_istore dX9_hand_103 rfl (by decide) rfl ?_
                    refine hk_aload_n dX9_hand_105 rfl rfl rfl ?_
                    refine hk_iload dX9_hand_106 rfl rfl ?_
                    refine hk_iconst (v := nI 1) dX9_hand_108 rfl (by decide) ?_
                    refine hk_sipush (v := nI 9999) dX9_hand_109 rfl (by decide) ?_
                    refine hk_callS dX9_hand_112 rfl ms_X9_60 (cm_isBetween hfl) rfl rfl (by decide) ⟨Nat.zero_le _, Nat.zero_le _⟩ (Nat.le_of_ble_eq_true rfl) (hk_ki fun v h1 q => ?_) hk_nx
                    obtain ⟨rfl, rfl⟩ := q
                    refine cx_top (congrArg cx_b (cs_bwR _ _)) ?_
                    refine cx_ifb_eq (tgt := 138) dX9_hand_115 (by decide) rfl (fun z115 => ?_) (fun z115 => ?_)
                    · have f115 : cd_R x 9999 = 2 := cd_R_2 (of_decide_eq_false z115)
                      refine hk_iconst (v := nI 2) dX9_hand_138 rfl (by decide) ?_
                      refine hk_goto (tgt := 169) dX9_hand_139 (by decide) ?_
                      refine hk_callV dX9_hand_169 rfl mv_X9_80 (cm_isWrong (k := 2) hfl (by decide) hk) rfl rfl (hm_g0 hk) rfl rfl (by decide) ⟨Nat.zero_le _, Nat.zero_le _⟩ (Nat.le_of_ble_eq_true rfl) (hk_ki fun v h1 q => ?_) hk_nx
                      obtain ⟨rfl, rfl⟩ := q
                      try rw [hm_mt_mt]
                      refine cx_ifb_eq (tgt := 177) dX9_hand_172 (by decide) rfl (fun z172 => ?_) (fun z172 => ?_)
                      · exact absurd z172 (by decide)
                      · skip
                        refine hk_iconst (v := nI 0) dX9_hand_175 rfl (by decide) ?_
                        exact hk_ireturn rfl (rfl) dX9_hand_176 (by have e : cd_hand S c (nI a) (nI b2) (nI e3) x = 2 := (by first | (simp [cd_hand, cs_sq, cd_K, f6, vaa, f14, vab2, f22, vae3, f64, b56, f79, f87, f95, f115]; done) | (rcases cd_O_or S a with o0 | o0 <;> rcases cd_O_or S b2 with o1 | o1 <;> rcases cd_O_or S e3 with o2 | o2 <;> rcases cd_D_or (nI b2) (nI e3) with o3 | o3 <;> simp [cd_hand, cs_sq, cd_K, f6, vaa, f14, vab2, f22, vae3, f64, b56, f79, f87, f95, f115, o0, o1, o2, o3])); exact ⟨_, rfl, g, hm_x.rf, Or.inr ⟨by rw [e]; decide, A, hm_mt M (nI 2), rfl, by rw [e]; exact hm_mt0, ok, hk, rfl⟩⟩)
                    · have f115 : cd_R x 9999 = 0 := of_decide_eq_true z115
                      refine hk_iload_n dX9_hand_118 rfl rfl rfl ?_
                      refine hk_iload_n dX9_hand_119 rfl rfl rfl ?_
                      refine cx_icmp_eq (tgt := 138) (by omega) (by omega) dX9_hand_120 (by decide) rfl (fun z120 => ?_) (fun z120 => ?_)
                      · skip
                        have f120 : cd_D (nI a) (nI b2) = 2 := cd_D_eq (by omega)
                        refine hk_iconst (v := nI 2) dX9_hand_138 rfl (by decide) ?_
                        refine hk_goto (tgt := 169) dX9_hand_139 (by decide) ?_
                        refine hk_callV dX9_hand_169 rfl mv_X9_80 (cm_isWrong (k := 2) hfl (by decide) hk) rfl rfl (hm_g0 hk) rfl rfl (by decide) ⟨Nat.zero_le _, Nat.zero_le _⟩ (Nat.le_of_ble_eq_true rfl) (hk_ki fun v h1 q => ?_) hk_nx
                        obtain ⟨rfl, rfl⟩ := q
                        try rw [hm_mt_mt]
                        refine cx_ifb_eq (tgt := 177) dX9_hand_172 (by decide) rfl (fun z172 => ?_) (fun z172 => ?_)
                        · exact absurd z172 (by decide)
                        · skip
                          refine hk_iconst (v := nI 0) dX9_hand_175 rfl (by decide) ?_
                          exact hk_ireturn rfl (rfl) dX9_hand_176 (by have e : cd_hand S c (nI a) (nI b2) (nI e3) x = 2 := (by first | (simp [cd_hand, cs_sq, cd_K, f6, vaa, f14, vab2, f22, vae3, f64, b56, f79, f87, f95, f115, f120]; done) | (rcases cd_O_or S a with o0 | o0 <;> rcases cd_O_or S b2 with o1 | o1 <;> rcases cd_O_or S e3 with o2 | o2 <;> rcases cd_D_or (nI b2) (nI e3) with o3 | o3 <;> simp [cd_hand, cs_sq, cd_K, f6, vaa, f14, vab2, f22, vae3, f64, b56, f79, f87, f95, f115, f120, o0, o1, o2, o3])); exact ⟨_, rfl, g, hm_x.rf, Or.inr ⟨by rw [e]; decide, A, hm_mt M (nI 2), rfl, by rw [e]; exact hm_mt0, ok, hk, rfl⟩⟩)
                      · skip
                        have f120 : cd_D (nI a) (nI b2) = 0 := cd_D_ne (by omega)
                        refine hk_iload_n dX9_hand_123 rfl rfl rfl ?_
                        refine hk_iload_n dX9_hand_124 rfl rfl rfl ?_
                        refine cx_icmp_eq (tgt := 138) (by omega) (by omega) dX9_hand_125 (by decide) rfl (fun z125 => ?_) (fun z125 => ?_)
                        · skip
                          have f125 : cd_D (nI a) (nI e3) = 2 := cd_D_eq (by omega)
                          refine hk_iconst (v := nI 2) dX9_hand_138 rfl (by decide) ?_
                          refine hk_goto (tgt := 169) dX9_hand_139 (by decide) ?_
                          refine hk_callV dX9_hand_169 rfl mv_X9_80 (cm_isWrong (k := 2) hfl (by decide) hk) rfl rfl (hm_g0 hk) rfl rfl (by decide) ⟨Nat.zero_le _, Nat.zero_le _⟩ (Nat.le_of_ble_eq_true rfl) (hk_ki fun v h1 q => ?_) hk_nx
                          obtain ⟨rfl, rfl⟩ := q
                          try rw [hm_mt_mt]
                          refine cx_ifb_eq (tgt := 177) dX9_hand_172 (by decide) rfl (fun z172 => ?_) (fun z172 => ?_)
                          · exact absurd z172 (by decide)
                          · skip
                            refine hk_iconst (v := nI 0) dX9_hand_175 rfl (by decide) ?_
                            exact hk_ireturn rfl (rfl) dX9_hand_176 (by have e : cd_hand S c (nI a) (nI b2) (nI e3) x = 2 := (by first | (simp [cd_hand, cs_sq, cd_K, f6, vaa, f14, vab2, f22, vae3, f64, b56, f79, f87, f95, f115, f120, f125]; done) | (rcases cd_O_or S a with o0 | o0 <;> rcases cd_O_or S b2 with o1 | o1 <;> rcases cd_O_or S e3 with o2 | o2 <;> rcases cd_D_or (nI b2) (nI e3) with o3 | o3 <;> simp [cd_hand, cs_sq, cd_K, f6, vaa, f14, vab2, f22, vae3, f64, b56, f79, f87, f95, f115, f120, f125, o0, o1, o2, o3])); exact ⟨_, rfl, g, hm_x.rf, Or.inr ⟨by rw [e]; decide, A, hm_mt M (nI 2), rfl, by rw [e]; exact hm_mt0, ok, hk, rfl⟩⟩)
                        · skip
                          have f125 : cd_D (nI a) (nI e3) = 0 := cd_D_ne (by omega)
                          refine hk_iload_n dX9_hand_128 rfl rfl rfl ?_
                          refine hk_iload_n dX9_hand_129 rfl rfl rfl ?_
                          refine cx_icmp_eq (tgt := 138) (by omega) (by omega) dX9_hand_130 (by decide) rfl (fun z130 => ?_) (fun z130 => ?_)
                          · skip
                            have f130 : cd_D (nI b2) (nI e3) = 2 := cd_D_eq (by omega)
                            refine hk_iconst (v := nI 2) dX9_hand_138 rfl (by decide) ?_
                            refine hk_goto (tgt := 169) dX9_hand_139 (by decide) ?_
                            refine hk_callV dX9_hand_169 rfl mv_X9_80 (cm_isWrong (k := 2) hfl (by decide) hk) rfl rfl (hm_g0 hk) rfl rfl (by decide) ⟨Nat.zero_le _, Nat.zero_le _⟩ (Nat.le_of_ble_eq_true rfl) (hk_ki fun v h1 q => ?_) hk_nx
                            obtain ⟨rfl, rfl⟩ := q
                            try rw [hm_mt_mt]
                            refine cx_ifb_eq (tgt := 177) dX9_hand_172 (by decide) rfl (fun z172 => ?_) (fun z172 => ?_)
                            · exact absurd z172 (by decide)
                            · skip
                              refine hk_iconst (v := nI 0) dX9_hand_175 rfl (by decide) ?_
                              exact hk_ireturn rfl (rfl) dX9_hand_176 (by have e : cd_hand S c (nI a) (nI b2) (nI e3) x = 2 := (by first | (simp [cd_hand, cs_sq, cd_K, f6, vaa, f14, vab2, f22, vae3, f64, b56, f79, f87, f95, f115, f120, f125, f130]; done) | (rcases cd_O_or S a with o0 | o0 <;> rcases cd_O_or S b2 with o1 | o1 <;> rcases cd_O_or S e3 with o2 | o2 <;> rcases cd_D_or (nI b2) (nI e3) with o3 | o3 <;> simp [cd_hand, cs_sq, cd_K, f6, vaa, f14, vab2, f22, vae3, f64, b56, f79, f87, f95, f115, f120, f125, f130, o0, o1, o2, o3])); exact ⟨_, rfl, g, hm_x.rf, Or.inr ⟨by rw [e]; decide, A, hm_mt M (nI 2), rfl, by rw [e]; exact hm_mt0, ok, hk, rfl⟩⟩)
                          · skip
                            have f130 : cd_D (nI b2) (nI e3) = 0 := cd_D_ne (by omega)
                            refine hk_iload dX9_hand_133 rfl rfl ?_
                            refine cx_ifn_ne (tgt := 142) (by omega) dX9_hand_135 (by decide) rfl (fun z135 => ?_) (fun z135 => ?_)
                            · skip
                              refine hk_iload dX9_hand_142 rfl rfl ?_
                              refine cx_ifn_eq (tgt := 151) (by omega) dX9_hand_144 (by decide) rfl (fun z144 => ?_) (fun z144 => ?_)
                              · exact absurd z144 (by decide)
                              · skip
                                refine hk_iconst (v := nI 3) dX9_hand_147 rfl (by decide) ?_
                                refine hk_goto (tgt := 169) dX9_hand_148 (by decide) ?_
                                refine hk_callV dX9_hand_169 rfl mv_X9_80 (cm_isWrong (k := 3) hfl (by decide) hk) rfl rfl (hm_g0 hk) rfl rfl (by decide) ⟨Nat.zero_le _, Nat.zero_le _⟩ (Nat.le_of_ble_eq_true rfl) (hk_ki fun v h1 q => ?_) hk_nx
                                obtain ⟨rfl, rfl⟩ := q
                                try rw [hm_mt_mt]
                                refine cx_ifb_eq (tgt := 177) dX9_hand_172 (by decide) rfl (fun z172 => ?_) (fun z172 => ?_)
                                · exact absurd z172 (by decide)
                                · skip
                                  refine hk_iconst (v := nI 0) dX9_hand_175 rfl (by decide) ?_
                                  exact hk_ireturn rfl (rfl) dX9_hand_176 (by have e : cd_hand S c (nI a) (nI b2) (nI e3) x = 3 := (by first | (simp [cd_hand, cs_sq, cd_K, f6, vaa, f14, vab2, f22, vae3, f64, b56, f79, f87, f95, f115, f120, f125, f130]; done) | (rcases cd_O_or S a with o0 | o0 <;> rcases cd_O_or S b2 with o1 | o1 <;> rcases cd_O_or S e3 with o2 | o2 <;> rcases cd_D_or (nI b2) (nI e3) with o3 | o3 <;> simp [cd_hand, cs_sq, cd_K, f6, vaa, f14, vab2, f22, vae3, f64, b56, f79, f87, f95, f115, f120, f125, f130, o0, o1, o2, o3])); exact ⟨_, rfl, g, hm_x.rf, Or.inr ⟨by rw [e]; decide, A, hm_mt M (nI 3), rfl, by rw [e]; exact hm_mt0, ok, hk, rfl⟩⟩)
                            · exact absurd z135 (by decide)
        · exact absurd z33 (by decide)
end CM2

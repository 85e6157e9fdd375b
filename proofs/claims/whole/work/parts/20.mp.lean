section CM2
variable {G : hk_G} {l : Launch} {S : hs_S} {c nc nb m : Nat} {thr : Int32} {g h : hk_H}
theorem hm_mt0 {M : hm_M} {v : Int32} : (hm_mt M v).1 0 = v := by
  show ha_up M.1 0 v 0 = v
  exact ha_up_eq
theorem cd_D_nI {x y : Nat} (hx : x < 2 ^ 31) (hy : y < 2 ^ 31) : cd_D (nI x) (nI y) = if x = y then 2 else 0 := by
  unfold cd_D
  by_cases e : x = y
  · rw [if_pos e, e, if_pos rfl]
  · rw [if_neg e, if_neg (fun q => e ((nI_eq hx hy).mp q))]
theorem cd_D_nI2 {x y : Nat} (hx : x < 2 ^ 31) (hy : y < 2 ^ 31) : cd_D (nI y) (nI x) = if x = y then 2 else 0 := by
  rw [cd_D_nI hy hx]
  by_cases e : x = y
  · rw [if_pos e, if_pos e.symm]
  · rw [if_neg e, if_neg (fun q => e q.symm)]
theorem cd_O_c {S : hs_S} {a : Nat} (h : cd_O S a = 3) : S.1 8 a = 0 := by
  unfold cd_O at h
  split at h
  · assumption
  · cases h
theorem cd_O_o {S : hs_S} {a : Nat} (h : cd_O S a = 0) : ¬ S.1 8 a = 0 := by
  unfold cd_O at h
  split at h
  · cases h
  · assumption
theorem cd_B_1 {S : hs_S} {M : hm_M} {A : Nat → Nat} {c nc nb a : Nat} (ok : hm_ok G S M A c nc nb) (ha : a < c) (h : hm_k S a = 98 ∨ cd_O S a = 3) : cd_B S a = 0 := if_pos ((hm_kb ok ha).mp (h.elim Or.inl (fun z => Or.inr (cd_O_c z))))
theorem cd_B_0 {S : hs_S} {M : hm_M} {A : Nat → Nat} {c nc nb a : Nat} (ok : hm_ok G S M A c nc nb) (ha : a < c) (h : ¬ hm_k S a = 98) (h2 : cd_O S a = 0) : cd_B S a = 2 := if_neg (fun z => ((hm_kb ok ha).mpr z).elim h (cd_O_o h2))
def ml_tr (l : List Nat) (k : Nat) : Nat := if k = 0 then 0 else l.idxOf k + 1
def hm_Wd (G : hk_G) (m : Nat) (S : hs_S) (c nc nb : Nat) (thr : Int32) (g h : hk_H) : Prop := ∃ (A : Nat → Nat) (M : hm_M), A 0 = m ∧ M.1 0 = thr ∧ hm_ok G S M A c nc nb ∧ ha_ok (hm_D S M) A g ∧ h = hm_h G S M A g
def ml_Q (G : hk_G) (m : Nat) (tc : Nat) (S : hs_S) (c nc nb : Nat) (S2 : hs_S) (c2 nc2 nb2 : Nat) (g : hk_H) (P : Prop) (h1 : hk_H) : Prop := ∃ g1 : hk_H, hm_x g g1 ∧ ((tc = 0 ∧ P ∧ hm_Wd G m S2 c2 nc2 nb2 (nI 0) g1 h1) ∨ (¬ tc = 0 ∧ hm_Wd G m S c nc nb (nI tc) g1 h1))
theorem cm_claim {v t : Int32} (hfl : l.stackTraces = false) (hw : hm_Wd G m S c nc nb thr g h) : hk_Ctr G l 8 yX9_claim cX9_claim 3 (some .int) 0 0 [.ref m, .int v, .int t] h (hk_qi fun rv h1 => ml_Q G m (ml_tr [1] (cd_claim c v t)) S c nc nb (S) (c) (nc) (nb) g (rv = S.1 19 (vN v * 6 + vN t)) h1) hk_no := by
  obtain ⟨A, M, rfl, rfl, ok, hk, rfl⟩ := hw
  have hc1 := ok.1.2.1
  have hc := ok.1.2.2
  have hnc := ok.2.1.2
  have hnb := ok.2.2.1.2
  refine hk_enter (by decide) hfl (Nat.le_of_ble_eq_true rfl) rfl ?_
  refine hk_aload_n dX9_claim_0 rfl rfl rfl ?_
  refine hk_aload_n dX9_claim_1 rfl rfl rfl ?_
  refine hk_iload_n dX9_claim_2 rfl rfl rfl ?_
  refine hk_callV dX9_claim_3 rfl mv_X9_84 (cm_isHouse hfl hk ok) rfl rfl (hm_g0 hk) rfl rfl (by decide) ⟨Nat.zero_le _, Nat.zero_le _⟩ (Nat.le_of_ble_eq_true rfl) (hk_ki fun v h1 q => ?_) hk_nx
  obtain ⟨rfl, rfl⟩ := q
  refine cx_ifb_eq (tgt := 21) dX9_claim_6 (by decide) rfl (fun z6 => ?_) (fun z6 => ?_)
  · have f6 : cd_H c v = 1 := cd_H_1 (of_decide_eq_false z6)
    refine hk_iconst (v := nI 1) dX9_claim_21 rfl (by decide) ?_
    refine hk_callV dX9_claim_22 rfl mv_X9_80 (cm_isWrong (k := 1) hfl (by decide) hk) rfl rfl (hm_g0 hk) rfl rfl (by decide) ⟨Nat.zero_le _, Nat.zero_le _⟩ (Nat.le_of_ble_eq_true rfl) (hk_ki fun v h1 q => ?_) hk_nx
    obtain ⟨rfl, rfl⟩ := q
    refine cx_ifb_eq (tgt := 32) dX9_claim_25 (by decide) rfl (fun z25 => ?_) (fun z25 => ?_)
    · exact absurd z25 (by decide)
    · skip
      refine hk_iconst (v := nI 0) dX9_claim_28 rfl (by decide) ?_
      refine hk_goto (tgt := 40) dX9_claim_29 (by decide) ?_
      exact hk_ireturn rfl (rfl) dX9_claim_40 (by have e : cd_claim c v t = 1 := (by simp [cd_claim, cs_sq, f6]); exact ⟨_, rfl, g, hm_x.rf, Or.inr ⟨by rw [e]; decide, A, hm_mt M (nI 1), rfl, by rw [e]; exact hm_mt0, ok, hk, rfl⟩⟩)
  · have f6 : cd_H c v = 0 := of_decide_eq_true z6
    obtain ⟨a, ha, rfl⟩ := cd_H_of (by omega) f6
    have vaa : vN (nI a) = a := vN_nI (by omega)
    refine hk_aload_n dX9_claim_9 rfl rfl rfl ?_
    refine hk_iload_n dX9_claim_10 rfl rfl rfl ?_
    refine hk_callV dX9_claim_11 rfl mv_X9_84 (cm_isHouse hfl hk ok) rfl rfl (hm_g0 hk) rfl rfl (by decide) ⟨Nat.zero_le _, Nat.zero_le _⟩ (Nat.le_of_ble_eq_true rfl) (hk_ki fun v h1 q => ?_) hk_nx
    obtain ⟨rfl, rfl⟩ := q
    refine cx_ifb_eq (tgt := 21) dX9_claim_14 (by decide) rfl (fun z14 => ?_) (fun z14 => ?_)
    · have f14 : cd_H c t = 1 := cd_H_1 (of_decide_eq_false z14)
      refine hk_iconst (v := nI 1) dX9_claim_21 rfl (by decide) ?_
      refine hk_callV dX9_claim_22 rfl mv_X9_80 (cm_isWrong (k := 1) hfl (by decide) hk) rfl rfl (hm_g0 hk) rfl rfl (by decide) ⟨Nat.zero_le _, Nat.zero_le _⟩ (Nat.le_of_ble_eq_true rfl) (hk_ki fun v h1 q => ?_) hk_nx
      obtain ⟨rfl, rfl⟩ := q
      refine cx_ifb_eq (tgt := 32) dX9_claim_25 (by decide) rfl (fun z25 => ?_) (fun z25 => ?_)
      · exact absurd z25 (by decide)
      · skip
        refine hk_iconst (v := nI 0) dX9_claim_28 rfl (by decide) ?_
        refine hk_goto (tgt := 40) dX9_claim_29 (by decide) ?_
        exact hk_ireturn rfl (rfl) dX9_claim_40 (by have e : cd_claim c (nI a) t = 1 := (by simp [cd_claim, cs_sq, f6, vaa, f14]); exact ⟨_, rfl, g, hm_x.rf, Or.inr ⟨by rw [e]; decide, A, hm_mt M (nI 1), rfl, by rw [e]; exact hm_mt0, ok, hk, rfl⟩⟩)
    · have f14 : cd_H c t = 0 := of_decide_eq_true z14
      obtain ⟨b2, hb2, rfl⟩ := cd_H_of (by omega) f14
      have vab2 : vN (nI b2) = b2 := vN_nI (by omega)
      refine hk_iconst (v := nI 0) dX9_claim_17 rfl (by decide) ?_
      refine hk_goto (tgt := 22) dX9_claim_18 (by decide) ?_
      refine hk_callV dX9_claim_22 rfl mv_X9_80 (cm_isWrong (k := 0) hfl (by decide) hk) rfl rfl (hm_g0 hk) rfl rfl (by decide) ⟨Nat.zero_le _, Nat.zero_le _⟩ (Nat.le_of_ble_eq_true rfl) (hk_ki fun v h1 q => ?_) hk_nx
      obtain ⟨rfl, rfl⟩ := q
      refine cx_ifb_eq (tgt := 32) dX9_claim_25 (by decide) rfl (fun z25 => ?_) (fun z25 => ?_)
      · skip
        refine hk_aload_n dX9_claim_32 rfl rfl rfl ?_
        refine hk_getf dX9_claim_33 rfl fl_X9_35 (hm_g0 hk) rfl ?_
        refine hk_iload_n dX9_claim_36 rfl rfl rfl ?_
        refine hx_aaldI dX9_claim_37 rfl (hm_g10 hk) (show _ < 6 by omega) (by decide) (if_pos (show _ < 6 by omega)) ?_
        refine hk_iload_n dX9_claim_38 rfl rfl rfl ?_
        refine hx_iald dX9_claim_39 rfl (hm_g11 hk (by omega)) (show _ < 6 by omega) (by decide) ?_
        refine cx_top (if_pos (by omega)) ?_
        exact hk_ireturn rfl (rfl) dX9_claim_40 (by have e : cd_claim c (nI a) (nI b2) = 0 := (by simp [cd_claim, cs_sq, f6, vaa, f14, vab2]); exact ⟨_, rfl, g, hm_x.rf, Or.inl ⟨by rw [e]; rfl, by simp only [vaa, vab2], A, hm_mt M (nI 0), rfl, hm_mt0, ok, hk, rfl⟩⟩)
      · exact absurd z25 (by decide)
theorem cm_ore {v mt : Int32} (hfl : l.stackTraces = false) (hw : hm_Wd G m S c nc nb thr g h) : hk_Ctr G l 8 yX9_ore cX9_ore 3 (some .int) 0 0 [.ref m, .int v, .int mt] h (hk_qi fun rv h1 => ml_Q G m (ml_tr [1, 2] (cd_HM c v mt)) S c nc nb (S) (c) (nc) (nb) g (rv = S.1 12 (vN v * 2 + cs_m mt)) h1) hk_no := by
  obtain ⟨A, M, rfl, rfl, ok, hk, rfl⟩ := hw
  have hc1 := ok.1.2.1
  have hc := ok.1.2.2
  have hnc := ok.2.1.2
  have hnb := ok.2.2.1.2
  refine hk_enter (by decide) hfl (Nat.le_of_ble_eq_true rfl) rfl ?_
  refine hk_aload_n dX9_ore_0 rfl rfl rfl ?_
  refine hk_aload_n dX9_ore_1 rfl rfl rfl ?_
  refine hk_iload_n dX9_ore_2 rfl rfl rfl ?_
  refine hk_callV dX9_ore_3 rfl mv_X9_84 (cm_isHouse hfl hk ok) rfl rfl (hm_g0 hk) rfl rfl (by decide) ⟨Nat.zero_le _, Nat.zero_le _⟩ (Nat.le_of_ble_eq_true rfl) (hk_ki fun v h1 q => ?_) hk_nx
  obtain ⟨rfl, rfl⟩ := q
  refine cx_ifb_ne (tgt := 13) dX9_ore_6 (by decide) rfl (fun z6 => ?_) (fun z6 => ?_)
  · have f6 : cd_H c v = 0 := of_decide_eq_true z6
    obtain ⟨a, ha, rfl⟩ := cd_H_of (by omega) f6
    have vaa : vN (nI a) = a := vN_nI (by omega)
    refine hk_iload_n dX9_ore_13 rfl rfl rfl ?_
    refine hk_callS dX9_ore_14 rfl ms_X9_87 (cm_isMetal hfl) rfl rfl (by decide) ⟨Nat.zero_le _, Nat.zero_le _⟩ (Nat.le_of_ble_eq_true rfl) (hk_ki fun v h1 q => ?_) hk_nx
    obtain ⟨rfl, rfl⟩ := q
    refine cx_ifb_ne (tgt := 24) dX9_ore_17 (by decide) rfl (fun z17 => ?_) (fun z17 => ?_)
    · have f17 : cd_M mt = 0 := of_decide_eq_true z17
      refine hk_iconst (v := nI 0) dX9_ore_24 rfl (by decide) ?_
      refine hk_callV dX9_ore_25 rfl mv_X9_80 (cm_isWrong (k := 0) hfl (by decide) hk) rfl rfl (hm_g0 hk) rfl rfl (by decide) ⟨Nat.zero_le _, Nat.zero_le _⟩ (Nat.le_of_ble_eq_true rfl) (hk_ki fun v h1 q => ?_) hk_nx
      obtain ⟨rfl, rfl⟩ := q
      refine cx_ifb_eq (tgt := 35) dX9_ore_28 (by decide) rfl (fun z28 => ?_) (fun z28 => ?_)
      · skip
        have hm := cs_m_lt mt
        refine hk_aload_n dX9_ore_35 rfl rfl rfl ?_
        refine hk_getf dX9_ore_36 rfl fl_X9_29 (hm_g0 hk) rfl ?_
        refine hk_iload_n dX9_ore_39 rfl rfl rfl ?_
        refine hx_aaldI dX9_ore_40 rfl (hm_g3 hk) (show _ < 6 by omega) (by decide) (if_pos (show _ < 6 by omega)) ?_
        refine hk_ldcS rfl dX9_ore_41 rfl ?_
        refine hk_iload_n dX9_ore_43 rfl rfl rfl ?_
        refine hk_callJ dX9_ore_44 rfl mv_X9_74 (cj_io hfl) rfl rfl (fun U H z => z.2.2.2.1.2.2.1) (by decide) ⟨Nat.zero_le _, Nat.zero_le _⟩ (Nat.le_of_ble_eq_true rfl) (hk_ki fun v h1 q => ?_) hk_nx
        obtain ⟨rfl, rfl⟩ := q
        refine cx_top (cs_ixm f17) ?_
        refine hx_iald dX9_ore_47 rfl (hm_g4 hk (by omega)) (show _ < 2 by omega) (by decide) ?_
        refine cx_top (if_pos (by omega)) ?_
        exact hk_ireturn rfl (rfl) dX9_ore_48 (by have e : cd_HM c (nI a) mt = 0 := (by simp [cd_HM, cs_sq, f6, vaa, f17]); exact ⟨_, rfl, g, hm_x.rf, Or.inl ⟨by rw [e]; rfl, by simp only [vaa], A, hm_mt M (nI 0), rfl, hm_mt0, ok, hk, rfl⟩⟩)
      · exact absurd z28 (by decide)
    · have f17 : cd_M mt = 2 := cd_M_2 (of_decide_eq_false z17)
      refine hk_iconst (v := nI 2) dX9_ore_20 rfl (by decide) ?_
      refine hk_goto (tgt := 25) dX9_ore_21 (by decide) ?_
      refine hk_callV dX9_ore_25 rfl mv_X9_80 (cm_isWrong (k := 2) hfl (by decide) hk) rfl rfl (hm_g0 hk) rfl rfl (by decide) ⟨Nat.zero_le _, Nat.zero_le _⟩ (Nat.le_of_ble_eq_true rfl) (hk_ki fun v h1 q => ?_) hk_nx
      obtain ⟨rfl, rfl⟩ := q
      refine cx_ifb_eq (tgt := 35) dX9_ore_28 (by decide) rfl (fun z28 => ?_) (fun z28 => ?_)
      · exact absurd z28 (by decide)
      · skip
        refine hk_iconst (v := nI 0) dX9_ore_31 rfl (by decide) ?_
        refine hk_goto (tgt := 48) dX9_ore_32 (by decide) ?_
        exact hk_ireturn rfl (rfl) dX9_ore_48 (by have e : cd_HM c (nI a) mt = 2 := (by simp [cd_HM, cs_sq, f6, vaa, f17]); exact ⟨_, rfl, g, hm_x.rf, Or.inr ⟨by rw [e]; decide, A, hm_mt M (nI 2), rfl, by rw [e]; exact hm_mt0, ok, hk, rfl⟩⟩)
  · have f6 : cd_H c v = 1 := cd_H_1 (of_decide_eq_false z6)
    refine hk_iconst (v := nI 1) dX9_ore_9 rfl (by decide) ?_
    refine hk_goto (tgt := 25) dX9_ore_10 (by decide) ?_
    refine hk_callV dX9_ore_25 rfl mv_X9_80 (cm_isWrong (k := 1) hfl (by decide) hk) rfl rfl (hm_g0 hk) rfl rfl (by decide) ⟨Nat.zero_le _, Nat.zero_le _⟩ (Nat.le_of_ble_eq_true rfl) (hk_ki fun v h1 q => ?_) hk_nx
    obtain ⟨rfl, rfl⟩ := q
    refine cx_ifb_eq (tgt := 35) dX9_ore_28 (by decide) rfl (fun z28 => ?_) (fun z28 => ?_)
    · exact absurd z28 (by decide)
    · skip
      refine hk_iconst (v := nI 0) dX9_ore_31 rfl (by decide) ?_
      refine hk_goto (tgt := 48) dX9_ore_32 (by decide) ?_
      exact hk_ireturn rfl (rfl) dX9_ore_48 (by have e : cd_HM c v mt = 1 := (by simp [cd_HM, cs_sq, f6]); exact ⟨_, rfl, g, hm_x.rf, Or.inr ⟨by rw [e]; decide, A, hm_mt M (nI 1), rfl, by rw [e]; exact hm_mt0, ok, hk, rfl⟩⟩)
theorem cm_kindOf {v : Int32} (hfl : l.stackTraces = false) (hw : hm_Wd G m S c nc nb thr g h) : hk_Ctr G l 9 yX9_kindOf cX9_kindOf 2 (some .char) 0 0 [.ref m, .int v] h (hk_qi fun rv h1 => ml_Q G m (ml_tr [1] (cd_H c v)) S c nc nb (S) (c) (nc) (nb) g (rv = cs_kindOf S (vN v)) h1) hk_no := by
  obtain ⟨A, M, rfl, rfl, ok, hk, rfl⟩ := hw
  have hc1 := ok.1.2.1
  have hc := ok.1.2.2
  have hnc := ok.2.1.2
  have hnb := ok.2.2.1.2
  refine hk_enter (by decide) hfl (Nat.le_of_ble_eq_true rfl) rfl ?_
  refine hk_aload_n dX9_kindOf_0 rfl rfl rfl ?_
  refine hk_aload_n dX9_kindOf_1 rfl rfl rfl ?_
  refine hk_iload_n dX9_kindOf_2 rfl rfl rfl ?_
  refine hk_callV dX9_kindOf_3 rfl mv_X9_84 (cm_isHouse hfl hk ok) rfl rfl (hm_g0 hk) rfl rfl (by decide) ⟨Nat.zero_le _, Nat.zero_le _⟩ (Nat.le_of_ble_eq_true rfl) (hk_ki fun v h1 q => ?_) hk_nx
  obtain ⟨rfl, rfl⟩ := q
  refine cx_ifb_eq (tgt := 13) dX9_kindOf_6 (by decide) rfl (fun z6 => ?_) (fun z6 => ?_)
  · have f6 : cd_H c v = 1 := cd_H_1 (of_decide_eq_false z6)
    refine hk_iconst (v := nI 1) dX9_kindOf_13 rfl (by decide) ?_
    refine hk_callV dX9_kindOf_14 rfl mv_X9_80 (cm_isWrong (k := 1) hfl (by decide) hk) rfl rfl (hm_g0 hk) rfl rfl (by decide) ⟨Nat.zero_le _, Nat.zero_le _⟩ (Nat.le_of_ble_eq_true rfl) (hk_ki fun v h1 q => ?_) hk_nx
    obtain ⟨rfl, rfl⟩ := q
    refine cx_ifb_eq (tgt := 24) dX9_kindOf_17 (by decide) rfl (fun z17 => ?_) (fun z17 => ?_)
    · exact absurd z17 (by decide)
    · skip
      refine hk_iconst (v := nI 0) dX9_kindOf_20 rfl (by decide) ?_
      refine hk_goto (tgt := 40) dX9_kindOf_21 (by decide) ?_
      exact hk_ireturn rfl (by first | rfl | exact nar_ch (by have := hm_kl ok ha; omega)) dX9_kindOf_40 (by have e : cd_H c v = 1 := f6; exact ⟨_, rfl, g, hm_x.rf, Or.inr ⟨by rw [e]; decide, A, hm_mt M (nI 1), rfl, by rw [e]; exact hm_mt0, ok, hk, rfl⟩⟩)
  · have f6 : cd_H c v = 0 := of_decide_eq_true z6
    obtain ⟨a, ha, rfl⟩ := cd_H_of (by omega) f6
    have vaa : vN (nI a) = a := vN_nI (by omega)
    refine hk_iconst (v := nI 0) dX9_kindOf_9 rfl (by decide) ?_
    refine hk_goto (tgt := 14) dX9_kindOf_10 (by decide) ?_
    refine hk_callV dX9_kindOf_14 rfl mv_X9_80 (cm_isWrong (k := 0) hfl (by decide) hk) rfl rfl (hm_g0 hk) rfl rfl (by decide) ⟨Nat.zero_le _, Nat.zero_le _⟩ (Nat.le_of_ble_eq_true rfl) (hk_ki fun v h1 q => ?_) hk_nx
    obtain ⟨rfl, rfl⟩ := q
    refine cx_ifb_eq (tgt := 24) dX9_kindOf_17 (by decide) rfl (fun z17 => ?_) (fun z17 => ?_)
    · skip
      have hki := hm_ki ok ha
      have hkk := (ok.2.2.2.2.1.2 a ha).2
      refine hk_aload_n dX9_kindOf_24 rfl rfl rfl ?_
      refine hk_getf dX9_kindOf_25 rfl fl_X9_16 (hm_g0 hk) rfl ?_
      refine hk_iload_n dX9_kindOf_28 rfl rfl rfl ?_
      refine hk_callF dX9_kindOf_29 rfl mf_X9_64 (cj_get hfl (hm_l0 hk ok) (hm_r (i := 0) hk ok (by omega) ok.2.2.2.2.1.1) (by omega) (by rw [← hm_n0 ok]; exact (hm_cap ok ok.2.2.2.2.1.1).1) (Nat.lt_of_le_of_lt (hm_cap ok ok.2.2.2.2.1.1).2.2 (by decide)) (hm_kg ok (by omega))) rfl rfl (hm_l0 hk ok) rfl rfl (by decide) ⟨Nat.zero_le _, Nat.zero_le _⟩ (Nat.le_of_ble_eq_true rfl) (hk_kr fun v h1 q => ?_) hk_nx
      obtain ⟨rfl, rfl⟩ := q
      refine hk_castJ dX9_kindOf_34 rfl (fun U H z => (z.2.1.2.2 _ (hm_kl ok (by omega))).1) kl_X9_45 ?_
      refine hk_callJ dX9_kindOf_37 rfl mv_X9_68 (cj_cc hfl (hm_kl ok (by omega))) rfl rfl (fun U H z => (z.2.1.2.2 _ (hm_kl ok (by omega))).1) (by decide) ⟨Nat.zero_le _, Nat.zero_le _⟩ (Nat.le_of_ble_eq_true rfl) (hk_ki fun v h1 q => ?_) hk_nx
      obtain ⟨rfl, rfl⟩ := q
      exact hk_ireturn rfl (by first | rfl | exact nar_ch (by have := hm_kl ok ha; omega)) dX9_kindOf_40 (by have e : cd_H c (nI a) = 0 := f6; exact ⟨_, rfl, g, hm_x.rf, Or.inl ⟨by rw [e]; rfl, by (obtain ⟨k, q1, q2, q3, q4⟩ := hkk); rw [vaa]; unfold cs_kindOf hm_k; by_cases q : S.1 8 a = 0; (rw [if_pos q, if_pos q]); (rw [if_neg q, if_neg q, q3, vN_nI (by omega)]), A, hm_mt M (nI 0), rfl, hm_mt0, ok, hk, rfl⟩⟩)
    · exact absurd z17 (by decide)
theorem cm_decree {mt v q : Int32} (hfl : l.stackTraces = false) (hw : hm_Wd G m S c nc nb thr g h) : hk_Ctr G l 8 yX9_decree cX9_decree 6 (some .int) 0 0 [.ref m, .int mt, .int v, .int q] h (hk_qi fun rv h1 => ml_Q G m (ml_tr [2] (cd_decree mt v q)) S c nc nb (cs_decree S mt v q) (c) (nc) (nb) g (rv = nI 100 * S.1 9 (cs_m mt) + S.1 10 (cs_m mt)) h1) hk_no := by
  obtain ⟨A, M, rfl, rfl, ok, hk, rfl⟩ := hw
  have hc1 := ok.1.2.1
  have hc := ok.1.2.2
  have hnc := ok.2.1.2
  have hnb := ok.2.2.1.2
  refine hk_enter (by decide) hfl (Nat.le_of_ble_eq_true rfl) rfl ?_
  refine hk_aload_n dX9_decree_0 rfl rfl rfl ?_
  refine hk_iload_n dX9_decree_1 rfl rfl rfl ?_
  refine hk_callS dX9_decree_2 rfl ms_X9_87 (cm_isMetal hfl) rfl rfl (by decide) ⟨Nat.zero_le _, Nat.zero_le _⟩ (Nat.le_of_ble_eq_true rfl) (hk_ki fun v h1 q => ?_) hk_nx
  obtain ⟨rfl, rfl⟩ := q
  refine cx_ifb_eq (tgt := 32) dX9_decree_5 (by decide) rfl (fun z5 => ?_) (fun z5 => ?_)
  · have f5 : cd_M mt = 2 := cd_M_2 (of_decide_eq_false z5)
    refine hk_iconst (v := nI 1) dX9_decree_32 rfl (by decide) ?_
    refine hk_callV dX9_decree_33 rfl mv_X9_80 (cm_isWrong (k := 1) hfl (by decide) hk) rfl rfl (hm_g0 hk) rfl rfl (by decide) ⟨Nat.zero_le _, Nat.zero_le _⟩ (Nat.le_of_ble_eq_true rfl) (hk_ki fun v h1 q => ?_) hk_nx
    obtain ⟨rfl, rfl⟩ := q
    refine cx_ifb_eq (tgt := 41) dX9_decree_36 (by decide) rfl (fun z36 => ?_) (fun z36 => ?_)
    · exact absurd z36 (by decide)
    · skip
      refine hk_iconst (v := nI 0) dX9_decree_39 rfl (by decide) ?_
      exact hk_ireturn rfl (rfl) dX9_decree_40 (by have e : cd_decree mt v q = 2 := (by simp [cd_decree, cs_sq, f5]); exact ⟨_, rfl, g, hm_x.rf, Or.inr ⟨by rw [e]; decide, A, hm_mt M (nI 1), rfl, by rw [e]; exact hm_mt0, ok, hk, rfl⟩⟩)
  · have f5 : cd_M mt = 0 := of_decide_eq_true z5
    refine hk_iload_n dX9_decree_8 rfl rfl rfl ?_
    refine hk_iconst (v := nI 1) dX9_decree_9 rfl (by decide) ?_
    refine hk_bipush (v := nI 99) dX9_decree_10 rfl (by decide) ?_
    refine hk_callS dX9_decree_12 rfl ms_X9_60 (cm_isBetween hfl) rfl rfl (by decide) ⟨Nat.zero_le _, Nat.zero_le _⟩ (Nat.le_of_ble_eq_true rfl) (hk_ki fun v h1 q => ?_) hk_nx
    obtain ⟨rfl, rfl⟩ := q
    refine cx_top (congrArg cx_b (cs_bwR _ _)) ?_
    refine cx_ifb_eq (tgt := 32) dX9_decree_15 (by decide) rfl (fun z15 => ?_) (fun z15 => ?_)
    · have f15 : cd_R v 99 = 2 := cd_R_2 (of_decide_eq_false z15)
      refine hk_iconst (v := nI 1) dX9_decree_32 rfl (by decide) ?_
      refine hk_callV dX9_decree_33 rfl mv_X9_80 (cm_isWrong (k := 1) hfl (by decide) hk) rfl rfl (hm_g0 hk) rfl rfl (by decide) ⟨Nat.zero_le _, Nat.zero_le _⟩ (Nat.le_of_ble_eq_true rfl) (hk_ki fun v h1 q => ?_) hk_nx
      obtain ⟨rfl, rfl⟩ := q
      refine cx_ifb_eq (tgt := 41) dX9_decree_36 (by decide) rfl (fun z36 => ?_) (fun z36 => ?_)
      · exact absurd z36 (by decide)
      · skip
        refine hk_iconst (v := nI 0) dX9_decree_39 rfl (by decide) ?_
        exact hk_ireturn rfl (rfl) dX9_decree_40 (by have e : cd_decree mt v q = 2 := (by simp [cd_decree, cs_sq, f5, f15]); exact ⟨_, rfl, g, hm_x.rf, Or.inr ⟨by rw [e]; decide, A, hm_mt M (nI 1), rfl, by rw [e]; exact hm_mt0, ok, hk, rfl⟩⟩)
    · have f15 : cd_R v 99 = 0 := of_decide_eq_true z15
      refine hk_iload_n dX9_decree_18 rfl rfl rfl ?_
      refine hk_iconst (v := nI 1) dX9_decree_19 rfl (by decide) ?_
      refine hk_bipush (v := nI 9) dX9_decree_20 rfl (by decide) ?_
      refine hk_callS dX9_decree_22 rfl ms_X9_60 (cm_isBetween hfl) rfl rfl (by decide) ⟨Nat.zero_le _, Nat.zero_le _⟩ (Nat.le_of_ble_eq_true rfl) (hk_ki fun v h1 q => ?_) hk_nx
      obtain ⟨rfl, rfl⟩ := q
      refine cx_top (congrArg cx_b (cs_bwR _ _)) ?_
      refine cx_ifb_eq (tgt := 32) dX9_decree_25 (by decide) rfl (fun z25 => ?_) (fun z25 => ?_)
      · have f25 : cd_R q 9 = 2 := cd_R_2 (of_decide_eq_false z25)
        refine hk_iconst (v := nI 1) dX9_decree_32 rfl (by decide) ?_
        refine hk_callV dX9_decree_33 rfl mv_X9_80 (cm_isWrong (k := 1) hfl (by decide) hk) rfl rfl (hm_g0 hk) rfl rfl (by decide) ⟨Nat.zero_le _, Nat.zero_le _⟩ (Nat.le_of_ble_eq_true rfl) (hk_ki fun v h1 q => ?_) hk_nx
        obtain ⟨rfl, rfl⟩ := q
        refine cx_ifb_eq (tgt := 41) dX9_decree_36 (by decide) rfl (fun z36 => ?_) (fun z36 => ?_)
        · exact absurd z36 (by decide)
        · skip
          refine hk_iconst (v := nI 0) dX9_decree_39 rfl (by decide) ?_
          exact hk_ireturn rfl (rfl) dX9_decree_40 (by have e : cd_decree mt v q = 2 := (by simp [cd_decree, cs_sq, f5, f15, f25]); exact ⟨_, rfl, g, hm_x.rf, Or.inr ⟨by rw [e]; decide, A, hm_mt M (nI 1), rfl, by rw [e]; exact hm_mt0, ok, hk, rfl⟩⟩)
      · have f25 : cd_R q 9 = 0 := of_decide_eq_true z25
        refine hk_iconst (v := nI 0) dX9_decree_28 rfl (by decide) ?_
        refine hk_goto (tgt := 33) dX9_decree_29 (by decide) ?_
        refine hk_callV dX9_decree_33 rfl mv_X9_80 (cm_isWrong (k := 0) hfl (by decide) hk) rfl rfl (hm_g0 hk) rfl rfl (by decide) ⟨Nat.zero_le _, Nat.zero_le _⟩ (Nat.le_of_ble_eq_true rfl) (hk_ki fun v h1 q => ?_) hk_nx
        obtain ⟨rfl, rfl⟩ := q
        refine cx_ifb_eq (tgt := 41) dX9_decree_36 (by decide) rfl (fun z36 => ?_) (fun z36 => ?_)
        · skip
          have hm := cs_m_lt mt
          refine hk_ldcS rfl dX9_decree_41 rfl ?_
          refine hk_iload_n dX9_decree_43 rfl rfl rfl ?_
          refine hk_callJ dX9_decree_44 rfl mv_X9_74 (cj_io hfl) rfl rfl (fun U H z => z.2.2.2.1.2.2.1) (by decide) ⟨Nat.zero_le _, Nat.zero_le _⟩ (Nat.le_of_ble_eq_true rfl) (hk_ki fun v h1 q => ?_) hk_nx
          obtain ⟨rfl, rfl⟩ := q
          refine cx_top (cs_ixm f5) ?_
          refine hk_istore dX9_decree_47 rfl (by decide) rfl ?_
          refine hk_bipush (v := nI 100) dX9_decree_49 rfl (by decide) ?_
          refine hk_aload_n dX9_decree_51 rfl rfl rfl ?_
          refine hk_getf dX9_decree_52 rfl fl_X9_20 (hm_g0 hk) rfl ?_
          refine hk_iload dX9_decree_55 rfl rfl ?_
          refine hx_iald dX9_decree_57 rfl (hm_g1 hk) (show _ < 2 by omega) (by decide) ?_
          refine hk_imul dX9_decree_58 rfl ?_
          refine hk_aload_n dX9_decree_59 rfl rfl rfl ?_
          refine hk_getf dX9_decree_60 rfl fl_X9_24 (hm_g0 hk) rfl ?_
          refine hk_iload dX9_decree_63 rfl rfl ?_
          refine hx_iald dX9_decree_65 rfl (hm_g2 hk) (show _ < 2 by omega) (by decide) ?_
          refine hk_iadd dX9_decree_66 rfl ?_
          refine hk_istore dX9_decree_67 rfl (by decide) rfl ?_
          refine hk_aload_n dX9_decree_69 rfl rfl rfl ?_
          refine hk_getf dX9_decree_70 rfl fl_X9_20 (hm_g0 hk) rfl ?_
          refine hk_iload dX9_decree_73 rfl rfl ?_
          refine hk_iload_n dX9_decree_75 rfl rfl rfl ?_
          refine hx_iast dX9_decree_76 rfl (hm_g1 hk) (show _ < 2 by omega) (by decide) ?_
          refine hx_cg (hm_v9 hk) ?_
          refine hk_aload_n dX9_decree_77 rfl rfl rfl ?_
          refine hk_getf dX9_decree_78 rfl fl_X9_24 (hm_g0 hk) rfl ?_
          refine hk_iload dX9_decree_81 rfl rfl ?_
          refine hk_iload_n dX9_decree_83 rfl rfl rfl ?_
          refine hx_iast dX9_decree_84 rfl (hm_g2 hk) (show _ < 2 by omega) (by decide) ?_
          refine hx_cg (hm_v10 hk) ?_
          refine hk_iload dX9_decree_85 rfl rfl ?_
          exact hk_ireturn rfl (rfl) dX9_decree_87 (by have e : cd_decree mt v q = 0 := (by simp [cd_decree, cs_sq, f5, f15, f25]); exact ⟨_, rfl, g, hm_x.rf, Or.inl ⟨by rw [e]; rfl, rfl, A, hm_mt M (nI 0), rfl, hm_mt0, ok, hk, rfl⟩⟩)
        · exact absurd z36 (by decide)
theorem cm_dig {v mt q : Int32} (hfl : l.stackTraces = false) (hw : hm_Wd G m S c nc nb thr g h) : hk_Ctr G l 8 yX9_dig cX9_dig 4 (some .int) 0 0 [.ref m, .int v, .int mt, .int q] h (hk_qi fun rv h1 => ml_Q G m (ml_tr [1, 2, 3] (cd_dig S c v mt q)) S c nc nb (cs_dig S v mt q) (c) (nc) (nb) g (rv = (cs_dig S v mt q).1 12 (vN v * 2 + cs_m mt)) h1) hk_no := by
  obtain ⟨A, M, rfl, rfl, ok, hk, rfl⟩ := hw
  have hc1 := ok.1.2.1
  have hc := ok.1.2.2
  have hnc := ok.2.1.2
  have hnb := ok.2.2.1.2
  refine hk_enter (by decide) hfl (Nat.le_of_ble_eq_true rfl) rfl ?_
  refine hk_aload_n dX9_dig_0 rfl rfl rfl ?_
  refine hk_aload_n dX9_dig_1 rfl rfl rfl ?_
  refine hk_iload_n dX9_dig_2 rfl rfl rfl ?_
  refine hk_callV dX9_dig_3 rfl mv_X9_84 (cm_isHouse hfl hk ok) rfl rfl (hm_g0 hk) rfl rfl (by decide) ⟨Nat.zero_le _, Nat.zero_le _⟩ (Nat.le_of_ble_eq_true rfl) (hk_ki fun v h1 q => ?_) hk_nx
  obtain ⟨rfl, rfl⟩ := q
  refine cx_ifb_ne (tgt := 13) dX9_dig_6 (by decide) rfl (fun z6 => ?_) (fun z6 => ?_)
  · have f6 : cd_H c v = 0 := of_decide_eq_true z6
    obtain ⟨a, ha, rfl⟩ := cd_H_of (by omega) f6
    have vaa : vN (nI a) = a := vN_nI (by omega)
    refine hk_iload_n dX9_dig_13 rfl rfl rfl ?_
    refine hk_callS dX9_dig_14 rfl ms_X9_87 (cm_isMetal hfl) rfl rfl (by decide) ⟨Nat.zero_le _, Nat.zero_le _⟩ (Nat.le_of_ble_eq_true rfl) (hk_ki fun v h1 q => ?_) hk_nx
    obtain ⟨rfl, rfl⟩ := q
    refine cx_ifb_eq (tgt := 30) dX9_dig_17 (by decide) rfl (fun z17 => ?_) (fun z17 => ?_)
    · have f17 : cd_M mt = 2 := cd_M_2 (of_decide_eq_false z17)
      refine hk_iconst (v := nI 2) dX9_dig_30 rfl (by decide) ?_
      refine hk_goto (tgt := 47) dX9_dig_31 (by decide) ?_
      refine hk_callV dX9_dig_47 rfl mv_X9_80 (cm_isWrong (k := 2) hfl (by decide) hk) rfl rfl (hm_g0 hk) rfl rfl (by decide) ⟨Nat.zero_le _, Nat.zero_le _⟩ (Nat.le_of_ble_eq_true rfl) (hk_ki fun v h1 q => ?_) hk_nx
      obtain ⟨rfl, rfl⟩ := q
      refine cx_ifb_eq (tgt := 55) dX9_dig_50 (by decide) rfl (fun z50 => ?_) (fun z50 => ?_)
      · exact absurd z50 (by decide)
      · skip
        refine hk_iconst (v := nI 0) dX9_dig_53 rfl (by decide) ?_
        exact hk_ireturn rfl (rfl) dX9_dig_54 (by have e : cd_dig S c (nI a) mt q = 2 := (by simp [cd_dig, cs_sq, f6, vaa, f17]); exact ⟨_, rfl, g, hm_x.rf, Or.inr ⟨by rw [e]; decide, A, hm_mt M (nI 2), rfl, by rw [e]; exact hm_mt0, ok, hk, rfl⟩⟩)
    · have f17 : cd_M mt = 0 := of_decide_eq_true z17
      refine hk_iload_n dX9_dig_20 rfl rfl rfl ?_
      refine hk_iconst (v := nI 1) dX9_dig_21 rfl (by decide) ?_
      refine hk_bipush (v := nI 99) dX9_dig_22 rfl (by decide) ?_
      refine hk_callS dX9_dig_24 rfl ms_X9_60 (cm_isBetween hfl) rfl rfl (by decide) ⟨Nat.zero_le _, Nat.zero_le _⟩ (Nat.le_of_ble_eq_true rfl) (hk_ki fun v h1 q => ?_) hk_nx
      obtain ⟨rfl, rfl⟩ := q
      refine cx_top (congrArg cx_b (cs_bwR _ _)) ?_
      refine cx_ifb_ne (tgt := 34) dX9_dig_27 (by decide) rfl (fun z27 => ?_) (fun z27 => ?_)
      · have f27 : cd_R q 99 = 0 := of_decide_eq_true z27
        refine hk_aload_n dX9_dig_34 rfl rfl rfl ?_
        refine hk_iload_n dX9_dig_35 rfl rfl rfl ?_
        refine hk_callV dX9_dig_36 rfl mv_X9_91 (cm_hasFailed hfl hk ok (by omega)) rfl rfl (hm_g0 hk) rfl rfl (by decide) ⟨Nat.zero_le _, Nat.zero_le _⟩ (Nat.le_of_ble_eq_true rfl) (hk_ki fun v h1 q => ?_) hk_nx
        obtain ⟨rfl, rfl⟩ := q
        refine cx_ifb_eq (tgt := 46) dX9_dig_39 (by decide) rfl (fun z39 => ?_) (fun z39 => ?_)
        · have f39 : cd_O S a = 0 := Decidable.of_not_not (of_decide_eq_false z39)
          refine hk_iconst (v := nI 0) dX9_dig_46 rfl (by decide) ?_
          refine hk_callV dX9_dig_47 rfl mv_X9_80 (cm_isWrong (k := 0) hfl (by decide) hk) rfl rfl (hm_g0 hk) rfl rfl (by decide) ⟨Nat.zero_le _, Nat.zero_le _⟩ (Nat.le_of_ble_eq_true rfl) (hk_ki fun v h1 q => ?_) hk_nx
          obtain ⟨rfl, rfl⟩ := q
          refine cx_ifb_eq (tgt := 55) dX9_dig_50 (by decide) rfl (fun z50 => ?_) (fun z50 => ?_)
          · skip
            have hm := cs_m_lt mt
            refine hk_aload_n dX9_dig_55 rfl rfl rfl ?_
            refine hk_getf dX9_dig_56 rfl fl_X9_29 (hm_g0 hk) rfl ?_
            refine hk_iload_n dX9_dig_59 rfl rfl rfl ?_
            refine hx_aaldI dX9_dig_60 rfl (hm_g3 hk) (show _ < 6 by omega) (by decide) (if_pos (show _ < 6 by omega)) ?_
            refine hk_ldcS rfl dX9_dig_61 rfl ?_
            refine hk_iload_n dX9_dig_63 rfl rfl rfl ?_
            refine hk_callJ dX9_dig_64 rfl mv_X9_74 (cj_io hfl) rfl rfl (fun U H z => z.2.2.2.1.2.2.1) (by decide) ⟨Nat.zero_le _, Nat.zero_le _⟩ (Nat.le_of_ble_eq_true rfl) (hk_ki fun v h1 q => ?_) hk_nx
            obtain ⟨rfl, rfl⟩ := q
            refine cx_top (cs_ixm f17) ?_
            refine hk_dup2 dX9_dig_67 rfl rfl rfl ?_
            refine hx_iald dX9_dig_68 rfl (hm_g4 hk (by omega)) (show _ < 2 by omega) (by decide) ?_
            refine cx_top (if_pos (by omega)) ?_
            refine hk_iload_n dX9_dig_69 rfl rfl rfl ?_
            refine hk_iadd dX9_dig_70 rfl ?_
            refine hx_iast dX9_dig_71 rfl (hm_g4 hk (by omega)) (show _ < 2 by omega) (by decide) ?_
            refine hx_cg (hm_v12 hk (by omega) (by omega)) ?_
            refine hk_aload_n dX9_dig_72 rfl rfl rfl ?_
            refine hk_getf dX9_dig_73 rfl fl_X9_29 (hm_g0 hk) rfl ?_
            refine hk_iload_n dX9_dig_76 rfl rfl rfl ?_
            refine hx_aaldI dX9_dig_77 rfl (hm_g3 hk) (show _ < 6 by omega) (by decide) (if_pos (show _ < 6 by omega)) ?_
            refine hk_ldcS rfl dX9_dig_78 rfl ?_
            refine hk_iload_n dX9_dig_80 rfl rfl rfl ?_
            refine hk_callJ dX9_dig_81 rfl mv_X9_74 (cj_io hfl) rfl rfl (fun U H z => z.2.2.2.1.2.2.1) (by decide) ⟨Nat.zero_le _, Nat.zero_le _⟩ (Nat.le_of_ble_eq_true rfl) (hk_ki fun v h1 q => ?_) hk_nx
            obtain ⟨rfl, rfl⟩ := q
            refine cx_top (cs_ixm f17) ?_
            refine hx_iald dX9_dig_84 rfl (hm_g4 hk (by omega)) (show _ < 2 by omega) (by decide) ?_
            refine cx_top (if_pos (by omega)) ?_
            exact hk_ireturn rfl (rfl) dX9_dig_85 (by have e : cd_dig S c (nI a) mt q = 0 := (by simp [cd_dig, cs_sq, f6, vaa, f17, f27, f39]); exact ⟨_, rfl, g, hm_x.rf, Or.inl ⟨by rw [e]; rfl, by simp only [cs_dig, vaa]; rfl, A, hm_mt M (nI 0), rfl, hm_mt0, ok, hk, by simp only [cs_dig, vaa]; rfl⟩⟩)
          · exact absurd z50 (by decide)
        · have f39 : cd_O S a = 3 := cd_O_3 (of_decide_eq_true z39)
          refine hk_iconst (v := nI 3) dX9_dig_42 rfl (by decide) ?_
          refine hk_goto (tgt := 47) dX9_dig_43 (by decide) ?_
          refine hk_callV dX9_dig_47 rfl mv_X9_80 (cm_isWrong (k := 3) hfl (by decide) hk) rfl rfl (hm_g0 hk) rfl rfl (by decide) ⟨Nat.zero_le _, Nat.zero_le _⟩ (Nat.le_of_ble_eq_true rfl) (hk_ki fun v h1 q => ?_) hk_nx
          obtain ⟨rfl, rfl⟩ := q
          refine cx_ifb_eq (tgt := 55) dX9_dig_50 (by decide) rfl (fun z50 => ?_) (fun z50 => ?_)
          · exact absurd z50 (by decide)
          · skip
            refine hk_iconst (v := nI 0) dX9_dig_53 rfl (by decide) ?_
            exact hk_ireturn rfl (rfl) dX9_dig_54 (by have e : cd_dig S c (nI a) mt q = 3 := (by simp [cd_dig, cs_sq, f6, vaa, f17, f27, f39]); exact ⟨_, rfl, g, hm_x.rf, Or.inr ⟨by rw [e]; decide, A, hm_mt M (nI 3), rfl, by rw [e]; exact hm_mt0, ok, hk, rfl⟩⟩)
      · have f27 : cd_R q 99 = 2 := cd_R_2 (of_decide_eq_false z27)
        refine hk_iconst (v := nI 2) dX9_dig_30 rfl (by decide) ?_
        refine hk_goto (tgt := 47) dX9_dig_31 (by decide) ?_
        refine hk_callV dX9_dig_47 rfl mv_X9_80 (cm_isWrong (k := 2) hfl (by decide) hk) rfl rfl (hm_g0 hk) rfl rfl (by decide) ⟨Nat.zero_le _, Nat.zero_le _⟩ (Nat.le_of_ble_eq_true rfl) (hk_ki fun v h1 q => ?_) hk_nx
        obtain ⟨rfl, rfl⟩ := q
        refine cx_ifb_eq (tgt := 55) dX9_dig_50 (by decide) rfl (fun z50 => ?_) (fun z50 => ?_)
        · exact absurd z50 (by decide)
        · skip
          refine hk_iconst (v := nI 0) dX9_dig_53 rfl (by decide) ?_
          exact hk_ireturn rfl (rfl) dX9_dig_54 (by have e : cd_dig S c (nI a) mt q = 2 := (by simp [cd_dig, cs_sq, f6, vaa, f17, f27]); exact ⟨_, rfl, g, hm_x.rf, Or.inr ⟨by rw [e]; decide, A, hm_mt M (nI 2), rfl, by rw [e]; exact hm_mt0, ok, hk, rfl⟩⟩)
  · have f6 : cd_H c v = 1 := cd_H_1 (of_decide_eq_false z6)
    refine hk_iconst (v := nI 1) dX9_dig_9 rfl (by decide) ?_
    refine hk_goto (tgt := 47) dX9_dig_10 (by decide) ?_
    refine hk_callV dX9_dig_47 rfl mv_X9_80 (cm_isWrong (k := 1) hfl (by decide) hk) rfl rfl (hm_g0 hk) rfl rfl (by decide) ⟨Nat.zero_le _, Nat.zero_le _⟩ (Nat.le_of_ble_eq_true rfl) (hk_ki fun v h1 q => ?_) hk_nx
    obtain ⟨rfl, rfl⟩ := q
    refine cx_ifb_eq (tgt := 55) dX9_dig_50 (by decide) rfl (fun z50 => ?_) (fun z50 => ?_)
    · exact absurd z50 (by decide)
    · skip
      refine hk_iconst (v := nI 0) dX9_dig_53 rfl (by decide) ?_
      exact hk_ireturn rfl (rfl) dX9_dig_54 (by have e : cd_dig S c v mt q = 1 := (by simp [cd_dig, cs_sq, f6]); exact ⟨_, rfl, g, hm_x.rf, Or.inr ⟨by rw [e]; decide, A, hm_mt M (nI 1), rfl, by rw [e]; exact hm_mt0, ok, hk, rfl⟩⟩)
end CM2

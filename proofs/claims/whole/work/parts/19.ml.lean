section CM1
variable {G : hk_G} {l : Launch} {S : hs_S} {M : hm_M} {A : Nat → Nat} {g : hk_H} {c nc nb : Nat}
def cs_bw (v a z : Int32) : Bool := if v < a then false else (if z < v then false else true)
def cs_ih (c : Nat) (v : Int32) : Bool := decide (cd_H c v = 0)
def cs_fl (S : hs_S) (a : Nat) : Bool := decide (¬ cd_O S a = 0)
def cs_im (v : Int32) : Bool := decide (cd_M v = 0)
theorem cs_bwH {n : Nat} (hn : n ≤ 90) (v : Int32) : cs_bw v (nI 0) (nI n - nI 1) = cs_ih n v := by
  unfold cs_bw cs_ih cd_H
  by_cases h0 : v < 0
  · rw [if_pos (show v < nI 0 from h0), if_pos h0]; rfl
  · rw [if_neg (show ¬ v < nI 0 from h0), if_neg h0]
    obtain ⟨a, ha, rfl⟩ := nI_of h0
    by_cases hz : n = 0
    · subst hz
      rw [if_pos (show nI 0 - nI 1 < nI a from by
        have e : nI 0 - nI 1 = -1 := by decide
        rw [e]
        exact Int32.lt_of_lt_of_le (by decide : (-1 : Int32) < 0) (nI_pos' ha)), if_neg (nI_nlt (Nat.zero_le _) ha)]
      rfl
    · rw [cx_nsub (by omega)]
      by_cases h1 : a < n
      · rw [if_neg (nI_nlt (by omega) (by omega)), if_pos (nI_lt h1 (by omega))]; rfl
      · rw [if_pos (nI_lt (by omega) ha), if_neg (nI_nlt (by omega) ha)]; rfl
theorem cs_bwR (v : Int32) (k : Nat) : cs_bw v (nI 1) (nI k) = decide (cd_R v k = 0) := by
  unfold cs_bw cd_R
  by_cases h0 : v < nI 1
  · rw [if_pos h0, if_pos h0]; rfl
  · rw [if_neg h0, if_neg h0]
    by_cases h1 : nI k < v
    · rw [if_pos h1, if_neg (Int32.not_le.mpr h1)]; rfl
    · rw [if_neg h1, if_pos (Int32.not_lt.mp h1)]; rfl
theorem cs_imx (v : Int32) : (0 : Int32) ≤ cs_ix v ↔ cd_M v = 0 := by
  unfold cs_ix cd_M
  by_cases h0 : v = nI 103
  · rw [if_pos h0, if_pos h0]; decide
  · rw [if_neg h0, if_neg h0]
    by_cases h1 : v = nI 115
    · rw [if_pos h1, if_pos h1]; decide
    · rw [if_neg h1, if_neg h1]; decide
theorem cs_ixm {v : Int32} (h : cd_M v = 0) : cs_ix v = nI (cs_m v) := by
  unfold cd_M at h
  unfold cs_ix cs_m
  by_cases h0 : v = nI 103
  · rw [if_pos h0, if_pos h0]
  · rw [if_neg h0] at h
    rw [if_neg h0, if_neg h0]
    by_cases h1 : v = nI 115
    · rw [if_pos h1]
    · rw [if_neg h1] at h
      cases h
theorem cd_H_1 {n : Nat} {v : Int32} (h : ¬ cd_H n v = 0) : cd_H n v = 1 := by
  unfold cd_H at h ⊢
  split
  · rfl
  · rename_i h0
    rw [if_neg h0] at h
    split
    · rename_i h1; exact absurd (if_pos h1) h
    · rfl
theorem cd_M_2 {v : Int32} (h : ¬ cd_M v = 0) : cd_M v = 2 := by
  unfold cd_M at h ⊢
  split
  · rename_i h0; exact absurd (if_pos h0) h
  · rename_i h0
    rw [if_neg h0] at h
    split
    · rename_i h1; exact absurd (if_pos h1) h
    · rfl
theorem cd_R_2 {v : Int32} {k : Nat} (h : ¬ cd_R v k = 0) : cd_R v k = 2 := by
  unfold cd_R at h ⊢
  split
  · rfl
  · rename_i h0
    rw [if_neg h0] at h
    split
    · rename_i h1; exact absurd (if_pos h1) h
    · rfl
theorem cd_O_3 {S : hs_S} {a : Nat} (h : ¬ cd_O S a = 0) : cd_O S a = 3 := by
  unfold cd_O at h ⊢
  split
  · rfl
  · rename_i h0; exact absurd (if_neg h0) h
theorem cm_isBetween {v0 a0 z0 : Int32} {h : hk_H} (hfl : l.stackTraces = false) : hk_Ctr G l 1 yX9_isBetween cX9_isBetween 3 (some .boolean) 0 0 [.int v0, .int a0, .int z0] h (hk_qi fun v h1 => v = cx_b (cs_bw v0 a0 z0) ∧ h1 = h) hk_no := by
  refine hk_enter (by decide) hfl (Nat.le_of_ble_eq_true rfl) rfl ?_
  refine hk_iload_n dX9_isBetween_0 rfl rfl rfl ?_
  refine hk_iload_n dX9_isBetween_1 rfl rfl rfl ?_
  refine hk_icmp_gt (tgt := 14) dX9_isBetween_2 (by decide) rfl (fun z2 => ?_) (fun z2 => ?_)
  · skip
    refine hk_iconst (v := nI 0) dX9_isBetween_14 rfl (by decide) ?_
    exact hk_ireturn rfl (rfl) dX9_isBetween_15 (⟨_, rfl, by unfold cs_bw; first | (rw [if_pos z2]; rfl) | (rw [if_neg z2, if_pos z7]; rfl) | (rw [if_neg z2, if_neg z7]; rfl), rfl⟩)
  · skip
    refine hk_iload_n dX9_isBetween_5 rfl rfl rfl ?_
    refine hk_iload_n dX9_isBetween_6 rfl rfl rfl ?_
    refine hk_icmp_gt (tgt := 14) dX9_isBetween_7 (by decide) rfl (fun z7 => ?_) (fun z7 => ?_)
    · skip
      refine hk_iconst (v := nI 0) dX9_isBetween_14 rfl (by decide) ?_
      exact hk_ireturn rfl (rfl) dX9_isBetween_15 (⟨_, rfl, by unfold cs_bw; first | (rw [if_pos z2]; rfl) | (rw [if_neg z2, if_pos z7]; rfl) | (rw [if_neg z2, if_neg z7]; rfl), rfl⟩)
    · skip
      refine hk_iconst (v := nI 1) dX9_isBetween_10 rfl (by decide) ?_
      refine hk_goto (tgt := 15) dX9_isBetween_11 (by decide) ?_
      exact hk_ireturn rfl (rfl) dX9_isBetween_15 (⟨_, rfl, by unfold cs_bw; first | (rw [if_pos z2]; rfl) | (rw [if_neg z2, if_pos z7]; rfl) | (rw [if_neg z2, if_neg z7]; rfl), rfl⟩)
theorem hm_v31lt {j : Nat} (ok : hm_ok G S M A c nc nb) (hj : j < nc) : j < vN (S.1 31 0) := by rw [hm_v31 ok]; exact hj
theorem hm_v31le (ok : hm_ok G S M A c nc nb) : vN (S.1 31 0) ≤ 90 := by rw [hm_v31 ok]; exact ok.2.1.2
theorem hm_v32lt {j : Nat} (ok : hm_ok G S M A c nc nb) (hj : j < nb) : j < vN (S.1 32 0) := by rw [hm_v32 ok]; exact hj
theorem hm_v32le (ok : hm_ok G S M A c nc nb) : vN (S.1 32 0) ≤ 12 := by rw [hm_v32 ok]; exact ok.2.2.1.2
theorem hm_mt_mt {M : hm_M} {a b : Int32} : hm_mt (hm_mt M a) b = hm_mt M b := by
  unfold hm_mt ha_up
  refine Prod.ext (funext fun j => ?_) rfl
  show (if j = 0 then b else (if j = 0 then a else M.1 j)) = if j = 0 then b else M.1 j
  by_cases e : j = 0
  · rw [if_pos e, if_pos e]
  · rw [if_neg e, if_neg e, if_neg e]
theorem cm_isWrong {k : Nat} (hfl : l.stackTraces = false) (hkk : k < 2 ^ 31) (hk : ha_ok (hm_D S M) A g) : hk_Ctr G l 1 yX9_isWrong cX9_isWrong 2 (some .boolean) 0 0 [.ref (A 0), .int (nI k)] (hm_h G S M A g) (hk_qi fun v h1 => v = cx_b (decide (0 < k)) ∧ h1 = hm_h G S (hm_mt M (nI k)) A g) hk_no := by
  refine hk_enter (by decide) hfl (Nat.le_of_ble_eq_true rfl) rfl ?_
  refine hk_aload_n dX9_isWrong_0 rfl rfl rfl ?_
  refine hk_iload_n dX9_isWrong_1 rfl rfl rfl ?_
  refine hk_putf dX9_isWrong_2 rfl (fw_X9_1 rfl) (hm_g0 hk) rfl rfl (Nat.lt_of_lt_of_eq (by decide : 0 < 11) rfl) ?_
  refine hx_cg (hm_vt hk) ?_
  refine hk_iload_n dX9_isWrong_5 rfl rfl rfl ?_
  refine cx_ifn_le (tgt := 13) (by omega) dX9_isWrong_6 (by decide) rfl (fun z6 => ?_) (fun z6 => ?_)
  · skip
    refine hk_iconst (v := nI 0) dX9_isWrong_13 rfl (by decide) ?_
    exact hk_ireturn rfl (rfl) dX9_isWrong_14 (⟨_, rfl, by first | (rw [decide_eq_true (by omega)]; rfl) | (rw [decide_eq_false (by omega)]; rfl), rfl⟩)
  · skip
    refine hk_iconst (v := nI 1) dX9_isWrong_9 rfl (by decide) ?_
    refine hk_goto (tgt := 14) dX9_isWrong_10 (by decide) ?_
    exact hk_ireturn rfl (rfl) dX9_isWrong_14 (⟨_, rfl, by first | (rw [decide_eq_true (by omega)]; rfl) | (rw [decide_eq_false (by omega)]; rfl), rfl⟩)
theorem cm_isHouse {v0 : Int32} (hfl : l.stackTraces = false) (hk : ha_ok (hm_D S M) A g) (ok : hm_ok G S M A c nc nb) : hk_Ctr G l 3 yX9_isHouse cX9_isHouse 2 (some .boolean) 0 0 [.ref (A 0), .int v0] (hm_h G S M A g) (hk_qi fun v h1 => v = cx_b (cs_ih c v0) ∧ h1 = hm_h G S M A g) hk_no := by
  have hc1 := ok.1.2.1
  have hc := ok.1.2.2
  have hnc := ok.2.1.2
  have hnb := ok.2.2.1.2
  refine hk_enter (by decide) hfl (Nat.le_of_ble_eq_true rfl) rfl ?_
  refine hk_iload_n dX9_isHouse_0 rfl rfl rfl ?_
  refine hk_iconst (v := nI 0) dX9_isHouse_1 rfl (by decide) ?_
  refine hk_aload_n dX9_isHouse_2 rfl rfl rfl ?_
  refine hk_getf dX9_isHouse_3 rfl fl_X9_16 (hm_g0 hk) rfl ?_
  refine hk_callF dX9_isHouse_6 rfl mf_X9_56 (cj_size hfl (hm_l0 hk ok)) rfl rfl (hm_l0 hk ok) rfl rfl (by decide) ⟨Nat.zero_le _, Nat.zero_le _⟩ (Nat.le_of_ble_eq_true rfl) (hk_ki fun v h1 q => ?_) hk_nx
  obtain ⟨rfl, rfl⟩ := q
  refine hk_iconst (v := nI 1) dX9_isHouse_11 rfl (by decide) ?_
  refine hk_isub dX9_isHouse_12 rfl ?_
  refine hk_callS dX9_isHouse_13 rfl ms_X9_60 (cm_isBetween hfl) rfl rfl (by decide) ⟨Nat.zero_le _, Nat.zero_le _⟩ (Nat.le_of_ble_eq_true rfl) (hk_ki fun v h1 q => ?_) hk_nx
  obtain ⟨rfl, rfl⟩ := q
  exact hk_ireturn rfl (cx_b_nar _) dX9_isHouse_16 (⟨_, rfl, congrArg cx_b (cs_bwH (by omega) _), rfl⟩)
theorem cm_isCoin {v0 : Int32} (hfl : l.stackTraces = false) (hk : ha_ok (hm_D S M) A g) (ok : hm_ok G S M A c nc nb) : hk_Ctr G l 3 yX9_isCoin cX9_isCoin 2 (some .boolean) 0 0 [.ref (A 0), .int v0] (hm_h G S M A g) (hk_qi fun v h1 => v = cx_b (cs_ih nc v0) ∧ h1 = hm_h G S M A g) hk_no := by
  have hc1 := ok.1.2.1
  have hc := ok.1.2.2
  have hnc := ok.2.1.2
  have hnb := ok.2.2.1.2
  refine hk_enter (by decide) hfl (Nat.le_of_ble_eq_true rfl) rfl ?_
  refine hk_iload_n dX9_isCoin_0 rfl rfl rfl ?_
  refine hk_iconst (v := nI 0) dX9_isCoin_1 rfl (by decide) ?_
  refine hk_aload_n dX9_isCoin_2 rfl rfl rfl ?_
  refine hk_getf dX9_isCoin_3 rfl fl_X9_32 (hm_g0 hk) rfl ?_
  refine hk_callF dX9_isCoin_6 rfl mf_X9_56 (cj_size hfl (hm_l1 hk ok)) rfl rfl (hm_l1 hk ok) rfl rfl (by decide) ⟨Nat.zero_le _, Nat.zero_le _⟩ (Nat.le_of_ble_eq_true rfl) (hk_ki fun v h1 q => ?_) hk_nx
  obtain ⟨rfl, rfl⟩ := q
  refine hk_iconst (v := nI 1) dX9_isCoin_11 rfl (by decide) ?_
  refine hk_isub dX9_isCoin_12 rfl ?_
  refine hk_callS dX9_isCoin_13 rfl ms_X9_60 (cm_isBetween hfl) rfl rfl (by decide) ⟨Nat.zero_le _, Nat.zero_le _⟩ (Nat.le_of_ble_eq_true rfl) (hk_ki fun v h1 q => ?_) hk_nx
  obtain ⟨rfl, rfl⟩ := q
  exact hk_ireturn rfl (cx_b_nar _) dX9_isCoin_16 (⟨_, rfl, congrArg cx_b (cs_bwH (by omega) _), rfl⟩)
theorem cm_isBill {v0 : Int32} (hfl : l.stackTraces = false) (hk : ha_ok (hm_D S M) A g) (ok : hm_ok G S M A c nc nb) : hk_Ctr G l 3 yX9_isBill cX9_isBill 2 (some .boolean) 0 0 [.ref (A 0), .int v0] (hm_h G S M A g) (hk_qi fun v h1 => v = cx_b (cs_ih nb v0) ∧ h1 = hm_h G S M A g) hk_no := by
  have hc1 := ok.1.2.1
  have hc := ok.1.2.2
  have hnc := ok.2.1.2
  have hnb := ok.2.2.1.2
  refine hk_enter (by decide) hfl (Nat.le_of_ble_eq_true rfl) rfl ?_
  refine hk_iload_n dX9_isBill_0 rfl rfl rfl ?_
  refine hk_iconst (v := nI 0) dX9_isBill_1 rfl (by decide) ?_
  refine hk_aload_n dX9_isBill_2 rfl rfl rfl ?_
  refine hk_getf dX9_isBill_3 rfl fl_X9_38 (hm_g0 hk) rfl ?_
  refine hk_callF dX9_isBill_6 rfl mf_X9_56 (cj_size hfl (hm_l2 hk ok)) rfl rfl (hm_l2 hk ok) rfl rfl (by decide) ⟨Nat.zero_le _, Nat.zero_le _⟩ (Nat.le_of_ble_eq_true rfl) (hk_ki fun v h1 q => ?_) hk_nx
  obtain ⟨rfl, rfl⟩ := q
  refine hk_iconst (v := nI 1) dX9_isBill_11 rfl (by decide) ?_
  refine hk_isub dX9_isBill_12 rfl ?_
  refine hk_callS dX9_isBill_13 rfl ms_X9_60 (cm_isBetween hfl) rfl rfl (by decide) ⟨Nat.zero_le _, Nat.zero_le _⟩ (Nat.le_of_ble_eq_true rfl) (hk_ki fun v h1 q => ?_) hk_nx
  obtain ⟨rfl, rfl⟩ := q
  exact hk_ireturn rfl (cx_b_nar _) dX9_isBill_16 (⟨_, rfl, congrArg cx_b (cs_bwH (by omega) _), rfl⟩)
theorem cm_hasFailed {a : Nat} (hfl : l.stackTraces = false) (hk : ha_ok (hm_D S M) A g) (ok : hm_ok G S M A c nc nb) (ha : a < c) : hk_Ctr G l 5 yX9_hasFailed cX9_hasFailed 2 (some .boolean) 0 0 [.ref (A 0), .int (nI a)] (hm_h G S M A g) (hk_qi fun v h1 => v = cx_b (cs_fl S a) ∧ h1 = hm_h G S M A g) hk_no := by
  have hc1 := ok.1.2.1
  have hc := ok.1.2.2
  have hnc := ok.2.1.2
  have hnb := ok.2.2.1.2
  refine hk_enter (by decide) hfl (Nat.le_of_ble_eq_true rfl) rfl ?_
  refine hk_aload_n dX9_hasFailed_0 rfl rfl rfl ?_
  refine hk_getf dX9_hasFailed_1 rfl fl_X9_16 (hm_g0 hk) rfl ?_
  refine hk_iload_n dX9_hasFailed_4 rfl rfl rfl ?_
  refine hk_callF dX9_hasFailed_5 rfl mf_X9_64 (cj_get hfl (hm_l0 hk ok) (hm_r (i := 0) hk ok (by omega) ok.2.2.2.2.1.1) (by omega) (by rw [← hm_n0 ok]; exact (hm_cap ok ok.2.2.2.2.1.1).1) (Nat.lt_of_le_of_lt (hm_cap ok ok.2.2.2.2.1.1).2.2 (by decide)) (hm_kg ok (by omega))) rfl rfl (hm_l0 hk ok) rfl rfl (by decide) ⟨Nat.zero_le _, Nat.zero_le _⟩ (Nat.le_of_ble_eq_true rfl) (hk_kr fun v h1 q => ?_) hk_nx
  obtain ⟨rfl, rfl⟩ := q
  refine hk_castJ dX9_hasFailed_10 rfl (fun U H z => (z.2.1.2.2 _ (hm_kl ok (by omega))).1) kl_X9_45 ?_
  refine hk_callJ dX9_hasFailed_13 rfl mv_X9_68 (cj_cc hfl (hm_kl ok (by omega))) rfl rfl (fun U H z => (z.2.1.2.2 _ (hm_kl ok (by omega))).1) (by decide) ⟨Nat.zero_le _, Nat.zero_le _⟩ (Nat.le_of_ble_eq_true rfl) (hk_ki fun v h1 q => ?_) hk_nx
  obtain ⟨rfl, rfl⟩ := q
  have hkl := hm_kl ok ha
  have hki := hm_ki ok ha
  refine hk_bipush (v := nI 120) dX9_hasFailed_16 rfl (by decide) ?_
  refine cx_icmp_ne (tgt := 25) (by omega) (by omega) dX9_hasFailed_18 (by decide) rfl (fun z18 => ?_) (fun z18 => ?_)
  · skip
    refine hk_iconst (v := nI 0) dX9_hasFailed_25 rfl (by decide) ?_
    exact hk_ireturn rfl (rfl) dX9_hasFailed_26 (⟨_, rfl, by unfold cs_fl cd_O; first | (rw [if_pos (hki.mp z18)]; rfl) | (rw [if_neg (fun q => z18 (hki.mpr q))]; rfl), rfl⟩)
  · skip
    refine hk_iconst (v := nI 1) dX9_hasFailed_21 rfl (by decide) ?_
    refine hk_goto (tgt := 26) dX9_hasFailed_22 (by decide) ?_
    exact hk_ireturn rfl (rfl) dX9_hasFailed_26 (⟨_, rfl, by unfold cs_fl cd_O; first | (rw [if_pos (hki.mp z18)]; rfl) | (rw [if_neg (fun q => z18 (hki.mpr q))]; rfl), rfl⟩)
theorem cm_wasBank {a : Nat} (hfl : l.stackTraces = false) (hk : ha_ok (hm_D S M) A g) (ok : hm_ok G S M A c nc nb) (ha : a < c) : hk_Ctr G l 6 yX9_wasBank cX9_wasBank 2 (some .boolean) 0 0 [.ref (A 0), .int (nI a)] (hm_h G S M A g) (hk_qi fun v h1 => v = cx_b (cs_fl S a) ∧ h1 = hm_h G S M A g) hk_no := by
  have hc1 := ok.1.2.1
  have hc := ok.1.2.2
  have hnc := ok.2.1.2
  have hnb := ok.2.2.1.2
  refine hk_enter (by decide) hfl (Nat.le_of_ble_eq_true rfl) rfl ?_
  refine hk_aload_n dX9_wasBank_0 rfl rfl rfl ?_
  refine hk_iload_n dX9_wasBank_1 rfl rfl rfl ?_
  refine hk_callV dX9_wasBank_2 rfl mv_X9_91 (cm_hasFailed hfl hk ok (by omega)) rfl rfl (hm_g0 hk) rfl rfl (by decide) ⟨Nat.zero_le _, Nat.zero_le _⟩ (Nat.le_of_ble_eq_true rfl) (hk_ki fun v h1 q => ?_) hk_nx
  obtain ⟨rfl, rfl⟩ := q
  exact hk_ireturn rfl (cx_b_nar _) dX9_wasBank_5 (⟨_, rfl, rfl, rfl⟩)
theorem cm_isMetal {v0 : Int32} {h : hk_H} (hfl : l.stackTraces = false) : hk_Ctr G l 5 yX9_isMetal cX9_isMetal 1 (some .boolean) 0 0 [.int v0] h (hk_qi fun v h1 => v = cx_b (cs_im v0) ∧ h1 = h) hk_no := by
  refine hk_enter (by decide) hfl (Nat.le_of_ble_eq_true rfl) rfl ?_
  refine hk_ldcS rfl dX9_isMetal_0 rfl ?_
  refine hk_iload_n dX9_isMetal_2 rfl rfl rfl ?_
  refine hk_callJ dX9_isMetal_3 rfl mv_X9_74 (cj_io hfl) rfl rfl (fun U H z => z.2.2.2.1.2.2.1) (by decide) ⟨Nat.zero_le _, Nat.zero_le _⟩ (Nat.le_of_ble_eq_true rfl) (hk_ki fun v h1 q => ?_) hk_nx
  obtain ⟨rfl, rfl⟩ := q
  refine hk_if_lt (tgt := 13) dX9_isMetal_6 (by decide) rfl (fun z6 => ?_) (fun z6 => ?_)
  · skip
    refine hk_iconst (v := nI 0) dX9_isMetal_13 rfl (by decide) ?_
    exact hk_ireturn rfl (rfl) dX9_isMetal_14 (⟨_, rfl, by unfold cs_im; first | (rw [decide_eq_true ((cs_imx v0).mp (Int32.not_lt.mp z6))]; rfl) | (rw [decide_eq_false (fun q => absurd z6 (Int32.not_lt.mpr ((cs_imx v0).mpr q)))]; rfl), rfl⟩)
  · skip
    refine hk_iconst (v := nI 1) dX9_isMetal_9 rfl (by decide) ?_
    refine hk_goto (tgt := 14) dX9_isMetal_10 (by decide) ?_
    exact hk_ireturn rfl (rfl) dX9_isMetal_14 (⟨_, rfl, by unfold cs_im; first | (rw [decide_eq_true ((cs_imx v0).mp (Int32.not_lt.mp z6))]; rfl) | (rw [decide_eq_false (fun q => absurd z6 (Int32.not_lt.mpr ((cs_imx v0).mpr q)))]; rfl), rfl⟩)
theorem cm_isMelted {j : Nat} (hfl : l.stackTraces = false) (hk : ha_ok (hm_D S M) A g) (ok : hm_ok G S M A c nc nb) (hj : j < nc) : hk_Ctr G l 5 yX9_isMelted cX9_isMelted 2 (some .boolean) 0 0 [.ref (A 0), .int (nI j)] (hm_h G S M A g) (hk_qi fun v h1 => v = cx_b (decide (S.1 14 j = 0)) ∧ h1 = hm_h G S M A g) hk_no := by
  have hc1 := ok.1.2.1
  have hc := ok.1.2.2
  have hnc := ok.2.1.2
  have hnb := ok.2.2.1.2
  refine hk_enter (by decide) hfl (Nat.le_of_ble_eq_true rfl) rfl ?_
  refine hk_aload_n dX9_isMelted_0 rfl rfl rfl ?_
  refine hk_getf dX9_isMelted_1 rfl fl_X9_32 (hm_g0 hk) rfl ?_
  refine hk_iload_n dX9_isMelted_4 rfl rfl rfl ?_
  have hg5 := hm_c1g (j := j) ok (by omega)
  refine hk_callF dX9_isMelted_5 rfl mf_X9_64 (cj_get hfl (hm_l1 hk ok) (hm_r (i := 1) hk ok (by omega) hg5.1) (by omega) (by rw [← hm_n1 ok]; exact (hm_cap ok hg5.1).1) (Nat.lt_of_le_of_lt (hm_cap ok hg5.1).2.2 (by decide)) hg5.2) rfl rfl (hm_l1 hk ok) rfl rfl (by decide) ⟨Nat.zero_le _, Nat.zero_le _⟩ (Nat.le_of_ble_eq_true rfl) (hk_kr fun v h1 q => ?_) hk_nx
  obtain ⟨rfl, rfl⟩ := q
  refine hk_castO dX9_isMelted_10 rfl (hm_coi hk ok (by omega)) rfl kl_X9_94 ?_
  refine hk_getf dX9_isMelted_13 rfl fl_X9_103 (hm_coi hk ok (by omega)) rfl ?_
  refine hk_if_ne (tgt := 23) dX9_isMelted_16 (by decide) rfl (fun z16 => ?_) (fun z16 => ?_)
  · skip
    refine hk_iconst (v := nI 0) dX9_isMelted_23 rfl (by decide) ?_
    exact hk_ireturn rfl (rfl) dX9_isMelted_24 (⟨_, rfl, by first | (rw [decide_eq_true z16]; rfl) | (rw [decide_eq_false z16]; rfl), rfl⟩)
  · skip
    refine hk_iconst (v := nI 1) dX9_isMelted_19 rfl (by decide) ?_
    refine hk_goto (tgt := 24) dX9_isMelted_20 (by decide) ?_
    exact hk_ireturn rfl (rfl) dX9_isMelted_24 (⟨_, rfl, by first | (rw [decide_eq_true z16]; rfl) | (rw [decide_eq_false z16]; rfl), rfl⟩)
end CM1

def hm_it (M : hm_M) (A : Nat → Nat) (j : Nat) (lr : Int32) : hk_E := .inr (5, [.int (nI j), .int lr, .int (M.1 11), .ref (A 31)])
theorem hm_sgI {G : hk_G} {S : hs_S} {M : hm_M} {A : Nat → Nat} {g : hk_H} {q : Nat} {x y : hk_E} (hk : ha_ok (hm_D S M) A (hk_set g q x)) : hk_set (hm_h G S M A (hk_set g q x)) q y = hm_h G S M A (hk_set g q y) := by
  rw [(hm_sg (x := y) hk hk_set_eq).2, hk_set_set]
section CM7
variable {G : hk_G} {l : Launch} {S : hs_S} {c nc nb m : Nat} {thr : Int32} {g h : hk_H}
theorem cm_coins {v mt : Int32} (hfl : l.stackTraces = false) (hw : hm_Wd G m S c nc nb thr g h) : hk_Ctr G l 9 yX9_coins cX9_coins 6 (some .int) 1 4 [.ref m, .int v, .int mt] h (hk_qi fun rv h1 => ml_Q G m (ml_tr [1, 2] (cd_HM c v mt)) S c nc nb (S) (c) (nc) (nb) g (rv = nI (cs_owned S (vN v) (cs_m mt) nc)) h1) hk_no := by
  obtain ⟨A, M, rfl, rfl, ok, hk, rfl⟩ := hw
  have hc1 := ok.1.2.1
  have hc := ok.1.2.2
  have hnc := ok.2.1.2
  have hnb := ok.2.2.1.2
  refine hk_enter (by decide) hfl (Nat.le_of_ble_eq_true rfl) rfl ?_
  refine hk_aload_n dX9_coins_0 rfl rfl rfl ?_
  refine hk_aload_n dX9_coins_1 rfl rfl rfl ?_
  refine hk_iload_n dX9_coins_2 rfl rfl rfl ?_
  refine hk_callV dX9_coins_3 rfl mv_X9_84 (cm_isHouse hfl hk ok) rfl rfl (hm_g0 hk) rfl rfl (by decide) ⟨Nat.zero_le _, Nat.zero_le _⟩ (Nat.le_of_ble_eq_true rfl) (hk_ki fun v h1 q => ?_) hk_nx
  obtain ⟨rfl, rfl⟩ := q
  refine cx_ifb_ne (tgt := 13) dX9_coins_6 (by decide) rfl (fun z6 => ?_) (fun z6 => ?_)
  · have f6 : cd_H c v = 0 := of_decide_eq_true z6
    obtain ⟨a, ha, rfl⟩ := cd_H_of (by omega) f6
    have vaa : vN (nI a) = a := vN_nI (by omega)
    refine hk_iload_n dX9_coins_13 rfl rfl rfl ?_
    refine hk_callS dX9_coins_14 rfl ms_X9_87 (cm_isMetal hfl) rfl rfl (by decide) ⟨Nat.zero_le _, Nat.zero_le _⟩ (Nat.le_of_ble_eq_true rfl) (hk_ki fun v h1 q => ?_) hk_nx
    obtain ⟨rfl, rfl⟩ := q
    refine cx_ifb_ne (tgt := 24) dX9_coins_17 (by decide) rfl (fun z17 => ?_) (fun z17 => ?_)
    · have f17 : cd_M mt = 0 := of_decide_eq_true z17
      refine hk_iconst (v := nI 0) dX9_coins_24 rfl (by decide) ?_
      refine hk_callV dX9_coins_25 rfl mv_X9_80 (cm_isWrong (k := 0) hfl (by decide) hk) rfl rfl (hm_g0 hk) rfl rfl (by decide) ⟨Nat.zero_le _, Nat.zero_le _⟩ (Nat.le_of_ble_eq_true rfl) (hk_ki fun v h1 q => ?_) hk_nx
      obtain ⟨rfl, rfl⟩ := q
      try rw [hm_mt_mt]
      refine cx_ifb_eq (tgt := 33) dX9_coins_28 (by decide) rfl (fun z28 => ?_) (fun z28 => ?_)
      · skip
        obtain ⟨M1, hM1, e01, ok1, hk1⟩ : ∃ M1 : hm_M, M1 = hm_mt M (nI 0) ∧ M1.1 0 = nI 0 ∧ hm_ok G S M1 A c nc nb ∧ ha_ok (hm_D S M1) A g := ⟨_, rfl, hm_mt0, ok, hk⟩
        rw [← hM1]
        refine hk_iconst (v := nI 0) dX9_coins_33 rfl (by decide) ?_
        refine hk_istore_n dX9_coins_34 rfl rfl (by decide) rfl ?_
        refine hk_aload_n dX9_coins_35 rfl rfl rfl ?_
        refine hk_getf dX9_coins_36 rfl fl_X9_32 (hm_g0 hk1) rfl ?_
        refine hk_callF dX9_coins_39 rfl mf_X9_122 (cj_iter hfl (hm_l1 hk1 ok1)) rfl rfl (hm_l1 hk1 ok1) rfl rfl (by decide) ⟨by omega, by omega⟩ (Nat.le_of_ble_eq_true rfl) (hk_kr fun it h1 q1 => ?_) hk_nx
        obtain ⟨hit, rfl⟩ := q1
        have hkI := fun x => (hm_okg (x := x) hk1 hit).1
        have hxI := fun x => (hm_okg (x := x) hk1 hit).2.2
        refine hx_cg (hm_okg hk1 hit).2.1 ?_
        refine hk_astore dX9_coins_44 rfl (by decide) rfl ?_
        have lp46 : ∀ f j : Nat, ∀ lr : Int32, ∀ lvF : Option Value, j ≤ nc → nc - j < f → hk_W G l 9 yX9_coins cX9_coins 6 (some .int) [] (hk_qi fun rv h1 => ml_Q G (A 0) (ml_tr [1, 2] (cd_HM c (nI a) mt)) S c nc nb (S) (c) (nc) (nb) g (rv = nI (cs_owned S (vN (nI a)) (cs_m mt) nc)) h1) hk_no 0 0 (hm_h G (S) M1 A (hk_set g it (hm_it M1 A j lr))) 46 [some (.ref (A 0)), some (.int (nI a)), some (.int mt), some (.int (nI (cs_owned S a (cs_m mt) j))), some (.ref it), lvF] [] := by
          intro f
          induction f with
          | zero => intro j lr lvF hj hf; exact absurd hf (by omega)
          | succ f ih =>
            intro j lr lvF hj hf
            refine hk_aload dX9_coins_46 rfl rfl ?_
            refine hk_callF dX9_coins_48 rfl mf_X9_126 (cj_hasNext hfl (hm_gnd (hkI _) hk_set_eq) (hm_l1 (hkI _) ok1) hj (by omega)) rfl rfl (hm_gnd (hkI _) hk_set_eq) rfl rfl (by decide) ⟨Nat.zero_le _, Nat.zero_le _⟩ (Nat.le_of_ble_eq_true rfl) (hk_ki fun v h1 q => ?_) hk_nx
            obtain ⟨rfl, rfl⟩ := q
            refine cx_ifb_eq (tgt := 102) dX9_coins_53 (by decide) rfl (fun z53 => ?_) (fun z53 => ?_)
            · skip
              refine hk_iload_n dX9_coins_102 rfl rfl rfl ?_
              exact hk_ireturn rfl (rfl) dX9_coins_103 (by have ez : cd_HM c (nI a) mt = 0 := (by simp [cd_HM, cs_sq, f6, vaa, f17]); have ej : j = nc := (by have := of_decide_eq_false z53; omega); subst ej; (try simp only [vaa]); exact ⟨_, rfl, _, hxI _, Or.inl ⟨by rw [ez]; rfl, rfl, A, M1, rfl, e01, ok1, hkI _, rfl⟩⟩)
            · skip
              refine hk_aload dX9_coins_56 rfl rfl ?_
              have hjn : j < nc := of_decide_eq_true z53
              have hgj := hm_c1g (j := j) ok1 hjn
              refine hk_callF dX9_coins_58 rfl mf_X9_132 (cj_next hfl (hm_gnd (hkI _) hk_set_eq) (hm_l1 (hkI _) ok1) (hm_r (i := 1) (hkI _) ok1 (by omega) hgj.1) hjn (by rw [← hm_n1 ok1]; exact (hm_cap ok1 hgj.1).1) (Nat.lt_of_le_of_lt (hm_cap ok1 hgj.1).2.2 (by decide)) hgj.2) rfl rfl (hm_gnd (hkI _) hk_set_eq) rfl rfl (by decide) ⟨Nat.zero_le _, Nat.zero_le _⟩ (Nat.le_of_ble_eq_true rfl) (hk_kr fun v h1 q => ?_) hk_nx
              obtain ⟨rfl, rfl⟩ := q
              refine hx_cg (hm_sgI (hkI _)) ?_
              refine hk_castO dX9_coins_63 rfl (hm_coi (hkI _) ok1 (by omega)) rfl kl_X9_94 ?_
              refine hk_astore dX9_coins_66 rfl (by decide) rfl ?_
              refine hk_iload_n dX9_coins_68 rfl rfl rfl ?_
              refine hk_aload dX9_coins_69 rfl rfl ?_
              refine hk_getf dX9_coins_71 rfl fl_X9_112 (hm_coi (hkI _) ok1 (by omega)) rfl ?_
              refine hk_iload_n dX9_coins_74 rfl rfl rfl ?_
              refine hk_icmp_ne (tgt := 96) dX9_coins_75 (by decide) rfl (fun z75 => ?_) (fun z75 => ?_)
              · skip
                refine hk_iconst (v := nI 0) dX9_coins_96 rfl (by decide) ?_
                refine hk_iadd dX9_coins_97 rfl ?_
                refine cx_top (nI_add _ _) ?_
                refine hk_istore_n dX9_coins_98 rfl rfl (by decide) rfl ?_
                refine hk_goto (tgt := 46) dX9_coins_99 (by decide) ?_
                first | rw [show nI (cs_owned S a (cs_m mt) j + 1) = nI (cs_owned S a (cs_m mt) (j + 1)) from by rw [cs_owned_s, if_pos z75, if_pos z89]] | rw [show nI (cs_owned S a (cs_m mt) j + 0) = nI (cs_owned S a (cs_m mt) (j + 1)) from by rw [cs_owned_s, if_pos z75, if_neg z89]; rfl] | rw [show nI (cs_owned S a (cs_m mt) j + 0) = nI (cs_owned S a (cs_m mt) (j + 1)) from by rw [cs_owned_s, if_neg z75]; rfl]
                exact ih (j + 1) (nI j) _ (by omega) (by omega)
              · skip
                refine hk_aload dX9_coins_78 rfl rfl ?_
                refine hk_getf dX9_coins_80 rfl fl_X9_115 (hm_coi (hkI _) ok1 (by omega)) rfl ?_
                refine hk_ldcS rfl dX9_coins_83 rfl ?_
                refine hk_iload_n dX9_coins_85 rfl rfl rfl ?_
                refine hk_callJ dX9_coins_86 rfl mv_X9_74 (cj_io hfl) rfl rfl (fun U H z => z.2.2.2.1.2.2.1) (by decide) ⟨Nat.zero_le _, Nat.zero_le _⟩ (Nat.le_of_ble_eq_true rfl) (hk_ki fun v h1 q => ?_) hk_nx
                obtain ⟨rfl, rfl⟩ := q
                refine cx_top (cs_ixm f17) ?_
                refine hk_icmp_ne (tgt := 96) dX9_coins_89 (by decide) rfl (fun z89 => ?_) (fun z89 => ?_)
                · skip
                  refine hk_iconst (v := nI 0) dX9_coins_96 rfl (by decide) ?_
                  refine hk_iadd dX9_coins_97 rfl ?_
                  refine cx_top (nI_add _ _) ?_
                  refine hk_istore_n dX9_coins_98 rfl rfl (by decide) rfl ?_
                  refine hk_goto (tgt := 46) dX9_coins_99 (by decide) ?_
                  first | rw [show nI (cs_owned S a (cs_m mt) j + 1) = nI (cs_owned S a (cs_m mt) (j + 1)) from by rw [cs_owned_s, if_pos z75, if_pos z89]] | rw [show nI (cs_owned S a (cs_m mt) j + 0) = nI (cs_owned S a (cs_m mt) (j + 1)) from by rw [cs_owned_s, if_pos z75, if_neg z89]; rfl] | rw [show nI (cs_owned S a (cs_m mt) j + 0) = nI (cs_owned S a (cs_m mt) (j + 1)) from by rw [cs_owned_s, if_neg z75]; rfl]
                  exact ih (j + 1) (nI j) _ (by omega) (by omega)
                · skip
                  refine hk_iconst (v := nI 1) dX9_coins_92 rfl (by decide) ?_
                  refine hk_goto (tgt := 97) dX9_coins_93 (by decide) ?_
                  refine hk_iadd dX9_coins_97 rfl ?_
                  refine cx_top (nI_add _ _) ?_
                  refine hk_istore_n dX9_coins_98 rfl rfl (by decide) rfl ?_
                  refine hk_goto (tgt := 46) dX9_coins_99 (by decide) ?_
                  first | rw [show nI (cs_owned S a (cs_m mt) j + 1) = nI (cs_owned S a (cs_m mt) (j + 1)) from by rw [cs_owned_s, if_pos z75, if_pos z89]] | rw [show nI (cs_owned S a (cs_m mt) j + 0) = nI (cs_owned S a (cs_m mt) (j + 1)) from by rw [cs_owned_s, if_pos z75, if_neg z89]; rfl] | rw [show nI (cs_owned S a (cs_m mt) j + 0) = nI (cs_owned S a (cs_m mt) (j + 1)) from by rw [cs_owned_s, if_neg z75]; rfl]
                  exact ih (j + 1) (nI j) _ (by omega) (by omega)
        exact lp46 (nc + 1) 0 (-1) _ (by omega) (by omega)
      · exact absurd z28 (by decide)
    · have f17 : cd_M mt = 2 := cd_M_2 (of_decide_eq_false z17)
      refine hk_iconst (v := nI 2) dX9_coins_20 rfl (by decide) ?_
      refine hk_goto (tgt := 25) dX9_coins_21 (by decide) ?_
      refine hk_callV dX9_coins_25 rfl mv_X9_80 (cm_isWrong (k := 2) hfl (by decide) hk) rfl rfl (hm_g0 hk) rfl rfl (by decide) ⟨Nat.zero_le _, Nat.zero_le _⟩ (Nat.le_of_ble_eq_true rfl) (hk_ki fun v h1 q => ?_) hk_nx
      obtain ⟨rfl, rfl⟩ := q
      try rw [hm_mt_mt]
      refine cx_ifb_eq (tgt := 33) dX9_coins_28 (by decide) rfl (fun z28 => ?_) (fun z28 => ?_)
      · exact absurd z28 (by decide)
      · skip
        refine hk_iconst (v := nI 0) dX9_coins_31 rfl (by decide) ?_
        exact hk_ireturn rfl (rfl) dX9_coins_32 (by have e : cd_HM c (nI a) mt = 2 := (by simp [cd_HM, cs_sq, f6, vaa, f17]); exact ⟨_, rfl, g, hm_x.rf, Or.inr ⟨by rw [e]; decide, A, hm_mt M (nI 2), rfl, by rw [e]; exact hm_mt0, ok, hk, rfl⟩⟩)
  · have f6 : cd_H c v = 1 := cd_H_1 (of_decide_eq_false z6)
    refine hk_iconst (v := nI 1) dX9_coins_9 rfl (by decide) ?_
    refine hk_goto (tgt := 25) dX9_coins_10 (by decide) ?_
    refine hk_callV dX9_coins_25 rfl mv_X9_80 (cm_isWrong (k := 1) hfl (by decide) hk) rfl rfl (hm_g0 hk) rfl rfl (by decide) ⟨Nat.zero_le _, Nat.zero_le _⟩ (Nat.le_of_ble_eq_true rfl) (hk_ki fun v h1 q => ?_) hk_nx
    obtain ⟨rfl, rfl⟩ := q
    try rw [hm_mt_mt]
    refine cx_ifb_eq (tgt := 33) dX9_coins_28 (by decide) rfl (fun z28 => ?_) (fun z28 => ?_)
    · exact absurd z28 (by decide)
    · skip
      refine hk_iconst (v := nI 0) dX9_coins_31 rfl (by decide) ?_
      exact hk_ireturn rfl (rfl) dX9_coins_32 (by have e : cd_HM c v mt = 1 := (by simp [cd_HM, cs_sq, f6]); exact ⟨_, rfl, g, hm_x.rf, Or.inr ⟨by rw [e]; decide, A, hm_mt M (nI 1), rfl, by rw [e]; exact hm_mt0, ok, hk, rfl⟩⟩)
def hs_wl (S : hs_S) (a n : Nat) : Int64 := cx_it (fun j v => v + (if S.1 15 j = nI a then (S.1 9 (vN (S.1 13 j))).toInt64 else 0)) 0 n
theorem hs_wl_s (S : hs_S) (a j : Nat) : hs_wl S a (j + 1) = hs_wl S a j + (if S.1 15 j = nI a then (S.1 9 (vN (S.1 13 j))).toInt64 else 0) := rfl
def hs_wm (S : hs_S) (a nc n : Nat) : Int64 := cx_it (fun j v => v + ((S.1 19 (a * 6 + j)).toInt64 - (S.1 19 (j * 6 + a)).toInt64)) (hs_wl S a nc) n
theorem hs_wm_s (S : hs_S) (a nc j : Nat) : hs_wm S a nc (j + 1) = hs_wm S a nc j + ((S.1 19 (a * 6 + j)).toInt64 - (S.1 19 (j * 6 + a)).toInt64) := rfl
theorem cx_lg {G : hk_G} {l : Launch} {d : Nat} {y : MethodName} {b : ByteArray} {nL : Nat} {ret : Option FieldType} {hh : List (Nat × Nat × Nat × Nat)} {Q : Option Value → hk_H → Prop} {X : String → hk_H → Prop} {k n : Nat} {h : hk_H} {pc : Nat} {lv lv' : List (Option Value)} {st : List Value} (e2 : lv = lv') (kk : hk_W G l d y b nL ret hh Q X k n h pc lv' st) : hk_W G l d y b nL ret hh Q X k n h pc lv st := by subst e2; exact kk
theorem cm_wealth {v : Int32} (hfl : l.stackTraces = false) (hw : hm_Wd G m S c nc nb thr g h) (hC : mi_C S c nc) : hk_Ctr G l 9 yX9_wealth cX9_wealth 6 (some .long) 1 4 [.ref m, .int v] h (hk_ql fun rv h1 => ml_Q G m (ml_tr [1] (cd_H c v)) S c nc nb (S) (c) (nc) (nb) g (rv = hs_wm S (vN v) nc 6) h1) hk_no := by
  obtain ⟨A, M, rfl, rfl, ok, hk, rfl⟩ := hw
  have hc1 := ok.1.2.1
  have hc := ok.1.2.2
  have hnc := ok.2.1.2
  have hnb := ok.2.2.1.2
  refine hk_enter (by decide) hfl (Nat.le_of_ble_eq_true rfl) rfl ?_
  refine hk_aload_n dX9_wealth_0 rfl rfl rfl ?_
  refine hk_aload_n dX9_wealth_1 rfl rfl rfl ?_
  refine hk_iload_n dX9_wealth_2 rfl rfl rfl ?_
  refine hk_callV dX9_wealth_3 rfl mv_X9_84 (cm_isHouse hfl hk ok) rfl rfl (hm_g0 hk) rfl rfl (by decide) ⟨Nat.zero_le _, Nat.zero_le _⟩ (Nat.le_of_ble_eq_true rfl) (hk_ki fun v h1 q => ?_) hk_nx
  obtain ⟨rfl, rfl⟩ := q
  refine cx_ifb_eq (tgt := 13) dX9_wealth_6 (by decide) rfl (fun z6 => ?_) (fun z6 => ?_)
  · have f6 : cd_H c v = 1 := cd_H_1 (of_decide_eq_false z6)
    refine hk_iconst (v := nI 1) dX9_wealth_13 rfl (by decide) ?_
    refine hk_callV dX9_wealth_14 rfl mv_X9_80 (cm_isWrong (k := 1) hfl (by decide) hk) rfl rfl (hm_g0 hk) rfl rfl (by decide) ⟨Nat.zero_le _, Nat.zero_le _⟩ (Nat.le_of_ble_eq_true rfl) (hk_ki fun v h1 q => ?_) hk_nx
    obtain ⟨rfl, rfl⟩ := q
    try rw [hm_mt_mt]
    refine cx_ifb_eq (tgt := 22) dX9_wealth_17 (by decide) rfl (fun z17 => ?_) (fun z17 => ?_)
    · exact absurd z17 (by decide)
    · skip
      refine hk_lconst (v := 0) dX9_wealth_20 rfl (by decide) ?_
      exact hk_lreturn rfl dX9_wealth_21 (by have e : cd_H c v = 1 := f6; exact ⟨_, rfl, g, hm_x.rf, Or.inr ⟨by rw [e]; decide, A, hm_mt M (nI 1), rfl, by rw [e]; exact hm_mt0, ok, hk, rfl⟩⟩)
  · have f6 : cd_H c v = 0 := of_decide_eq_true z6
    obtain ⟨a, ha, rfl⟩ := cd_H_of (by omega) f6
    have vaa : vN (nI a) = a := vN_nI (by omega)
    refine hk_iconst (v := nI 0) dX9_wealth_9 rfl (by decide) ?_
    refine hk_goto (tgt := 14) dX9_wealth_10 (by decide) ?_
    refine hk_callV dX9_wealth_14 rfl mv_X9_80 (cm_isWrong (k := 0) hfl (by decide) hk) rfl rfl (hm_g0 hk) rfl rfl (by decide) ⟨Nat.zero_le _, Nat.zero_le _⟩ (Nat.le_of_ble_eq_true rfl) (hk_ki fun v h1 q => ?_) hk_nx
    obtain ⟨rfl, rfl⟩ := q
    try rw [hm_mt_mt]
    refine cx_ifb_eq (tgt := 22) dX9_wealth_17 (by decide) rfl (fun z17 => ?_) (fun z17 => ?_)
    · skip
      obtain ⟨M1, hM1, e01, ok1, hk1⟩ : ∃ M1 : hm_M, M1 = hm_mt M (nI 0) ∧ M1.1 0 = nI 0 ∧ hm_ok G S M1 A c nc nb ∧ ha_ok (hm_D S M1) A g := ⟨_, rfl, hm_mt0, ok, hk⟩
      rw [← hM1]
      refine hk_lconst (v := 0) dX9_wealth_22 rfl (by decide) ?_
      refine hk_lstore_n dX9_wealth_23 rfl rfl (by decide) rfl ?_
      refine hk_aload_n dX9_wealth_24 rfl rfl rfl ?_
      refine hk_getf dX9_wealth_25 rfl fl_X9_32 (hm_g0 hk1) rfl ?_
      refine hk_callF dX9_wealth_28 rfl mf_X9_122 (cj_iter hfl (hm_l1 hk1 ok1)) rfl rfl (hm_l1 hk1 ok1) rfl rfl (by decide) ⟨by omega, by omega⟩ (Nat.le_of_ble_eq_true rfl) (hk_kr fun it h1 q1 => ?_) hk_nx
      obtain ⟨hit, rfl⟩ := q1
      have hkI := fun x => (hm_okg (x := x) hk1 hit).1
      have hxI := fun x => (hm_okg (x := x) hk1 hit).2.2
      refine hx_cg (hm_okg hk1 hit).2.1 ?_
      refine hk_astore dX9_wealth_33 rfl (by decide) rfl ?_
      have lp35 : ∀ f j : Nat, ∀ lr : Int32, ∀ lvF : Option Value, j ≤ nc → nc - j < f → hk_W G l 9 yX9_wealth cX9_wealth 6 (some .long) [] (hk_ql fun rv h1 => ml_Q G (A 0) (ml_tr [1] (cd_H c (nI a))) S c nc nb (S) (c) (nc) (nb) g (rv = hs_wm S (vN (nI a)) nc 6) h1) hk_no 0 0 (hm_h G (S) M1 A (hk_set g it (hm_it M1 A j lr))) 35 [some (.ref (A 0)), some (.int (nI a)), some (.long (hs_wl S a j)), none, some (.ref it), lvF] [] := by
        intro f
        induction f with
        | zero => intro j lr lvF hj hf; exact absurd hf (by omega)
        | succ f ih =>
          intro j lr lvF hj hf
          refine hk_aload dX9_wealth_35 rfl rfl ?_
          refine hk_callF dX9_wealth_37 rfl mf_X9_126 (cj_hasNext hfl (hm_gnd (hkI _) hk_set_eq) (hm_l1 (hkI _) ok1) hj (by omega)) rfl rfl (hm_gnd (hkI _) hk_set_eq) rfl rfl (by decide) ⟨Nat.zero_le _, Nat.zero_le _⟩ (Nat.le_of_ble_eq_true rfl) (hk_ki fun v h1 q => ?_) hk_nx
          obtain ⟨rfl, rfl⟩ := q
          refine cx_ifb_eq (tgt := 87) dX9_wealth_42 (by decide) rfl (fun z42 => ?_) (fun z42 => ?_)
          · skip
            refine hk_iconst (v := nI 0) dX9_wealth_87 rfl (by decide) ?_
            refine hk_istore dX9_wealth_88 rfl (by decide) rfl ?_
            have lp90 : ∀ f j : Nat, j ≤ 6 → 6 - j < f → ∀ lvF : Option Value, ∀ xit : hk_E, hk_W G l 9 yX9_wealth cX9_wealth 6 (some .long) [] (hk_ql fun rv h1 => ml_Q G (A 0) (ml_tr [1] (cd_H c (nI a))) S c nc nb (S) (c) (nc) (nb) g (rv = hs_wm S (vN (nI a)) nc 6) h1) hk_no 0 0 (hm_h G S M1 A (hk_set g it xit)) 90 [some (.ref (A 0)), some (.int (nI a)), some (.long (hs_wm S a nc j)), none, some (.int (nI j)), lvF] [] := by
              intro f
              induction f with
              | zero => intro j hj hf; exact absurd hf (by omega)
              | succ f ih =>
                intro j hj hf lvF xit
                refine hk_iload dX9_wealth_90 rfl rfl ?_
                refine hk_bipush (v := nI 6) dX9_wealth_92 rfl (by decide) ?_
                refine cx_icmp_ge (tgt := 127) (by omega) (by omega) dX9_wealth_94 (by decide) rfl (fun z94 => ?_) (fun z94 => ?_)
                · skip
                  refine hk_lload_n dX9_wealth_127 rfl rfl rfl ?_
                  exact hk_lreturn rfl dX9_wealth_128 (by have ez : cd_H c (nI a) = 0 := f6; have ej6 : j = 6 := (by omega); subst ej6; exact ⟨_, rfl, _, hxI _, Or.inl ⟨by rw [ez]; rfl, by rw [vaa], A, M1, rfl, e01, ok1, hkI _, rfl⟩⟩)
                · skip
                  refine hk_lload_n dX9_wealth_97 rfl rfl rfl ?_
                  refine hk_aload_n dX9_wealth_98 rfl rfl rfl ?_
                  refine hk_getf dX9_wealth_99 rfl fl_X9_35 (hm_g0 (hkI _)) rfl ?_
                  refine hk_iload_n dX9_wealth_102 rfl rfl rfl ?_
                  refine hx_aaldI dX9_wealth_103 rfl (hm_g10 (hkI _)) (show _ < 6 by omega) (by decide) (if_pos (show _ < 6 by omega)) ?_
                  refine hk_iload dX9_wealth_104 rfl rfl ?_
                  refine hx_iald dX9_wealth_106 rfl (hm_g11 (hkI _) (by omega)) (show _ < 6 by omega) (by decide) ?_
                  refine cx_top (if_pos (by omega)) ?_
                  refine hk_i2l dX9_wealth_107 rfl ?_
                  refine hk_aload_n dX9_wealth_108 rfl rfl rfl ?_
                  refine hk_getf dX9_wealth_109 rfl fl_X9_35 (hm_g0 (hkI _)) rfl ?_
                  refine hk_iload dX9_wealth_112 rfl rfl ?_
                  refine hx_aaldI dX9_wealth_114 rfl (hm_g10 (hkI _)) (show _ < 6 by omega) (by decide) (if_pos (show _ < 6 by omega)) ?_
                  refine hk_iload_n dX9_wealth_115 rfl rfl rfl ?_
                  refine hx_iald dX9_wealth_116 rfl (hm_g11 (hkI _) (by omega)) (show _ < 6 by omega) (by decide) ?_
                  refine cx_top (if_pos (by omega)) ?_
                  refine hk_i2l dX9_wealth_117 rfl ?_
                  refine hk_lsub dX9_wealth_118 rfl ?_
                  refine hk_ladd dX9_wealth_119 rfl ?_
                  refine hk_lstore_n dX9_wealth_120 rfl rfl (by decide) rfl ?_
                  refine hk_iinc dX9_wealth_121 rfl rfl (nI_1 _) (by decide) rfl ?_
                  refine hk_goto (tgt := 90) dX9_wealth_124 (by decide) ?_
                  exact ih (j + 1) (by omega) (by omega) _ _
            have ej : j = nc := (by have := of_decide_eq_false z42; omega)
            rw [ej]
            exact lp90 7 0 (by omega) (by omega) _ _
          · skip
            refine hk_aload dX9_wealth_45 rfl rfl ?_
            have hjn : j < nc := of_decide_eq_true z42
            have hgj := hm_c1g (j := j) ok1 hjn
            refine hk_callF dX9_wealth_47 rfl mf_X9_132 (cj_next hfl (hm_gnd (hkI _) hk_set_eq) (hm_l1 (hkI _) ok1) (hm_r (i := 1) (hkI _) ok1 (by omega) hgj.1) hjn (by rw [← hm_n1 ok1]; exact (hm_cap ok1 hgj.1).1) (Nat.lt_of_le_of_lt (hm_cap ok1 hgj.1).2.2 (by decide)) hgj.2) rfl rfl (hm_gnd (hkI _) hk_set_eq) rfl rfl (by decide) ⟨Nat.zero_le _, Nat.zero_le _⟩ (Nat.le_of_ble_eq_true rfl) (hk_kr fun v h1 q => ?_) hk_nx
            obtain ⟨rfl, rfl⟩ := q
            refine hx_cg (hm_sgI (hkI _)) ?_
            refine hk_castO dX9_wealth_52 rfl (hm_coi (hkI _) ok1 (by omega)) rfl kl_X9_94 ?_
            refine hk_astore dX9_wealth_55 rfl (by decide) rfl ?_
            obtain ⟨m3, x3, hm3, hx3, e13, e14, z3⟩ := hC j hjn
            have vm3 : vN (S.1 13 j) = m3 := by rw [e13]; exact vN_nI (by omega)
            refine hk_lload_n dX9_wealth_57 rfl rfl rfl ?_
            refine hk_aload dX9_wealth_58 rfl rfl ?_
            refine hk_getf dX9_wealth_60 rfl fl_X9_112 (hm_coi (hkI _) ok1 (by omega)) rfl ?_
            refine hk_iload_n dX9_wealth_63 rfl rfl rfl ?_
            refine hk_icmp_ne (tgt := 81) dX9_wealth_64 (by decide) rfl (fun z64 => ?_) (fun z64 => ?_)
            · skip
              refine hk_lconst (v := 0) dX9_wealth_81 rfl (by decide) ?_
              refine hk_ladd dX9_wealth_82 rfl ?_
              refine hk_lstore_n dX9_wealth_83 rfl rfl (by decide) rfl ?_
              refine hk_goto (tgt := 35) dX9_wealth_84 (by decide) ?_
              first | rw [show hs_wl S a j + (S.1 9 m3).toInt64 = hs_wl S a (j + 1) from by rw [hs_wl_s, if_pos z64, vm3]] | rw [show hs_wl S a j + 0 = hs_wl S a (j + 1) from by rw [hs_wl_s, if_neg z64]]
              exact ih (j + 1) (nI j) _ (by omega) (by omega)
            · skip
              refine hk_aload_n dX9_wealth_67 rfl rfl rfl ?_
              refine hk_getf dX9_wealth_68 rfl fl_X9_20 (hm_g0 (hkI _)) rfl ?_
              refine hk_aload dX9_wealth_71 rfl rfl ?_
              refine hk_getf dX9_wealth_73 rfl fl_X9_115 (hm_coi (hkI _) ok1 (by omega)) rfl ?_
              refine cx_top e13 ?_
              refine hx_iald dX9_wealth_76 rfl (hm_g1 (hkI _)) (show _ < 2 by omega) (by decide) ?_
              refine hk_i2l dX9_wealth_77 rfl ?_
              refine hk_goto (tgt := 82) dX9_wealth_78 (by decide) ?_
              refine hk_ladd dX9_wealth_82 rfl ?_
              refine hk_lstore_n dX9_wealth_83 rfl rfl (by decide) rfl ?_
              refine hk_goto (tgt := 35) dX9_wealth_84 (by decide) ?_
              first | rw [show hs_wl S a j + (S.1 9 m3).toInt64 = hs_wl S a (j + 1) from by rw [hs_wl_s, if_pos z64, vm3]] | rw [show hs_wl S a j + 0 = hs_wl S a (j + 1) from by rw [hs_wl_s, if_neg z64]]
              exact ih (j + 1) (nI j) _ (by omega) (by omega)
      exact lp35 (nc + 1) 0 (-1) _ (by omega) (by omega)
    · exact absurd z17 (by decide)
end CM7

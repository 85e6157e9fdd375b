section CXP
variable {G : hk_G} {l : Launch} {h : hk_H} {A : Nat → Nat} {S : hs_S}
theorem ct_X6_needOpenSharers {v c : Nat} (hfl : l.stackTraces = false) (hA : hs_inj A) (h30 : S.1 30 0 = nI c) (hc : c ≤ 6) (hv : v < 4) (hb8 : ∀ j, narrow .boolean (.int (S.1 8 j)) = .int (S.1 8 j)) : hk_Ctr G l 7 yX6_needOpenSharers cX6_needOpenSharers 3 none 6 36 [.ref (A 0), .int (nI v)] (hs_ov A (S) h) (cx_Q A h (cd_S S v c = 0) (none) (S)) (cx_X A h (S) ((fun E => ¬ cd_S S v c = 0 ∧ E = cs_ex (cd_S S v c)))) := by
  refine hk_enter (by decide) hfl (Nat.le_of_ble_eq_true rfl) rfl ?_
  refine hk_iconst (v := nI 0) dX6_needOpenSharers_0 rfl (by decide) ?_
  refine hk_istore_n dX6_needOpenSharers_1 rfl rfl (by decide) rfl ?_
  have lp2 : ∀ f j : Nat, j ≤ c → c - j < f → cd_S S v j = 0 → hk_W G l 7 yX6_needOpenSharers cX6_needOpenSharers 3 none [] (cx_Q A h (cd_S S v c = 0) (none) (S)) (cx_X A h (S) ((fun E => ¬ cd_S S v c = 0 ∧ E = cs_ex (cd_S S v c)))) (6 - j) (36 - 6 * j) (hs_ov A (S) h) 2 [some (.ref (A 0)), some (.int (nI v)), some (.int (nI j))] [] := by
    intro f
    induction f with
    | zero => intro j hj hf; exact absurd hf (by omega)
    | succ f ih =>
      intro j hj hf
      intro hw
      refine hk_iload_n dX6_needOpenSharers_2 rfl rfl rfl ?_
      refine hk_aload_n dX6_needOpenSharers_3 rfl rfl rfl ?_
      refine cx_getf hA (by decide) rfl dX6_needOpenSharers_4 rfl fl_X6_10 rfl ?_
      refine cx_calli hA (by decide) rfl rfl rfl dX6_needOpenSharers_7 rfl mv_X6_62 (ct_X3_count hfl hA h30) rfl rfl (by decide) ⟨by omega, by omega⟩ (Nat.le_of_ble_eq_true rfl) (fun c7 => ?_) (fun E c => c.elim)
      refine cx_icmp_ge (tgt := 36) (by omega) (by omega) dX6_needOpenSharers_10 (by decide) rfl (fun z10 => ?_) (fun z10 => ?_)
      · skip
        exact hk_vreturn rfl dX6_needOpenSharers_36 (by have e : j = c := (by omega); subst e; exact ⟨hw, rfl, rfl⟩)
      · skip
        refine hk_aload_n dX6_needOpenSharers_13 rfl rfl rfl ?_
        refine cx_getf hA (by decide) rfl dX6_needOpenSharers_14 rfl fl_X6_47 rfl ?_
        refine hk_iload_n dX6_needOpenSharers_17 rfl rfl rfl ?_
        refine hk_iload_n dX6_needOpenSharers_18 rfl rfl rfl ?_
        refine cx_calli hA (by decide) rfl rfl rfl dX6_needOpenSharers_19 rfl mv_X6_224 (ct_X5_value hfl hA (by omega) (by omega)) rfl rfl (by decide) ⟨by omega, by omega⟩ (Nat.le_of_ble_eq_true rfl) (fun c19 => ?_) (fun E c => c.elim)
        refine hk_if_eq (tgt := 30) dX6_needOpenSharers_22 (by decide) rfl (fun z22 => ?_) (fun z22 => ?_)
        · skip
          refine hk_iinc dX6_needOpenSharers_30 rfl rfl (nI_1 _) (by decide) rfl ?_
          refine hk_goto (tgt := 2) dX6_needOpenSharers_33 (by decide) ?_
          refine hk_bud (k' := 6 - (j + 1)) (n' := 36 - 6 * (j + 1)) (by omega) (by omega) ?_
          exact cx_cg rfl rfl (ih (j + 1) (by omega) (by omega) (by first | (rw [cd_S_s, hw, cs_sq_0 rfl, cd_Ss, if_pos z22]; done) | (rw [cd_S_s, hw, cs_sq_0 rfl, cd_Ss, if_neg z22]; exact c27)))
        · skip
          refine hk_aload_n dX6_needOpenSharers_25 rfl rfl rfl ?_
          refine hk_iload_n dX6_needOpenSharers_26 rfl rfl rfl ?_
          refine cx_callv hA (by decide) rfl rfl rfl dX6_needOpenSharers_27 rfl mv_X6_90 (ct_X6_needOpen hfl hA (by omega) hb8) rfl rfl (by decide) ⟨by omega, by omega⟩ (Nat.le_of_ble_eq_true rfl) (fun c27 => ?_) (fun E cq => ?_)
          · skip
            refine hk_iinc dX6_needOpenSharers_30 rfl rfl (nI_1 _) (by decide) rfl ?_
            refine hk_goto (tgt := 2) dX6_needOpenSharers_33 (by decide) ?_
            refine hk_bud (k' := 6 - (j + 1)) (n' := 36 - 6 * (j + 1)) (by omega) (by omega) ?_
            exact cx_cg rfl rfl (ih (j + 1) (by omega) (by omega) (by first | (rw [cd_S_s, hw, cs_sq_0 rfl, cd_Ss, if_pos z22]; done) | (rw [cd_S_s, hw, cs_sq_0 rfl, cd_Ss, if_neg z22]; exact c27)))
          · have e : cd_S S v (j + 1) = cd_O S j := (by rw [cd_S_s, hw, cs_sq_0 rfl, cd_Ss, if_neg z22]); have e2 := cd_S_mono (by rw [e]; exact cq.1) (c - (j + 1)); rw [show j + 1 + (c - (j + 1)) = c by omega, e] at e2; exact ⟨cs_thr e2 cq, rfl⟩
  exact lp2 (c + 1) 0 (by omega) (by omega) rfl
theorem ct_X6_strike {c a m k : Nat} (hfl : l.stackTraces = false) (hA : hs_inj A) (h31 : S.1 31 0 = nI c) (hc : c ≤ 90) (ha : a < 6) (hm : m < 2) (hk : k ≤ 90) : hk_Ctr G l 3 yX6_strike cX6_strike 6 (some .int) 0 0 [.ref (A 0), .int (nI a), .int (nI m), .int (nI k)] (hs_ov A (S) h) (cx_Q A h (True) (some (.int (nI (cs_stk a m (S.1 10 m) k S c).2))) ((cs_stk a m (S.1 10 m) k S c).1)) (cx_X A h (S) ((fun _ => False))) := by
  refine hk_enter (by decide) hfl (Nat.le_of_ble_eq_true rfl) rfl ?_
  refine hk_aload_n dX6_strike_0 rfl rfl rfl ?_
  refine cx_getf hA (by decide) rfl dX6_strike_1 rfl fl_X6_19 rfl ?_
  refine hk_iload_n dX6_strike_4 rfl rfl rfl ?_
  refine cx_calli hA (by decide) rfl rfl rfl dX6_strike_5 rfl mv_X6_105 (ct_X4_fullWeight hfl hA (by omega)) rfl rfl (by decide) (by decide) (Nat.le_of_ble_eq_true rfl) (fun c5 => ?_) (fun E c => c.elim)
  refine hk_istore dX6_strike_8 rfl (by decide) rfl ?_
  refine hk_iconst (v := nI 0) dX6_strike_10 rfl (by decide) ?_
  refine hk_istore dX6_strike_11 rfl (by decide) rfl ?_
  have lp13 : ∀ g f j : Nat, ∀ U : hs_S, f < g → j + f = k → U.1 31 0 = nI (c + j) → c + j ≤ 90 → (cs_stk a m (S.1 10 m) f U (c + j)).1 = (cs_stk a m (S.1 10 m) k S c).1 → j + (cs_stk a m (S.1 10 m) f U (c + j)).2 = (cs_stk a m (S.1 10 m) k S c).2 → hk_W G l 3 yX6_strike cX6_strike 6 (some .int) [] (cx_Q A h (True) (some (.int (nI (cs_stk a m (S.1 10 m) k S c).2))) ((cs_stk a m (S.1 10 m) k S c).1)) (cx_X A h (S) ((fun _ => False))) 0 0 (hs_ov A U h) 13 [some (.ref (A 0)), some (.int (nI a)), some (.int (nI m)), some (.int (nI k)), some (.int (S.1 10 m)), some (.int (nI j))] [] := by
    intro g
    induction g with
    | zero => intro f j U hg; exact absurd hg (by omega)
    | succ g ih =>
      intro f j U hg hf h31u hcj e1 e2
      refine hk_iload dX6_strike_13 rfl rfl ?_
      refine hk_iload_n dX6_strike_15 rfl rfl rfl ?_
      refine cx_icmp_ge (tgt := 72) (by omega) (by omega) dX6_strike_16 (by decide) rfl (fun z16 => ?_) (fun z16 => ?_)
      · skip
        refine hk_iload dX6_strike_72 rfl rfl ?_
        exact hk_ireturn rfl (rfl) dX6_strike_74 (by first | (have e0 : f = 0 := (by omega); subst e0; exact ⟨trivial, by rw [← e2]; rfl, by rw [← e1]; rfl⟩) | (rw [cs_stk_s _ _ _ f U, if_neg (by omega)] at e1 e2; exact ⟨trivial, by rw [← e2]; rfl, by rw [← e1]⟩) | (rw [cs_stk_s _ _ _ f U, if_pos (by omega), if_pos z40] at e1 e2; exact ⟨trivial, by rw [← e2]; rfl, by rw [← e1]⟩))
      · skip
        obtain ⟨f, rfl⟩ : ∃ f0, f = f0 + 1 := ⟨f - 1, by omega⟩
        refine hk_aload_n dX6_strike_19 rfl rfl rfl ?_
        refine cx_getf hA (by decide) rfl dX6_strike_20 rfl fl_X6_26 rfl ?_
        refine cx_calli hA (by decide) rfl rfl rfl dX6_strike_23 rfl mv_X6_116 (ct_X2_numbersLeft hfl hA h31u (by omega)) rfl rfl (by decide) (by decide) (Nat.le_of_ble_eq_true rfl) (fun c23 => ?_) (fun E c => c.elim)
        refine cx_ifn_le (tgt := 72) (by omega) dX6_strike_26 (by decide) rfl (fun z26 => ?_) (fun z26 => ?_)
        · skip
          refine hk_iload dX6_strike_72 rfl rfl ?_
          exact hk_ireturn rfl (rfl) dX6_strike_74 (by first | (have e0 : f = 0 := (by omega); subst e0; exact ⟨trivial, by rw [← e2]; rfl, by rw [← e1]; rfl⟩) | (rw [cs_stk_s _ _ _ f U, if_neg (by omega)] at e1 e2; exact ⟨trivial, by rw [← e2]; rfl, by rw [← e1]⟩) | (rw [cs_stk_s _ _ _ f U, if_pos (by omega), if_pos z40] at e1 e2; exact ⟨trivial, by rw [← e2]; rfl, by rw [← e1]⟩))
        · skip
          refine hk_aload_n dX6_strike_29 rfl rfl rfl ?_
          refine cx_getf hA (by decide) rfl dX6_strike_30 rfl fl_X6_19 rfl ?_
          refine hk_iload_n dX6_strike_33 rfl rfl rfl ?_
          refine hk_iload_n dX6_strike_34 rfl rfl rfl ?_
          refine cx_calli hA (by decide) rfl rfl rfl dX6_strike_35 rfl mv_X6_97 (ct_X4_oreOf hfl hA (by omega) (by omega)) rfl rfl (by decide) (by decide) (Nat.le_of_ble_eq_true rfl) (fun c35 => ?_) (fun E c => c.elim)
          refine hk_iload dX6_strike_38 rfl rfl ?_
          refine hk_icmp_lt (tgt := 72) dX6_strike_40 (by decide) rfl (fun z40 => ?_) (fun z40 => ?_)
          · skip
            refine hk_iload dX6_strike_72 rfl rfl ?_
            exact hk_ireturn rfl (rfl) dX6_strike_74 (by first | (have e0 : f = 0 := (by omega); subst e0; exact ⟨trivial, by rw [← e2]; rfl, by rw [← e1]; rfl⟩) | (rw [cs_stk_s _ _ _ f U, if_neg (by omega)] at e1 e2; exact ⟨trivial, by rw [← e2]; rfl, by rw [← e1]⟩) | (rw [cs_stk_s _ _ _ f U, if_pos (by omega), if_pos z40] at e1 e2; exact ⟨trivial, by rw [← e2]; rfl, by rw [← e1]⟩))
          · skip
            refine hk_aload_n dX6_strike_43 rfl rfl rfl ?_
            refine cx_getf hA (by decide) rfl dX6_strike_44 rfl fl_X6_19 rfl ?_
            refine hk_iload_n dX6_strike_47 rfl rfl rfl ?_
            refine hk_iload_n dX6_strike_48 rfl rfl rfl ?_
            refine hk_iload dX6_strike_49 rfl rfl ?_
            refine hk_ineg dX6_strike_51 rfl ?_
            refine cx_callv hA (by decide) rfl rfl rfl dX6_strike_52 rfl mv_X6_146 (ct_X4_addOre hfl hA (by omega) (by omega)) rfl rfl (by decide) (by decide) (Nat.le_of_ble_eq_true rfl) (fun c52 => ?_) (fun E c => c.elim)
            refine hk_aload_n dX6_strike_55 rfl rfl rfl ?_
            refine cx_getf hA (by decide) rfl dX6_strike_56 rfl fl_X6_26 rfl ?_
            refine hk_iload_n dX6_strike_59 rfl rfl rfl ?_
            refine hk_iload_n dX6_strike_60 rfl rfl rfl ?_
            refine hk_iload dX6_strike_61 rfl rfl ?_
            refine cx_callv hA (by decide) rfl rfl rfl dX6_strike_63 rfl mv_X6_309 (ct_X2_add hfl hA h31u (by omega)) rfl rfl (by decide) (by decide) (Nat.le_of_ble_eq_true rfl) (fun c63 => ?_) (fun E c => c.elim)
            refine hk_iinc dX6_strike_66 rfl rfl (nI_1 _) (by decide) rfl ?_
            refine hk_goto (tgt := 13) dX6_strike_69 (by decide) ?_
            refine cx_cg rfl rfl (ih f (j + 1) (cs_one U a m (S.1 10 m) (c + j)) (by omega) (by omega) rfl (by omega) ?_ ?_)
            · rw [cs_stk_s _ _ _ f U, if_pos (by omega), if_neg z40] at e1
              exact e1
            · rw [cs_stk_s _ _ _ f U, if_pos (by omega), if_neg z40] at e2
              simp only at e2
              rw [show c + (j + 1) = c + j + 1 by omega]
              omega
  exact lp13 (k + 1) k 0 S (by omega) (by omega) h31 (by omega) rfl (Nat.zero_add _)
theorem ct_X6_partCoins {c q : Nat} (hfl : l.stackTraces = false) (hA : hs_inj A) (h31 : S.1 31 0 = nI c) (hc : c ≤ 90) (hq : q < 6) (h13 : ∀ j, j < c → ∃ m, m < 2 ∧ S.1 13 j = nI m) : hk_Ctr G l 4 yX6_partCoins cX6_partCoins 7 none 0 0 [.ref (A 0), .int (nI q)] (hs_ov A (S) h) (cx_Q A h (True) (none) (cs_pc q c S 90)) (cx_X A h (S) ((fun _ => False))) := by
  refine hk_enter (by decide) hfl (Nat.le_of_ble_eq_true rfl) rfl ?_
  refine hk_iconst (v := nI 0) dX6_partCoins_0 rfl (by decide) ?_
  refine hk_istore_n dX6_partCoins_1 rfl rfl (by decide) rfl ?_
  have lp2 : ∀ f j : Nat, j ≤ 90 → 90 - j < f → hk_W G l 4 yX6_partCoins cX6_partCoins 7 none [] (cx_Q A h (True) (none) (cs_pc q c S 90)) (cx_X A h (S) ((fun _ => False))) 0 0 (hs_ov A (cs_pc q c S j) h) 2 [some (.ref (A 0)), some (.int (nI q)), some (.int (nI j)), none, none, none, none] [] := by
    intro f
    induction f with
    | zero => intro j hj hf; exact absurd hf (by omega)
    | succ f ih =>
      intro j hj hf
      refine hk_iload_n dX6_partCoins_2 rfl rfl rfl ?_
      refine hk_bipush (v := nI 90) dX6_partCoins_3 rfl (by decide) ?_
      refine cx_icmp_ge (tgt := 102) (by omega) (by omega) dX6_partCoins_5 (by decide) rfl (fun z5 => ?_) (fun z5 => ?_)
      · skip
        exact hk_vreturn rfl dX6_partCoins_102 (by have e : j = 90 := (by omega); subst e; exact ⟨trivial, rfl, rfl⟩)
      · skip
        refine hk_aload_n dX6_partCoins_8 rfl rfl rfl ?_
        refine cx_getf hA (by decide) rfl dX6_partCoins_9 rfl fl_X6_26 rfl ?_
        refine hk_iload_n dX6_partCoins_12 rfl rfl rfl ?_
        refine cx_calli hA (by decide) rfl rfl rfl dX6_partCoins_13 rfl mv_X6_328 (ct_X2_heaviest hfl hA ((congrFun (cs_pc_ne q c S (by decide) (by decide) (by decide) (by decide) (by decide) j) 0).trans h31) (by omega)) rfl rfl (by decide) (by decide) (Nat.le_of_ble_eq_true rfl) (fun c13 => ?_) (fun E c => c.elim)
        refine hk_istore_n dX6_partCoins_16 rfl rfl (by decide) rfl ?_
        refine hk_aload_n dX6_partCoins_17 rfl rfl rfl ?_
        refine cx_getf hA (by decide) rfl dX6_partCoins_18 rfl fl_X6_33 rfl ?_
        refine hk_iload_n dX6_partCoins_21 rfl rfl rfl ?_
        refine cx_calli hA (by decide) rfl rfl rfl dX6_partCoins_22 rfl mv_X6_331 (ct_X1_greatestCreditor hfl hA (by omega)) rfl rfl (by decide) (by decide) (Nat.le_of_ble_eq_true rfl) (fun c22 => ?_) (fun E c => c.elim)
        refine hk_istore dX6_partCoins_25 rfl (by decide) rfl ?_
        rcases hv : cs_heavy (cs_pc q c S j) q c with _ | v
        · skip
          refine hk_iload_n dX6_partCoins_27 rfl rfl rfl ?_
          refine hk_iconst (v := -1) dX6_partCoins_28 rfl (by decide) ?_
          refine hk_icmp_eq (tgt := 38) dX6_partCoins_29 (by decide) rfl (fun z29 => ?_) (fun z29 => ?_)
          · skip
            exact hk_vreturn rfl dX6_partCoins_38 (by have e := cs_pc_fix (q := q) (c := c) (S := S) (j := j) (by unfold cs_pcs; first | (simp only [hv]; done) | (simp only [hv, hg]; done)) (90 - j); rw [show j + (90 - j) = 90 by omega] at e; exact ⟨trivial, rfl, by rw [e]⟩)
          · exact absurd rfl z29
        · have hv2 := (cs_heavy_lt hv).1
          refine hk_iload_n dX6_partCoins_27 rfl rfl rfl ?_
          refine hk_iconst (v := -1) dX6_partCoins_28 rfl (by decide) ?_
          refine hk_icmp_eq (tgt := 38) dX6_partCoins_29 (by decide) rfl (fun z29 => ?_) (fun z29 => ?_)
          · exact absurd z29 (cx_ne1 (by omega))
          · skip
            rcases hg : (cs_gc (cs_pc q c S j) q 6).1 with _ | t
            · skip
              refine hk_iload dX6_partCoins_32 rfl rfl ?_
              refine hk_iconst (v := -1) dX6_partCoins_34 rfl (by decide) ?_
              refine hk_icmp_ne (tgt := 39) dX6_partCoins_35 (by decide) rfl (fun z35 => ?_) (fun z35 => ?_)
              · exact absurd rfl z35
              · skip
                exact hk_vreturn rfl dX6_partCoins_38 (by have e := cs_pc_fix (q := q) (c := c) (S := S) (j := j) (by unfold cs_pcs; first | (simp only [hv]; done) | (simp only [hv, hg]; done)) (90 - j); rw [show j + (90 - j) = 90 by omega] at e; exact ⟨trivial, rfl, by rw [e]⟩)
            · have hg2 := cs_gc_lt hg
              refine hk_iload dX6_partCoins_32 rfl rfl ?_
              refine hk_iconst (v := -1) dX6_partCoins_34 rfl (by decide) ?_
              refine hk_icmp_ne (tgt := 39) dX6_partCoins_35 (by decide) rfl (fun z35 => ?_) (fun z35 => ?_)
              · skip
                obtain ⟨mm, hm2, hm3⟩ := h13 v hv2
                have hm4 : (cs_pc q c S j).1 13 v = nI mm := (congrFun (cs_pc_ne q c S (by decide) (by decide) (by decide) (by decide) (by decide) j) v).trans hm3
                have hmm : vN ((cs_pc q c S j).1 13 v) = mm := by rw [hm4]; exact vN_nI (by omega)
                refine hk_aload_n dX6_partCoins_39 rfl rfl rfl ?_
                refine cx_getf hA (by decide) rfl dX6_partCoins_40 rfl fl_X6_33 rfl ?_
                refine hk_iload dX6_partCoins_43 rfl rfl ?_
                refine cx_top (show cs_o (some t) = nI t from rfl) ?_
                refine hk_iload_n dX6_partCoins_45 rfl rfl rfl ?_
                refine cx_calli hA (by decide) rfl rfl rfl dX6_partCoins_46 rfl mv_X6_175 (ct_X1_amount hfl hA (by omega) (by omega)) rfl rfl (by decide) (by decide) (Nat.le_of_ble_eq_true rfl) (fun c46 => ?_) (fun E c => c.elim)
                refine hk_istore dX6_partCoins_49 rfl (by decide) rfl ?_
                refine hk_aload_n dX6_partCoins_51 rfl rfl rfl ?_
                refine cx_getf hA (by decide) rfl dX6_partCoins_52 rfl fl_X6_19 rfl ?_
                refine hk_aload_n dX6_partCoins_55 rfl rfl rfl ?_
                refine cx_getf hA (by decide) rfl dX6_partCoins_56 rfl fl_X6_26 rfl ?_
                refine hk_iload_n dX6_partCoins_59 rfl rfl rfl ?_
                refine cx_top (show cs_o (some v) = nI v from rfl) ?_
                refine cx_calli hA (by decide) rfl rfl rfl dX6_partCoins_60 rfl mv_X6_143 (ct_X2_metal hfl hA (by omega)) rfl rfl (by decide) (by decide) (Nat.le_of_ble_eq_true rfl) (fun c60 => ?_) (fun E c => c.elim)
                refine cx_top hm4 ?_
                refine cx_calli hA (by decide) rfl rfl rfl dX6_partCoins_63 rfl mv_X6_101 (ct_X4_face hfl hA (by omega)) rfl rfl (by decide) (by decide) (Nat.le_of_ble_eq_true rfl) (fun c63 => ?_) (fun E c => c.elim)
                refine hk_istore dX6_partCoins_66 rfl (by decide) rfl ?_
                refine hk_aload_n dX6_partCoins_68 rfl rfl rfl ?_
                refine cx_getf hA (by decide) rfl dX6_partCoins_69 rfl fl_X6_26 rfl ?_
                refine hk_iload_n dX6_partCoins_72 rfl rfl rfl ?_
                refine cx_top (show cs_o (some v) = nI v from rfl) ?_
                refine hk_iload dX6_partCoins_73 rfl rfl ?_
                refine cx_callv hA (by decide) rfl rfl rfl dX6_partCoins_75 rfl mv_X6_334 (ct_X2_give hfl hA (by omega)) rfl rfl (by decide) (by decide) (Nat.le_of_ble_eq_true rfl) (fun c75 => ?_) (fun E c => c.elim)
                refine hk_aload_n dX6_partCoins_78 rfl rfl rfl ?_
                refine cx_getf hA (by decide) rfl dX6_partCoins_79 rfl fl_X6_33 rfl ?_
                refine hk_iload dX6_partCoins_82 rfl rfl ?_
                refine cx_top (show cs_o (some t) = nI t from rfl) ?_
                refine hk_iload_n dX6_partCoins_84 rfl rfl rfl ?_
                refine hk_iload dX6_partCoins_85 rfl rfl ?_
                refine hk_iload dX6_partCoins_87 rfl rfl ?_
                refine cx_mmin dX6_partCoins_89 rfl ms_X6_337 (by decide) (Nat.le_of_ble_eq_true rfl) ?_
                refine hk_ineg dX6_partCoins_92 rfl ?_
                refine cx_callv hA (by decide) rfl rfl rfl dX6_partCoins_93 rfl mv_X6_172 (ct_X1_add hfl hA (by omega) (by omega)) rfl rfl (by decide) (by decide) (Nat.le_of_ble_eq_true rfl) (fun c93 => ?_) (fun E c => c.elim)
                refine hk_iinc dX6_partCoins_96 rfl rfl (nI_1 _) (by decide) rfl ?_
                refine hk_goto (tgt := 2) dX6_partCoins_99 (by decide) ?_
                refine cx_fg 3 ?_
                refine cx_fg 4 ?_
                refine cx_fg 5 ?_
                refine cx_fg 6 ?_
                exact cx_cg (by rw [cs_pc_s]; unfold cs_pcs; first | (simp only [hv, hg, hmm]; done) | (simp only [hv, hg, hmm]; rfl)) rfl (ih (j + 1) (by omega) (by omega))
              · exact absurd z35 (cx_ne1 (by omega))
  exact lp2 (90 + 1) 0 (by omega) (by omega)
theorem ct_X6_fail {c q : Nat} (hfl : l.stackTraces = false) (hA : hs_inj A) (h31 : S.1 31 0 = nI c) (hc : c ≤ 90) (hq : q < 6) (h13 : ∀ j, j < c → ∃ m, m < 2 ∧ S.1 13 j = nI m) : hk_Ctr G l 5 yX6_fail cX6_fail 3 none 0 0 [.ref (A 0), .int (nI q)] (hs_ov A (S) h) (cx_Q A h (True) (none) (cs_fail S q c)) (cx_X A h (S) ((fun _ => False))) := by
  refine hk_enter (by decide) hfl (Nat.le_of_ble_eq_true rfl) rfl ?_
  refine hk_aload_n dX6_fail_0 rfl rfl rfl ?_
  refine cx_getf hA (by decide) rfl dX6_fail_1 rfl fl_X6_10 rfl ?_
  refine hk_iload_n dX6_fail_4 rfl rfl rfl ?_
  refine cx_callv hA (by decide) rfl rfl rfl dX6_fail_5 rfl mv_X6_310 (ct_X3_close hfl hA (by omega)) rfl rfl (by decide) (by decide) (Nat.le_of_ble_eq_true rfl) (fun c5 => ?_) (fun E c => c.elim)
  refine hk_aload_n dX6_fail_8 rfl rfl rfl ?_
  refine hk_iload_n dX6_fail_9 rfl rfl rfl ?_
  refine cx_callv hA (by decide) rfl rfl rfl dX6_fail_10 rfl mv_X6_313 (ct_X6_partCoins hfl hA h31 (by omega) (by omega) h13) rfl rfl (by decide) (by decide) (Nat.le_of_ble_eq_true rfl) (fun c10 => ?_) (fun E c => c.elim)
  refine hk_aload_n dX6_fail_13 rfl rfl rfl ?_
  refine hk_dup dX6_fail_14 rfl rfl ?_
  refine cx_getf hA (by decide) rfl dX6_fail_15 rfl fl_X6_251 rfl ?_
  refine hk_aload_n dX6_fail_18 rfl rfl rfl ?_
  refine cx_getf hA (by decide) rfl dX6_fail_19 rfl fl_X6_33 rfl ?_
  refine hk_iload_n dX6_fail_22 rfl rfl rfl ?_
  refine cx_calll hA (by decide) rfl rfl rfl dX6_fail_23 rfl mv_X6_316 (ct_X1_dropOn hfl hA (by omega)) rfl rfl (by decide) (by decide) (Nat.le_of_ble_eq_true rfl) (fun c23 => ?_) (fun E c => c.elim)
  refine hk_ladd dX6_fail_26 rfl ?_
  refine cx_putf hA (by decide) rfl dX6_fail_27 rfl (fw_X6_251 rfl) rfl rfl (Nat.lt_of_lt_of_eq (by decide : 6 < 7) rfl) hs_scL ?_
  refine hk_aload_n dX6_fail_30 rfl rfl rfl ?_
  refine cx_getf hA (by decide) rfl dX6_fail_31 rfl fl_X6_26 rfl ?_
  refine hk_iload_n dX6_fail_34 rfl rfl rfl ?_
  refine hk_iconst (v := nI 0) dX6_fail_35 rfl (by decide) ?_
  refine cx_callv hA (by decide) rfl rfl rfl dX6_fail_36 rfl mv_X6_319 (ct_X2_giveAll (t := 0) hfl hA ((cs_f2_31 S q c).trans h31) (by omega)) rfl rfl (by decide) (by decide) (Nat.le_of_ble_eq_true rfl) (fun c36 => ?_) (fun E c => c.elim)
  refine hk_iconst (v := nI 0) dX6_fail_39 rfl (by decide) ?_
  refine hk_istore_n dX6_fail_40 rfl rfl (by decide) rfl ?_
  have lp41 : ∀ f j : Nat, j ≤ 2 → 2 - j < f → hk_W G l 5 yX6_fail cX6_fail 3 none [] (cx_Q A h (True) (none) (cs_fail S q c)) (cx_X A h (S) ((fun _ => False))) 0 0 (hs_ov A (cs_f4 S q c j) h) 41 [some (.ref (A 0)), some (.int (nI q)), some (.int (nI j))] [] := by
    intro f
    induction f with
    | zero => intro j hj hf; exact absurd hf (by omega)
    | succ f ih =>
      intro j hj hf
      refine hk_iload_n dX6_fail_41 rfl rfl rfl ?_
      refine hk_iconst (v := nI 2) dX6_fail_42 rfl (by decide) ?_
      refine cx_icmp_ge (tgt := 62) (by omega) (by omega) dX6_fail_43 (by decide) rfl (fun z43 => ?_) (fun z43 => ?_)
      · skip
        have e2 : j = 2 := by omega
        subst e2
        refine hk_aload_n dX6_fail_62 rfl rfl rfl ?_
        refine cx_getf hA (by decide) rfl dX6_fail_63 rfl fl_X6_33 rfl ?_
        refine hk_iload_n dX6_fail_66 rfl rfl rfl ?_
        refine cx_callv hA (by decide) rfl rfl rfl dX6_fail_67 rfl mv_X6_325 (ct_X1_leaveToCrown hfl hA (by omega)) rfl rfl (by decide) (by decide) (Nat.le_of_ble_eq_true rfl) (fun c67 => ?_) (fun E c => c.elim)
        exact hk_vreturn rfl dX6_fail_70 (⟨trivial, rfl, rfl⟩)
      · skip
        refine hk_aload_n dX6_fail_46 rfl rfl rfl ?_
        refine cx_getf hA (by decide) rfl dX6_fail_47 rfl fl_X6_19 rfl ?_
        refine hk_iload_n dX6_fail_50 rfl rfl rfl ?_
        refine hk_iconst (v := nI 0) dX6_fail_51 rfl (by decide) ?_
        refine hk_iload_n dX6_fail_52 rfl rfl rfl ?_
        refine cx_callv hA (by decide) rfl rfl rfl dX6_fail_53 rfl mv_X6_322 (ct_X4_moveOre hfl hA (by omega) (by omega) (by omega)) rfl rfl (by decide) (by decide) (Nat.le_of_ble_eq_true rfl) (fun c53 => ?_) (fun E c => c.elim)
        refine hk_iinc dX6_fail_56 rfl rfl (nI_1 _) (by decide) rfl ?_
        refine hk_goto (tgt := 41) dX6_fail_59 (by decide) ?_
        exact cx_cg rfl rfl (ih (j + 1) (by omega) (by omega))
  exact lp41 (2 + 1) 0 (by omega) (by omega)
theorem ct_X6_firstOpenLiable {j e : Nat} (hfl : l.stackTraces = false) (hA : hs_inj A) (hj : j < 12) (he : S.1 26 j = nI e) (he5 : e ≤ 5) (hb8 : ∀ j, narrow .boolean (.int (S.1 8 j)) = .int (S.1 8 j)) (hl : ∀ q, q < 2 + e → ∃ a, a < 6 ∧ cs_liab S j e q = nI a) : hk_Ctr G l 2 yX6_firstOpenLiable cX6_firstOpenLiable 4 (some .int) 0 0 [.ref (A 0), .int (nI j)] (hs_ov A (S) h) (cx_Q A h (True) (some (.int (cs_o (cs_fol S j e (2 + e))))) (S)) (cx_X A h (S) ((fun _ => False))) := by
  refine hk_enter (by decide) hfl (Nat.le_of_ble_eq_true rfl) rfl ?_
  refine hk_iconst (v := nI 0) dX6_firstOpenLiable_0 rfl (by decide) ?_
  refine hk_istore_n dX6_firstOpenLiable_1 rfl rfl (by decide) rfl ?_
  have lp2 : ∀ f i : Nat, i ≤ (2 + e) → (2 + e) - i < f → cs_fol S j e i = none → hk_W G l 2 yX6_firstOpenLiable cX6_firstOpenLiable 4 (some .int) [] (cx_Q A h (True) (some (.int (cs_o (cs_fol S j e (2 + e))))) (S)) (cx_X A h (S) ((fun _ => False))) 0 0 (hs_ov A (S) h) 2 [some (.ref (A 0)), some (.int (nI j)), some (.int (nI i)), none] [] := by
    intro f
    induction f with
    | zero => intro i hi hf; exact absurd hf (by omega)
    | succ f ih =>
      intro i hi hf
      intro hw
      refine hk_iload_n dX6_firstOpenLiable_2 rfl rfl rfl ?_
      refine hk_aload_n dX6_firstOpenLiable_3 rfl rfl rfl ?_
      refine cx_getf hA (by decide) rfl dX6_firstOpenLiable_4 rfl fl_X6_40 rfl ?_
      refine hk_iload_n dX6_firstOpenLiable_7 rfl rfl rfl ?_
      refine cx_calli hA (by decide) rfl rfl rfl dX6_firstOpenLiable_8 rfl mv_X6_350 (ct_X0_liableCount hfl hA (by omega) he) rfl rfl (by decide) (by decide) (Nat.le_of_ble_eq_true rfl) (fun c8 => ?_) (fun E c => c.elim)
      refine cx_icmp_ge (tgt := 43) (by omega) (by omega) dX6_firstOpenLiable_11 (by decide) rfl (fun z11 => ?_) (fun z11 => ?_)
      · skip
        refine hk_iconst (v := -1) dX6_firstOpenLiable_43 rfl (by decide) ?_
        exact hk_ireturn rfl (rfl) dX6_firstOpenLiable_44 (by have e1 : i = 2 + e := (by omega); subst e1; exact ⟨trivial, by rw [hw]; rfl, rfl⟩)
      · skip
        refine hk_aload_n dX6_firstOpenLiable_14 rfl rfl rfl ?_
        refine cx_getf hA (by decide) rfl dX6_firstOpenLiable_15 rfl fl_X6_40 rfl ?_
        refine hk_iload_n dX6_firstOpenLiable_18 rfl rfl rfl ?_
        refine hk_iload_n dX6_firstOpenLiable_19 rfl rfl rfl ?_
        refine cx_calli hA (by decide) rfl rfl rfl dX6_firstOpenLiable_20 rfl mv_X6_353 (ct_X0_liable hfl hA (by omega) he (by omega) (by omega)) rfl rfl (by decide) (by decide) (Nat.le_of_ble_eq_true rfl) (fun c20 => ?_) (fun E c => c.elim)
        obtain ⟨a, ha, hav0⟩ := hl i (by omega)
        have hav : vN (cs_liab S j e i) = a := by rw [hav0]; exact vN_nI (by omega)
        refine hk_istore_n dX6_firstOpenLiable_23 rfl rfl (by decide) rfl ?_
        refine hk_aload_n dX6_firstOpenLiable_24 rfl rfl rfl ?_
        refine cx_getf hA (by decide) rfl dX6_firstOpenLiable_25 rfl fl_X6_10 rfl ?_
        refine hk_iload_n dX6_firstOpenLiable_28 rfl rfl rfl ?_
        refine cx_top hav0 ?_
        refine cx_calli hA (by decide) rfl rfl rfl dX6_firstOpenLiable_29 rfl mv_X6_75 (ct_X3_isOpen hfl hA (by omega) (hb8 _)) rfl rfl (by decide) (by decide) (Nat.le_of_ble_eq_true rfl) (fun c29 => ?_) (fun E c => c.elim)
        refine hk_if_eq (tgt := 37) dX6_firstOpenLiable_32 (by decide) rfl (fun z32 => ?_) (fun z32 => ?_)
        · skip
          refine hk_iinc dX6_firstOpenLiable_37 rfl rfl (nI_1 _) (by decide) rfl ?_
          refine hk_goto (tgt := 2) dX6_firstOpenLiable_40 (by decide) ?_
          refine cx_fg 3 ?_
          exact cx_cg rfl rfl (ih (i + 1) (by omega) (by omega) (by rw [cs_fol_s, hw]; unfold cs_fols; rw [hav, if_pos z32]))
        · skip
          refine hk_iload_n dX6_firstOpenLiable_35 rfl rfl rfl ?_
          exact hk_ireturn rfl (rfl) dX6_firstOpenLiable_36 (by have e1 : cs_fol S j e (i + 1) = some a := (by rw [cs_fol_s, hw]; unfold cs_fols; rw [hav, if_neg z32]); have e2 := cs_fol_mono e1 (2 + e - (i + 1)); rw [show i + 1 + (2 + e - (i + 1)) = 2 + e by omega] at e2; exact ⟨trivial, by rw [e2, hav0]; rfl, rfl⟩)
  exact lp2 (2 + e + 1) 0 (by omega) (by omega) rfl
theorem ct_X6_settle {j e : Nat} (hfl : l.stackTraces = false) (hA : hs_inj A) (hj : j < 12) (he : S.1 26 j = nI e) (he5 : e ≤ 5) (hb8 : ∀ j, narrow .boolean (.int (S.1 8 j)) = .int (S.1 8 j)) (hl : ∀ q, q < 2 + e → ∃ a, a < 6 ∧ cs_liab S j e q = nI a) (hh4 : S.1 24 j = -1 ∨ ∃ a, a < 6 ∧ S.1 24 j = nI a) : hk_Ctr G l 3 yX6_settle cX6_settle 4 (some .boolean) 0 0 [.ref (A 0), .int (nI j)] (hs_ov A (S) h) (cx_Q A h (True) (some (.int (cx_b (cs_set S j e).2))) ((cs_set S j e).1)) (cx_X A h (S) ((fun _ => False))) := by
  refine hk_enter (by decide) hfl (Nat.le_of_ble_eq_true rfl) rfl ?_
  refine hk_aload_n dX6_settle_0 rfl rfl rfl ?_
  refine cx_getf hA (by decide) rfl dX6_settle_1 rfl fl_X6_40 rfl ?_
  refine hk_iload_n dX6_settle_4 rfl rfl rfl ?_
  refine cx_calli hA (by decide) rfl rfl rfl dX6_settle_5 rfl mv_X6_196 (ct_X0_holder hfl hA (by omega)) rfl rfl (by decide) (by decide) (Nat.le_of_ble_eq_true rfl) (fun c5 => ?_) (fun E c => c.elim)
  refine hk_istore_n dX6_settle_8 rfl rfl (by decide) rfl ?_
  refine hk_aload_n dX6_settle_9 rfl rfl rfl ?_
  refine cx_getf hA (by decide) rfl dX6_settle_10 rfl fl_X6_40 rfl ?_
  refine hk_iload_n dX6_settle_13 rfl rfl rfl ?_
  refine cx_callv hA (by decide) rfl rfl rfl dX6_settle_14 rfl mv_X6_342 (ct_X0_end hfl hA (by omega)) rfl rfl (by decide) (by decide) (Nat.le_of_ble_eq_true rfl) (fun c14 => ?_) (fun E c => c.elim)
  refine hk_iload_n dX6_settle_17 rfl rfl rfl ?_
  refine hk_iconst (v := -1) dX6_settle_18 rfl (by decide) ?_
  refine hk_icmp_eq (tgt := 33) dX6_settle_19 (by decide) rfl (fun z19 => ?_) (fun z19 => ?_)
  · skip
    refine hk_iconst (v := nI 0) dX6_settle_33 rfl (by decide) ?_
    exact hk_ireturn rfl (rfl) dX6_settle_34 (by have es : cs_set S j e = (hs_su S 24 j (-1), false) := (by unfold cs_set; first | (rw [if_pos z19]; done) | (rw [if_neg z19, vah, if_pos z31]; done) | (rw [if_neg z19, vah, if_neg z31, ho]; done) | (rw [if_neg z19, vah, if_neg z31, ho]; simp only []; rw [if_pos z48]; done) | (rw [if_neg z19, vah, if_neg z31, ho]; simp only []; rw [if_neg z48]; done)); exact ⟨trivial, by rw [es]; rfl, by first | (rw [es]; done) | (rw [es]; rfl)⟩)
  · skip
    rcases hh4 with hh5 | ⟨a, ha, hav⟩
    · exact absurd hh5 z19
    · have vah : vN (S.1 24 j) = a := by rw [hav]; exact vN_nI (by omega)
      refine hk_aload_n dX6_settle_22 rfl rfl rfl ?_
      refine cx_getf hA (by decide) rfl dX6_settle_23 rfl fl_X6_10 rfl ?_
      refine hk_iload_n dX6_settle_26 rfl rfl rfl ?_
      refine cx_top hav ?_
      refine cx_calli hA (by decide) rfl rfl rfl dX6_settle_27 rfl mv_X6_75 (ct_X3_isOpen hfl hA (by omega) (hb8 _)) rfl rfl (by decide) (by decide) (Nat.le_of_ble_eq_true rfl) (fun c27 => ?_) (fun E c => c.elim)
      refine hk_if_ne (tgt := 35) dX6_settle_30 (by decide) rfl (fun z30 => ?_) (fun z30 => ?_)
      · have z31 : ¬ S.1 8 a = 0 := z30
        refine hk_aload_n dX6_settle_35 rfl rfl rfl ?_
        refine hk_iload_n dX6_settle_36 rfl rfl rfl ?_
        refine cx_calli hA (by decide) rfl rfl rfl dX6_settle_37 rfl mv_X6_345 (ct_X6_firstOpenLiable hfl hA (by omega) he (by omega) hb8 hl) rfl rfl (by decide) (by decide) (Nat.le_of_ble_eq_true rfl) (fun c37 => ?_) (fun E c => c.elim)
        refine hk_istore_n dX6_settle_40 rfl rfl (by decide) rfl ?_
        rcases ho : cs_fol (hs_su S 24 j (-1)) j e (2 + e) with _ | t
        · skip
          refine hk_iload_n dX6_settle_41 rfl rfl rfl ?_
          refine hk_iconst (v := -1) dX6_settle_42 rfl (by decide) ?_
          refine hk_icmp_eq (tgt := 51) dX6_settle_43 (by decide) rfl (fun z43 => ?_) (fun z43 => ?_)
          · skip
            refine hk_iconst (v := nI 0) dX6_settle_51 rfl (by decide) ?_
            exact hk_ireturn rfl (rfl) dX6_settle_52 (by have es : cs_set S j e = (hs_su S 24 j (-1), false) := (by unfold cs_set; first | (rw [if_pos z19]; done) | (rw [if_neg z19, vah, if_pos z31]; done) | (rw [if_neg z19, vah, if_neg z31, ho]; done) | (rw [if_neg z19, vah, if_neg z31, ho]; simp only []; rw [if_pos z48]; done) | (rw [if_neg z19, vah, if_neg z31, ho]; simp only []; rw [if_neg z48]; done)); exact ⟨trivial, by rw [es]; rfl, by first | (rw [es]; done) | (rw [es]; rfl)⟩)
          · exact absurd rfl z43
        · have ht := cs_fol_lt hl (Nat.le_refl 6) ho (Nat.le_refl _)
          refine hk_iload_n dX6_settle_41 rfl rfl rfl ?_
          refine hk_iconst (v := -1) dX6_settle_42 rfl (by decide) ?_
          refine hk_icmp_eq (tgt := 51) dX6_settle_43 (by decide) rfl (fun z43 => ?_) (fun z43 => ?_)
          · exact absurd z43 (cx_ne1 (by omega))
          · skip
            refine hk_iload_n dX6_settle_46 rfl rfl rfl ?_
            refine cx_top (show cs_o (some t) = nI t from rfl) ?_
            refine hk_iload_n dX6_settle_47 rfl rfl rfl ?_
            refine cx_top hav ?_
            refine cx_icmp_ne (tgt := 53) (by omega) (by omega) dX6_settle_48 (by decide) rfl (fun z48 => ?_) (fun z48 => ?_)
            · skip
              refine hk_aload_n dX6_settle_53 rfl rfl rfl ?_
              refine cx_getf hA (by decide) rfl dX6_settle_54 rfl fl_X6_33 rfl ?_
              refine hk_iload_n dX6_settle_57 rfl rfl rfl ?_
              refine cx_top hav ?_
              refine hk_iload_n dX6_settle_58 rfl rfl rfl ?_
              refine cx_top (show cs_o (some t) = nI t from rfl) ?_
              refine hk_aload_n dX6_settle_59 rfl rfl rfl ?_
              refine cx_getf hA (by decide) rfl dX6_settle_60 rfl fl_X6_40 rfl ?_
              refine hk_iload_n dX6_settle_63 rfl rfl rfl ?_
              refine cx_calli hA (by decide) rfl rfl rfl dX6_settle_64 rfl mv_X6_348 (ct_X0_amount hfl hA (by omega)) rfl rfl (by decide) (by decide) (Nat.le_of_ble_eq_true rfl) (fun c64 => ?_) (fun E c => c.elim)
              refine cx_callv hA (by decide) rfl rfl rfl dX6_settle_67 rfl mv_X6_172 (ct_X1_add hfl hA (by omega) (by omega)) rfl rfl (by decide) (by decide) (Nat.le_of_ble_eq_true rfl) (fun c67 => ?_) (fun E c => c.elim)
              refine hk_iconst (v := nI 1) dX6_settle_70 rfl (by decide) ?_
              exact hk_ireturn rfl (rfl) dX6_settle_71 (by have es : cs_set S j e = (cs_cadd (hs_su S 24 j (-1)) a t (S.1 22 j), true) := (by unfold cs_set; first | (rw [if_pos z19]; done) | (rw [if_neg z19, vah, if_pos z31]; done) | (rw [if_neg z19, vah, if_neg z31, ho]; done) | (rw [if_neg z19, vah, if_neg z31, ho]; simp only []; rw [if_pos z48]; done) | (rw [if_neg z19, vah, if_neg z31, ho]; simp only []; rw [if_neg z48]; done)); exact ⟨trivial, by rw [es]; rfl, by first | (rw [es]; done) | (rw [es]; rfl)⟩)
            · skip
              refine hk_iconst (v := nI 0) dX6_settle_51 rfl (by decide) ?_
              exact hk_ireturn rfl (rfl) dX6_settle_52 (by have es : cs_set S j e = (hs_su S 24 j (-1), false) := (by unfold cs_set; first | (rw [if_pos z19]; done) | (rw [if_neg z19, vah, if_pos z31]; done) | (rw [if_neg z19, vah, if_neg z31, ho]; done) | (rw [if_neg z19, vah, if_neg z31, ho]; simp only []; rw [if_pos z48]; done) | (rw [if_neg z19, vah, if_neg z31, ho]; simp only []; rw [if_neg z48]; done)); exact ⟨trivial, by rw [es]; rfl, by first | (rw [es]; done) | (rw [es]; rfl)⟩)
      · have z31 : S.1 8 a = 0 := z30
        refine hk_iconst (v := nI 0) dX6_settle_33 rfl (by decide) ?_
        exact hk_ireturn rfl (rfl) dX6_settle_34 (by have es : cs_set S j e = (hs_su S 24 j (-1), false) := (by unfold cs_set; first | (rw [if_pos z19]; done) | (rw [if_neg z19, vah, if_pos z31]; done) | (rw [if_neg z19, vah, if_neg z31, ho]; done) | (rw [if_neg z19, vah, if_neg z31, ho]; simp only []; rw [if_pos z48]; done) | (rw [if_neg z19, vah, if_neg z31, ho]; simp only []; rw [if_neg z48]; done)); exact ⟨trivial, by rw [es]; rfl, by first | (rw [es]; done) | (rw [es]; rfl)⟩)
theorem ct_X6_nextDay {c nc nb : Nat} (hfl : l.stackTraces = false) (hA : hs_inj A) (hI : cx_I S c nc nb) : hk_Ctr G l 4 yX6_nextDay cX6_nextDay 3 (some .int) 0 0 [.ref (A 0)] (hs_ov A (S) h) (cx_Q A h (True) (some (.int (nI (cs_nd S nb).2))) ((cs_nd S nb).1)) (cx_X A h (S) ((fun _ => False))) := by
  obtain ⟨h30, hc, h31, hnc, h32, hnb, hb7, hb8, hb17, h13, h15, h24, h26⟩ := hI
  refine hk_enter (by decide) hfl (Nat.le_of_ble_eq_true rfl) rfl ?_
  refine hk_aload_n dX6_nextDay_0 rfl rfl rfl ?_
  refine cx_getf hA (by decide) rfl dX6_nextDay_1 rfl fl_X6_40 rfl ?_
  refine cx_callv hA (by decide) rfl rfl rfl dX6_nextDay_4 rfl mv_X6_209 (ct_X0_beginDay hfl hA) rfl rfl (by decide) (by decide) (Nat.le_of_ble_eq_true rfl) (fun c4 => ?_) (fun E c => c.elim)
  refine hk_iconst (v := nI 0) dX6_nextDay_7 rfl (by decide) ?_
  refine hk_istore_n dX6_nextDay_8 rfl rfl (by decide) rfl ?_
  refine hk_iconst (v := nI 0) dX6_nextDay_9 rfl (by decide) ?_
  refine hk_istore_n dX6_nextDay_10 rfl rfl (by decide) rfl ?_
  have lp11 : ∀ f j : Nat, j ≤ nb → nb - j < f → hk_W G l 4 yX6_nextDay cX6_nextDay 3 (some .int) [] (cx_Q A h (True) (some (.int (nI (cs_nd S nb).2))) ((cs_nd S nb).1)) (cx_X A h (S) ((fun _ => False))) 0 0 (hs_ov A ((cs_nd S j).1) h) 11 [some (.ref (A 0)), some (.int (nI (cs_nd S j).2)), some (.int (nI j))] [] := by
    intro f
    induction f with
    | zero => intro j hj hf; exact absurd hf (by omega)
    | succ f ih =>
      intro j hj hf
      refine hk_iload_n dX6_nextDay_11 rfl rfl rfl ?_
      refine hk_aload_n dX6_nextDay_12 rfl rfl rfl ?_
      refine cx_getf hA (by decide) rfl dX6_nextDay_13 rfl fl_X6_40 rfl ?_
      refine cx_calli hA (by decide) rfl rfl rfl dX6_nextDay_16 rfl mv_X6_187 (ct_X0_count hfl hA ((congrFun (cs_nd_ne S (i := 32) (by decide) (by decide) (by decide) j) 0).trans h32)) rfl rfl (by decide) (by decide) (Nat.le_of_ble_eq_true rfl) (fun c16 => ?_) (fun E c => c.elim)
      refine cx_icmp_ge (tgt := 50) (by omega) (by omega) dX6_nextDay_19 (by decide) rfl (fun z19 => ?_) (fun z19 => ?_)
      · skip
        refine hk_iload_n dX6_nextDay_50 rfl rfl rfl ?_
        exact hk_ireturn rfl (rfl) dX6_nextDay_51 (by have e : j = nb := (by omega); subst e; exact ⟨trivial, rfl, rfl⟩)
      · skip
        refine hk_aload_n dX6_nextDay_22 rfl rfl rfl ?_
        refine cx_getf hA (by decide) rfl dX6_nextDay_23 rfl fl_X6_40 rfl ?_
        refine hk_iload_n dX6_nextDay_26 rfl rfl rfl ?_
        refine cx_calli hA (by decide) rfl rfl rfl dX6_nextDay_27 rfl mv_X6_212 (ct_X0_isDueToday hfl hA (by omega)) rfl rfl (by decide) (by decide) (Nat.le_of_ble_eq_true rfl) (fun c27 => ?_) (fun E c => c.elim)
        refine cx_ifb_eq (tgt := 44) dX6_nextDay_30 (by decide) rfl (fun z30 => ?_) (fun z30 => ?_)
        · skip
          refine hk_iinc dX6_nextDay_44 rfl rfl (nI_1 _) (by decide) rfl ?_
          refine hk_goto (tgt := 11) dX6_nextDay_47 (by decide) ?_
          exact cx_cg (by rw [cs_nd_s]; unfold cs_nds; first | rw [if_pos z30, hve] | rw [if_neg (by rw [z30]; decide)]) (by rw [cs_nd_s]; unfold cs_nds; first | (rw [if_pos z30, hve, z38]; rfl) | (rw [if_neg (by rw [z30]; decide)]; rfl)) (ih (j + 1) (by omega) (by omega))
        · skip
          obtain ⟨e, he5, he, hl⟩ := h26 j (by omega)
          have he2 : (cs_nd S j).1.1 26 j = nI e := (congrFun (cs_nd_ne S (i := 26) (by decide) (by decide) (by decide) j) j).trans he
          have hve : vN ((cs_nd S j).1.1 26 j) = e := by rw [he2]; exact vN_nI (by omega)
          have hl2 : ∀ q, q < 2 + e → ∃ a, a < 6 ∧ cs_liab (cs_nd S j).1 j e q = nI a := fun q hq => by
            obtain ⟨a, ha, h9⟩ := hl q hq
            exact ⟨a, by omega, by rw [← h9]; unfold cs_liab; rw [(cs_nd_ne S (i := 20) (by decide) (by decide) (by decide) j), (cs_nd_ne S (i := 21) (by decide) (by decide) (by decide) j), (cs_nd_ne S (i := 25) (by decide) (by decide) (by decide) j)]⟩
          have hb82 : ∀ i, narrow .boolean (.int ((cs_nd S j).1.1 8 i)) = .int ((cs_nd S j).1.1 8 i) := fun i => by rw [(cs_nd_ne S (i := 8) (by decide) (by decide) (by decide) j)]; exact hb8 i
          have hh2 : (cs_nd S j).1.1 24 j = -1 ∨ ∃ a, a < 6 ∧ (cs_nd S j).1.1 24 j = nI a := by
            rcases cs_nd_24 S j j with h9 | h9
            · exact Or.inl h9
            · rw [h9]
              rcases h24 j (by omega) with h8 | ⟨a, ha, h8⟩
              · exact Or.inl h8
              · exact Or.inr ⟨a, by omega, h8⟩
          refine hk_aload_n dX6_nextDay_33 rfl rfl rfl ?_
          refine hk_iload_n dX6_nextDay_34 rfl rfl rfl ?_
          refine cx_calli hA (by decide) rfl rfl rfl dX6_nextDay_35 rfl mv_X6_215 (ct_X6_settle hfl hA (by omega) he2 he5 hb82 hl2 hh2) rfl rfl (by decide) (by decide) (Nat.le_of_ble_eq_true rfl) (fun c35 => ?_) (fun E c => c.elim)
          refine cx_ifb_eq (tgt := 44) dX6_nextDay_38 (by decide) rfl (fun z38 => ?_) (fun z38 => ?_)
          · skip
            refine hk_iinc dX6_nextDay_44 rfl rfl (nI_1 _) (by decide) rfl ?_
            refine hk_goto (tgt := 11) dX6_nextDay_47 (by decide) ?_
            exact cx_cg (by rw [cs_nd_s]; unfold cs_nds; first | rw [if_pos z30, hve] | rw [if_neg (by rw [z30]; decide)]) (by rw [cs_nd_s]; unfold cs_nds; first | (rw [if_pos z30, hve, z38]; rfl) | (rw [if_neg (by rw [z30]; decide)]; rfl)) (ih (j + 1) (by omega) (by omega))
          · skip
            refine hk_iinc dX6_nextDay_41 rfl rfl (nI_1 _) (by decide) rfl ?_
            refine hk_iinc dX6_nextDay_44 rfl rfl (nI_1 _) (by decide) rfl ?_
            refine hk_goto (tgt := 11) dX6_nextDay_47 (by decide) ?_
            exact cx_cg (by rw [cs_nd_s]; unfold cs_nds; first | rw [if_pos z30, hve] | rw [if_neg (by rw [z30]; decide)]) (by rw [cs_nd_s]; unfold cs_nds; first | (rw [if_pos z30, hve, z38]; rfl) | (rw [if_neg (by rw [z30]; decide)]; rfl)) (ih (j + 1) (by omega) (by omega))
  exact lp11 (nb + 1) 0 (by omega) (by omega)
theorem ct_X6_isMetalWhole {c m : Nat} (hfl : l.stackTraces = false) (hA : hs_inj A) (h31 : S.1 31 0 = nI c) (hc : c ≤ 90) (hm : m < 2) (hw : S.1 11 m = cs_oal S m 6 + cs_woa S m c) : hk_Ctr G l 3 yX6_isMetalWhole cX6_isMetalWhole 2 (some .boolean) 0 0 [.ref (A 0), .int (nI m)] (hs_ov A (S) h) (cx_Q A h (True) (some (.int (cx_b true))) (S)) (cx_X A h (S) ((fun _ => False))) := by
  refine hk_enter (by decide) hfl (Nat.le_of_ble_eq_true rfl) rfl ?_
  refine hk_aload_n dX6_isMetalWhole_0 rfl rfl rfl ?_
  refine cx_getf hA (by decide) rfl dX6_isMetalWhole_1 rfl fl_X6_19 rfl ?_
  refine hk_iload_n dX6_isMetalWhole_4 rfl rfl rfl ?_
  refine cx_calli hA (by decide) rfl rfl rfl dX6_isMetalWhole_5 rfl mv_X6_356 (ct_X4_dug hfl hA (by omega)) rfl rfl (by decide) (by decide) (Nat.le_of_ble_eq_true rfl) (fun c5 => ?_) (fun E c => c.elim)
  refine hk_aload_n dX6_isMetalWhole_8 rfl rfl rfl ?_
  refine cx_getf hA (by decide) rfl dX6_isMetalWhole_9 rfl fl_X6_19 rfl ?_
  refine hk_iload_n dX6_isMetalWhole_12 rfl rfl rfl ?_
  refine cx_calli hA (by decide) rfl rfl rfl dX6_isMetalWhole_13 rfl mv_X6_359 (ct_X4_oreOfAll hfl hA (by omega)) rfl rfl (by decide) (by decide) (Nat.le_of_ble_eq_true rfl) (fun c13 => ?_) (fun E c => c.elim)
  refine hk_aload_n dX6_isMetalWhole_16 rfl rfl rfl ?_
  refine cx_getf hA (by decide) rfl dX6_isMetalWhole_17 rfl fl_X6_26 rfl ?_
  refine hk_iload_n dX6_isMetalWhole_20 rfl rfl rfl ?_
  refine cx_calli hA (by decide) rfl rfl rfl dX6_isMetalWhole_21 rfl mv_X6_261 (ct_X2_weightOfAll hfl hA h31 (by omega)) rfl rfl (by decide) (by decide) (Nat.le_of_ble_eq_true rfl) (fun c21 => ?_) (fun E c => c.elim)
  refine hk_iadd dX6_isMetalWhole_24 rfl ?_
  refine hk_icmp_ne (tgt := 32) dX6_isMetalWhole_25 (by decide) rfl (fun z25 => ?_) (fun z25 => ?_)
  · exact absurd hw z25
  · skip
    refine hk_iconst (v := nI 1) dX6_isMetalWhole_28 rfl (by decide) ?_
    refine hk_goto (tgt := 33) dX6_isMetalWhole_29 (by decide) ?_
    exact hk_ireturn rfl (rfl) dX6_isMetalWhole_33 (⟨trivial, rfl, rfl⟩)
theorem ct_X6_areClaimsSound  (hfl : l.stackTraces = false) (hA : hs_inj A) (hb8 : ∀ j, narrow .boolean (.int (S.1 8 j)) = .int (S.1 8 j)) (h1 : ∀ j, j < 6 → ¬ cs_lst S j 5 < 0) (h2 : ∀ j, j < 6 → S.1 8 j = 0 → cs_sof S j 6 = 0 ∧ cs_son S j 6 = 0) (h3 : cs_sumof S 6 = cs_sumon S 6) : hk_Ctr G l 3 yX6_areClaimsSound cX6_areClaimsSound 7 (some .boolean) 0 0 [.ref (A 0)] (hs_ov A (S) h) (cx_Q A h (True) (some (.int (cx_b true))) (S)) (cx_X A h (S) ((fun _ => False))) := by
  refine hk_enter (by decide) hfl (Nat.le_of_ble_eq_true rfl) rfl ?_
  refine hk_lconst (v := 0) dX6_areClaimsSound_0 rfl (by decide) ?_
  refine hk_lstore_n dX6_areClaimsSound_1 rfl rfl (by decide) rfl ?_
  refine hk_lconst (v := 0) dX6_areClaimsSound_2 rfl (by decide) ?_
  refine hk_lstore_n dX6_areClaimsSound_3 rfl rfl (by decide) rfl ?_
  refine hk_iconst (v := nI 0) dX6_areClaimsSound_4 rfl (by decide) ?_
  refine hk_istore dX6_areClaimsSound_5 rfl (by decide) rfl ?_
  have lp7 : ∀ f j : Nat, j ≤ 6 → 6 - j < f → hk_W G l 3 yX6_areClaimsSound cX6_areClaimsSound 7 (some .boolean) [] (cx_Q A h (True) (some (.int (cx_b true))) (S)) (cx_X A h (S) ((fun _ => False))) 0 0 (hs_ov A (S) h) 7 [some (.ref (A 0)), some (.long (cs_sumof S j)), none, some (.long (cs_sumon S j)), none, some (.int (nI j)), none] [] := by
    intro f
    induction f with
    | zero => intro j hj hf; exact absurd hf (by omega)
    | succ f ih =>
      intro j hj hf
      refine hk_iload dX6_areClaimsSound_7 rfl rfl ?_
      refine hk_bipush (v := nI 6) dX6_areClaimsSound_9 rfl (by decide) ?_
      refine cx_icmp_ge (tgt := 112) (by omega) (by omega) dX6_areClaimsSound_11 (by decide) rfl (fun z11 => ?_) (fun z11 => ?_)
      · skip
        refine hk_lload_n dX6_areClaimsSound_112 rfl rfl rfl ?_
        refine hk_lload_n dX6_areClaimsSound_113 rfl rfl rfl ?_
        refine hk_lcmp dX6_areClaimsSound_114 rfl ?_
        refine hk_if_ne (tgt := 122) dX6_areClaimsSound_115 (by decide) rfl (fun z115 => ?_) (fun z115 => ?_)
        · exact absurd (lg_cmp_0.mpr (by have e : j = 6 := (by omega); subst e; exact h3)) z115
        · skip
          refine hk_iconst (v := nI 1) dX6_areClaimsSound_118 rfl (by decide) ?_
          refine hk_goto (tgt := 123) dX6_areClaimsSound_119 (by decide) ?_
          exact hk_ireturn rfl (rfl) dX6_areClaimsSound_123 (⟨trivial, rfl, rfl⟩)
      · skip
        refine hk_aload_n dX6_areClaimsSound_14 rfl rfl rfl ?_
        refine cx_getf hA (by decide) rfl dX6_areClaimsSound_15 rfl fl_X6_33 rfl ?_
        refine hk_iload dX6_areClaimsSound_18 rfl rfl ?_
        refine cx_calli hA (by decide) rfl rfl rfl dX6_areClaimsSound_20 rfl mv_X6_362 (ct_X1_leastOf hfl hA (by omega)) rfl rfl (by decide) (by decide) (Nat.le_of_ble_eq_true rfl) (fun c20 => ?_) (fun E c => c.elim)
        refine hk_if_ge (tgt := 28) dX6_areClaimsSound_23 (by decide) rfl (fun z23 => ?_) (fun z23 => ?_)
        · skip
          refine hk_aload_n dX6_areClaimsSound_28 rfl rfl rfl ?_
          refine cx_getf hA (by decide) rfl dX6_areClaimsSound_29 rfl fl_X6_33 rfl ?_
          refine hk_iload dX6_areClaimsSound_32 rfl rfl ?_
          refine cx_calll hA (by decide) rfl rfl rfl dX6_areClaimsSound_34 rfl mv_X6_244 (ct_X1_sumOf hfl hA (by omega)) rfl rfl (by decide) (by decide) (Nat.le_of_ble_eq_true rfl) (fun c34 => ?_) (fun E c => c.elim)
          refine hk_lconst (v := 0) dX6_areClaimsSound_37 rfl (by decide) ?_
          refine hk_lcmp dX6_areClaimsSound_38 rfl ?_
          refine hk_if_ne (tgt := 60) dX6_areClaimsSound_39 (by decide) rfl (fun z39 => ?_) (fun z39 => ?_)
          · skip
            refine hk_iconst (v := nI 0) dX6_areClaimsSound_60 rfl (by decide) ?_
            refine hk_istore dX6_areClaimsSound_61 rfl (by decide) rfl ?_
            refine hk_iload dX6_areClaimsSound_63 rfl rfl ?_
            refine cx_ifn_ne (tgt := 82) (by omega) dX6_areClaimsSound_65 (by decide) rfl (fun z65 => ?_) (fun z65 => ?_)
            · skip
              refine hk_lload_n dX6_areClaimsSound_82 rfl rfl rfl ?_
              refine hk_aload_n dX6_areClaimsSound_83 rfl rfl rfl ?_
              refine cx_getf hA (by decide) rfl dX6_areClaimsSound_84 rfl fl_X6_33 rfl ?_
              refine hk_iload dX6_areClaimsSound_87 rfl rfl ?_
              refine cx_calll hA (by decide) rfl rfl rfl dX6_areClaimsSound_89 rfl mv_X6_244 (ct_X1_sumOf hfl hA (by omega)) rfl rfl (by decide) (by decide) (Nat.le_of_ble_eq_true rfl) (fun c89 => ?_) (fun E c => c.elim)
              refine hk_ladd dX6_areClaimsSound_92 rfl ?_
              refine hk_lstore_n dX6_areClaimsSound_93 rfl rfl (by decide) rfl ?_
              refine hk_lload_n dX6_areClaimsSound_94 rfl rfl rfl ?_
              refine hk_aload_n dX6_areClaimsSound_95 rfl rfl rfl ?_
              refine cx_getf hA (by decide) rfl dX6_areClaimsSound_96 rfl fl_X6_33 rfl ?_
              refine hk_iload dX6_areClaimsSound_99 rfl rfl ?_
              refine cx_calll hA (by decide) rfl rfl rfl dX6_areClaimsSound_101 rfl mv_X6_248 (ct_X1_sumOn hfl hA (by omega)) rfl rfl (by decide) (by decide) (Nat.le_of_ble_eq_true rfl) (fun c101 => ?_) (fun E c => c.elim)
              refine hk_ladd dX6_areClaimsSound_104 rfl ?_
              refine hk_lstore_n dX6_areClaimsSound_105 rfl rfl (by decide) rfl ?_
              refine hk_iinc dX6_areClaimsSound_106 rfl rfl (nI_1 _) (by decide) rfl ?_
              refine hk_goto (tgt := 7) dX6_areClaimsSound_109 (by decide) ?_
              refine cx_fg 6 ?_
              exact cx_cg rfl rfl (ih (j + 1) (by omega) (by omega))
            · skip
              refine hk_aload_n dX6_areClaimsSound_68 rfl rfl rfl ?_
              refine cx_getf hA (by decide) rfl dX6_areClaimsSound_69 rfl fl_X6_10 rfl ?_
              refine hk_iload dX6_areClaimsSound_72 rfl rfl ?_
              refine cx_calli hA (by decide) rfl rfl rfl dX6_areClaimsSound_74 rfl mv_X6_75 (ct_X3_isOpen hfl hA (by omega) (hb8 _)) rfl rfl (by decide) (by decide) (Nat.le_of_ble_eq_true rfl) (fun c74 => ?_) (fun E c => c.elim)
              refine hk_if_ne (tgt := 82) dX6_areClaimsSound_77 (by decide) rfl (fun z77 => ?_) (fun z77 => ?_)
              · skip
                refine hk_lload_n dX6_areClaimsSound_82 rfl rfl rfl ?_
                refine hk_aload_n dX6_areClaimsSound_83 rfl rfl rfl ?_
                refine cx_getf hA (by decide) rfl dX6_areClaimsSound_84 rfl fl_X6_33 rfl ?_
                refine hk_iload dX6_areClaimsSound_87 rfl rfl ?_
                refine cx_calll hA (by decide) rfl rfl rfl dX6_areClaimsSound_89 rfl mv_X6_244 (ct_X1_sumOf hfl hA (by omega)) rfl rfl (by decide) (by decide) (Nat.le_of_ble_eq_true rfl) (fun c89 => ?_) (fun E c => c.elim)
                refine hk_ladd dX6_areClaimsSound_92 rfl ?_
                refine hk_lstore_n dX6_areClaimsSound_93 rfl rfl (by decide) rfl ?_
                refine hk_lload_n dX6_areClaimsSound_94 rfl rfl rfl ?_
                refine hk_aload_n dX6_areClaimsSound_95 rfl rfl rfl ?_
                refine cx_getf hA (by decide) rfl dX6_areClaimsSound_96 rfl fl_X6_33 rfl ?_
                refine hk_iload dX6_areClaimsSound_99 rfl rfl ?_
                refine cx_calll hA (by decide) rfl rfl rfl dX6_areClaimsSound_101 rfl mv_X6_248 (ct_X1_sumOn hfl hA (by omega)) rfl rfl (by decide) (by decide) (Nat.le_of_ble_eq_true rfl) (fun c101 => ?_) (fun E c => c.elim)
                refine hk_ladd dX6_areClaimsSound_104 rfl ?_
                refine hk_lstore_n dX6_areClaimsSound_105 rfl rfl (by decide) rfl ?_
                refine hk_iinc dX6_areClaimsSound_106 rfl rfl (nI_1 _) (by decide) rfl ?_
                refine hk_goto (tgt := 7) dX6_areClaimsSound_109 (by decide) ?_
                refine cx_fg 6 ?_
                exact cx_cg rfl rfl (ih (j + 1) (by omega) (by omega))
              · first | exact absurd z65 (by decide) | exact absurd (h2 j (by omega) z77) (fun q => by first | exact z39 (lg_cmp_0.mpr q.1) | exact z53 (lg_cmp_0.mpr q.2))
          · skip
            refine hk_aload_n dX6_areClaimsSound_42 rfl rfl rfl ?_
            refine cx_getf hA (by decide) rfl dX6_areClaimsSound_43 rfl fl_X6_33 rfl ?_
            refine hk_iload dX6_areClaimsSound_46 rfl rfl ?_
            refine cx_calll hA (by decide) rfl rfl rfl dX6_areClaimsSound_48 rfl mv_X6_248 (ct_X1_sumOn hfl hA (by omega)) rfl rfl (by decide) (by decide) (Nat.le_of_ble_eq_true rfl) (fun c48 => ?_) (fun E c => c.elim)
            refine hk_lconst (v := 0) dX6_areClaimsSound_51 rfl (by decide) ?_
            refine hk_lcmp dX6_areClaimsSound_52 rfl ?_
            refine hk_if_ne (tgt := 60) dX6_areClaimsSound_53 (by decide) rfl (fun z53 => ?_) (fun z53 => ?_)
            · skip
              refine hk_iconst (v := nI 0) dX6_areClaimsSound_60 rfl (by decide) ?_
              refine hk_istore dX6_areClaimsSound_61 rfl (by decide) rfl ?_
              refine hk_iload dX6_areClaimsSound_63 rfl rfl ?_
              refine cx_ifn_ne (tgt := 82) (by omega) dX6_areClaimsSound_65 (by decide) rfl (fun z65 => ?_) (fun z65 => ?_)
              · skip
                refine hk_lload_n dX6_areClaimsSound_82 rfl rfl rfl ?_
                refine hk_aload_n dX6_areClaimsSound_83 rfl rfl rfl ?_
                refine cx_getf hA (by decide) rfl dX6_areClaimsSound_84 rfl fl_X6_33 rfl ?_
                refine hk_iload dX6_areClaimsSound_87 rfl rfl ?_
                refine cx_calll hA (by decide) rfl rfl rfl dX6_areClaimsSound_89 rfl mv_X6_244 (ct_X1_sumOf hfl hA (by omega)) rfl rfl (by decide) (by decide) (Nat.le_of_ble_eq_true rfl) (fun c89 => ?_) (fun E c => c.elim)
                refine hk_ladd dX6_areClaimsSound_92 rfl ?_
                refine hk_lstore_n dX6_areClaimsSound_93 rfl rfl (by decide) rfl ?_
                refine hk_lload_n dX6_areClaimsSound_94 rfl rfl rfl ?_
                refine hk_aload_n dX6_areClaimsSound_95 rfl rfl rfl ?_
                refine cx_getf hA (by decide) rfl dX6_areClaimsSound_96 rfl fl_X6_33 rfl ?_
                refine hk_iload dX6_areClaimsSound_99 rfl rfl ?_
                refine cx_calll hA (by decide) rfl rfl rfl dX6_areClaimsSound_101 rfl mv_X6_248 (ct_X1_sumOn hfl hA (by omega)) rfl rfl (by decide) (by decide) (Nat.le_of_ble_eq_true rfl) (fun c101 => ?_) (fun E c => c.elim)
                refine hk_ladd dX6_areClaimsSound_104 rfl ?_
                refine hk_lstore_n dX6_areClaimsSound_105 rfl rfl (by decide) rfl ?_
                refine hk_iinc dX6_areClaimsSound_106 rfl rfl (nI_1 _) (by decide) rfl ?_
                refine hk_goto (tgt := 7) dX6_areClaimsSound_109 (by decide) ?_
                refine cx_fg 6 ?_
                exact cx_cg rfl rfl (ih (j + 1) (by omega) (by omega))
              · skip
                refine hk_aload_n dX6_areClaimsSound_68 rfl rfl rfl ?_
                refine cx_getf hA (by decide) rfl dX6_areClaimsSound_69 rfl fl_X6_10 rfl ?_
                refine hk_iload dX6_areClaimsSound_72 rfl rfl ?_
                refine cx_calli hA (by decide) rfl rfl rfl dX6_areClaimsSound_74 rfl mv_X6_75 (ct_X3_isOpen hfl hA (by omega) (hb8 _)) rfl rfl (by decide) (by decide) (Nat.le_of_ble_eq_true rfl) (fun c74 => ?_) (fun E c => c.elim)
                refine hk_if_ne (tgt := 82) dX6_areClaimsSound_77 (by decide) rfl (fun z77 => ?_) (fun z77 => ?_)
                · skip
                  refine hk_lload_n dX6_areClaimsSound_82 rfl rfl rfl ?_
                  refine hk_aload_n dX6_areClaimsSound_83 rfl rfl rfl ?_
                  refine cx_getf hA (by decide) rfl dX6_areClaimsSound_84 rfl fl_X6_33 rfl ?_
                  refine hk_iload dX6_areClaimsSound_87 rfl rfl ?_
                  refine cx_calll hA (by decide) rfl rfl rfl dX6_areClaimsSound_89 rfl mv_X6_244 (ct_X1_sumOf hfl hA (by omega)) rfl rfl (by decide) (by decide) (Nat.le_of_ble_eq_true rfl) (fun c89 => ?_) (fun E c => c.elim)
                  refine hk_ladd dX6_areClaimsSound_92 rfl ?_
                  refine hk_lstore_n dX6_areClaimsSound_93 rfl rfl (by decide) rfl ?_
                  refine hk_lload_n dX6_areClaimsSound_94 rfl rfl rfl ?_
                  refine hk_aload_n dX6_areClaimsSound_95 rfl rfl rfl ?_
                  refine cx_getf hA (by decide) rfl dX6_areClaimsSound_96 rfl fl_X6_33 rfl ?_
                  refine hk_iload dX6_areClaimsSound_99 rfl rfl ?_
                  refine cx_calll hA (by decide) rfl rfl rfl dX6_areClaimsSound_101 rfl mv_X6_248 (ct_X1_sumOn hfl hA (by omega)) rfl rfl (by decide) (by decide) (Nat.le_of_ble_eq_true rfl) (fun c101 => ?_) (fun E c => c.elim)
                  refine hk_ladd dX6_areClaimsSound_104 rfl ?_
                  refine hk_lstore_n dX6_areClaimsSound_105 rfl rfl (by decide) rfl ?_
                  refine hk_iinc dX6_areClaimsSound_106 rfl rfl (nI_1 _) (by decide) rfl ?_
                  refine hk_goto (tgt := 7) dX6_areClaimsSound_109 (by decide) ?_
                  refine cx_fg 6 ?_
                  exact cx_cg rfl rfl (ih (j + 1) (by omega) (by omega))
                · first | exact absurd z65 (by decide) | exact absurd (h2 j (by omega) z77) (fun q => by first | exact z39 (lg_cmp_0.mpr q.1) | exact z53 (lg_cmp_0.mpr q.2))
            · skip
              refine hk_iconst (v := nI 1) dX6_areClaimsSound_56 rfl (by decide) ?_
              refine hk_goto (tgt := 61) dX6_areClaimsSound_57 (by decide) ?_
              refine hk_istore dX6_areClaimsSound_61 rfl (by decide) rfl ?_
              refine hk_iload dX6_areClaimsSound_63 rfl rfl ?_
              refine cx_ifn_ne (tgt := 82) (by omega) dX6_areClaimsSound_65 (by decide) rfl (fun z65 => ?_) (fun z65 => ?_)
              · skip
                refine hk_lload_n dX6_areClaimsSound_82 rfl rfl rfl ?_
                refine hk_aload_n dX6_areClaimsSound_83 rfl rfl rfl ?_
                refine cx_getf hA (by decide) rfl dX6_areClaimsSound_84 rfl fl_X6_33 rfl ?_
                refine hk_iload dX6_areClaimsSound_87 rfl rfl ?_
                refine cx_calll hA (by decide) rfl rfl rfl dX6_areClaimsSound_89 rfl mv_X6_244 (ct_X1_sumOf hfl hA (by omega)) rfl rfl (by decide) (by decide) (Nat.le_of_ble_eq_true rfl) (fun c89 => ?_) (fun E c => c.elim)
                refine hk_ladd dX6_areClaimsSound_92 rfl ?_
                refine hk_lstore_n dX6_areClaimsSound_93 rfl rfl (by decide) rfl ?_
                refine hk_lload_n dX6_areClaimsSound_94 rfl rfl rfl ?_
                refine hk_aload_n dX6_areClaimsSound_95 rfl rfl rfl ?_
                refine cx_getf hA (by decide) rfl dX6_areClaimsSound_96 rfl fl_X6_33 rfl ?_
                refine hk_iload dX6_areClaimsSound_99 rfl rfl ?_
                refine cx_calll hA (by decide) rfl rfl rfl dX6_areClaimsSound_101 rfl mv_X6_248 (ct_X1_sumOn hfl hA (by omega)) rfl rfl (by decide) (by decide) (Nat.le_of_ble_eq_true rfl) (fun c101 => ?_) (fun E c => c.elim)
                refine hk_ladd dX6_areClaimsSound_104 rfl ?_
                refine hk_lstore_n dX6_areClaimsSound_105 rfl rfl (by decide) rfl ?_
                refine hk_iinc dX6_areClaimsSound_106 rfl rfl (nI_1 _) (by decide) rfl ?_
                refine hk_goto (tgt := 7) dX6_areClaimsSound_109 (by decide) ?_
                refine cx_fg 6 ?_
                exact cx_cg rfl rfl (ih (j + 1) (by omega) (by omega))
              · skip
                refine hk_aload_n dX6_areClaimsSound_68 rfl rfl rfl ?_
                refine cx_getf hA (by decide) rfl dX6_areClaimsSound_69 rfl fl_X6_10 rfl ?_
                refine hk_iload dX6_areClaimsSound_72 rfl rfl ?_
                refine cx_calli hA (by decide) rfl rfl rfl dX6_areClaimsSound_74 rfl mv_X6_75 (ct_X3_isOpen hfl hA (by omega) (hb8 _)) rfl rfl (by decide) (by decide) (Nat.le_of_ble_eq_true rfl) (fun c74 => ?_) (fun E c => c.elim)
                refine hk_if_ne (tgt := 82) dX6_areClaimsSound_77 (by decide) rfl (fun z77 => ?_) (fun z77 => ?_)
                · skip
                  refine hk_lload_n dX6_areClaimsSound_82 rfl rfl rfl ?_
                  refine hk_aload_n dX6_areClaimsSound_83 rfl rfl rfl ?_
                  refine cx_getf hA (by decide) rfl dX6_areClaimsSound_84 rfl fl_X6_33 rfl ?_
                  refine hk_iload dX6_areClaimsSound_87 rfl rfl ?_
                  refine cx_calll hA (by decide) rfl rfl rfl dX6_areClaimsSound_89 rfl mv_X6_244 (ct_X1_sumOf hfl hA (by omega)) rfl rfl (by decide) (by decide) (Nat.le_of_ble_eq_true rfl) (fun c89 => ?_) (fun E c => c.elim)
                  refine hk_ladd dX6_areClaimsSound_92 rfl ?_
                  refine hk_lstore_n dX6_areClaimsSound_93 rfl rfl (by decide) rfl ?_
                  refine hk_lload_n dX6_areClaimsSound_94 rfl rfl rfl ?_
                  refine hk_aload_n dX6_areClaimsSound_95 rfl rfl rfl ?_
                  refine cx_getf hA (by decide) rfl dX6_areClaimsSound_96 rfl fl_X6_33 rfl ?_
                  refine hk_iload dX6_areClaimsSound_99 rfl rfl ?_
                  refine cx_calll hA (by decide) rfl rfl rfl dX6_areClaimsSound_101 rfl mv_X6_248 (ct_X1_sumOn hfl hA (by omega)) rfl rfl (by decide) (by decide) (Nat.le_of_ble_eq_true rfl) (fun c101 => ?_) (fun E c => c.elim)
                  refine hk_ladd dX6_areClaimsSound_104 rfl ?_
                  refine hk_lstore_n dX6_areClaimsSound_105 rfl rfl (by decide) rfl ?_
                  refine hk_iinc dX6_areClaimsSound_106 rfl rfl (nI_1 _) (by decide) rfl ?_
                  refine hk_goto (tgt := 7) dX6_areClaimsSound_109 (by decide) ?_
                  refine cx_fg 6 ?_
                  exact cx_cg rfl rfl (ih (j + 1) (by omega) (by omega))
                · first | exact absurd z65 (by decide) | exact absurd (h2 j (by omega) z77) (fun q => by first | exact z39 (lg_cmp_0.mpr q.1) | exact z53 (lg_cmp_0.mpr q.2))
        · exact absurd (Int32.not_le.mp z23) (h1 j (by omega))
  exact lp7 (6 + 1) 0 (by omega) (by omega)
theorem ct_X6_isSound {c : Nat} (hfl : l.stackTraces = false) (hA : hs_inj A) (h31 : S.1 31 0 = nI c) (hc : c ≤ 90) (hb8 : ∀ j, narrow .boolean (.int (S.1 8 j)) = .int (S.1 8 j)) (h1 : ∀ j, j < 6 → ¬ cs_lst S j 5 < 0) (h2 : ∀ j, j < 6 → S.1 8 j = 0 → cs_sof S j 6 = 0 ∧ cs_son S j 6 = 0) (h3 : cs_sumof S 6 = cs_sumon S 6) (hw0 : S.1 11 0 = cs_oal S 0 6 + cs_woa S 0 c) (hw1 : S.1 11 1 = cs_oal S 1 6 + cs_woa S 1 c) (hg : cs_wg S c = true) : hk_Ctr G l 4 yX6_isSound cX6_isSound 1 (some .boolean) 0 0 [.ref (A 0)] (hs_ov A (S) h) (cx_Q A h (True) (some (.int (nI 1))) (S)) (cx_X A h (S) ((fun _ => False))) := by
  refine hk_enter (by decide) hfl (Nat.le_of_ble_eq_true rfl) rfl ?_
  refine hk_aload_n dX6_isSound_0 rfl rfl rfl ?_
  refine hk_iconst (v := nI 0) dX6_isSound_1 rfl (by decide) ?_
  refine cx_calli hA (by decide) rfl rfl rfl dX6_isSound_2 rfl mv_X6_264 (ct_X6_isMetalWhole hfl hA h31 (by omega) (by decide) hw0) rfl rfl (by decide) (by decide) (Nat.le_of_ble_eq_true rfl) (fun c2 => ?_) (fun E c => c.elim)
  refine cx_ifb_eq (tgt := 37) dX6_isSound_5 (by decide) rfl (fun z5 => ?_) (fun z5 => ?_)
  · cases z5
  · skip
    refine hk_aload_n dX6_isSound_8 rfl rfl rfl ?_
    refine hk_iconst (v := nI 1) dX6_isSound_9 rfl (by decide) ?_
    refine cx_calli hA (by decide) rfl rfl rfl dX6_isSound_10 rfl mv_X6_264 (ct_X6_isMetalWhole hfl hA h31 (by omega) (by decide) hw1) rfl rfl (by decide) (by decide) (Nat.le_of_ble_eq_true rfl) (fun c10 => ?_) (fun E c => c.elim)
    refine cx_ifb_eq (tgt := 37) dX6_isSound_13 (by decide) rfl (fun z13 => ?_) (fun z13 => ?_)
    · cases z13
    · skip
      refine hk_aload_n dX6_isSound_16 rfl rfl rfl ?_
      refine cx_calli hA (by decide) rfl rfl rfl dX6_isSound_17 rfl mv_X6_267 (ct_X6_areClaimsSound hfl hA hb8 h1 h2 h3) rfl rfl (by decide) (by decide) (Nat.le_of_ble_eq_true rfl) (fun c17 => ?_) (fun E c => c.elim)
      refine cx_ifb_eq (tgt := 37) dX6_isSound_20 (by decide) rfl (fun z20 => ?_) (fun z20 => ?_)
      · cases z20
      · skip
        refine hk_aload_n dX6_isSound_23 rfl rfl rfl ?_
        refine cx_getf hA (by decide) rfl dX6_isSound_24 rfl fl_X6_26 rfl ?_
        refine cx_calli hA (by decide) rfl rfl rfl dX6_isSound_27 rfl mv_X6_271 (ct_X2_areWhereGiven hfl hA h31 (by omega)) rfl rfl (by decide) (by decide) (Nat.le_of_ble_eq_true rfl) (fun c27 => ?_) (fun E c => c.elim)
        refine cx_ifb_eq (tgt := 37) dX6_isSound_30 (by decide) rfl (fun z30 => ?_) (fun z30 => ?_)
        · exact absurd (z30.symm.trans hg) (by decide)
        · skip
          refine hk_iconst (v := nI 1) dX6_isSound_33 rfl (by decide) ?_
          refine hk_goto (tgt := 38) dX6_isSound_34 (by decide) ?_
          exact hk_ireturn rfl (rfl) dX6_isSound_38 (⟨trivial, rfl, rfl⟩)
def cd_a (v : Int32) : Nat := if v = nI 98 then 0 else (if v = nI 116 then 0 else 2)
def cd_n (c k e : Nat) : Nat := if c < k then 0 else e
def cd_addHouse (c : Nat) (v : Int32) : Nat := cs_sq (cd_a v) (cd_n c 6 3)
def cs_kindOf (S : hs_S) (a : Nat) : Int32 := if S.1 8 a = 0 then nI 120 else S.1 7 a
def cd_dig (S : hs_S) (c : Nat) (v mt q : Int32) : Nat := cs_sq (cd_H c v) (cs_sq (cd_M mt) (cs_sq (cd_R q 99) (cd_O S (vN v))))
def cs_dig (S : hs_S) (v mt q : Int32) : hs_S := cs_une S (vN v) (cs_m mt) q
def cd_decree (mt v q : Int32) : Nat := cs_sq (cd_M mt) (cs_sq (cd_R v 99) (cd_R q 9))
def cs_decree (S : hs_S) (mt v q : Int32) : hs_S := hs_su (hs_su S 9 (cs_m mt) v) 10 (cs_m mt) q
def cd_ore (S : hs_S) (a m : Nat) (q : Int32) : Nat := if q ≤ S.1 12 (a * 2 + m) then 0 else 4
def cd_le (k c : Nat) : Nat := if k ≤ c then 0 else 4
def cd_mint (S : hs_S) (c nc : Nat) (v mt q : Int32) : Nat := cs_sq (cd_H c v) (cs_sq (cd_M mt) (cs_sq (cd_R q 90) (cs_sq (cd_O S (vN v)) (cs_sq (cd_ore S (vN v) (cs_m mt) (q * S.1 10 (cs_m mt))) (cd_le (vN q) (90 - nc))))))
def cs_mint (S : hs_S) (nc : Nat) (v mt q : Int32) : hs_S := (cs_stk (vN v) (cs_m mt) (S.1 10 (cs_m mt)) (vN q) S nc).1
def cd_clw (S : hs_S) (j : Nat) (q : Int32) : Nat := if nI 1 ≤ S.1 14 j - q then 0 else 4
def cd_clip (S : hs_S) (nc : Nat) (v q : Int32) : Nat := cs_sq (cd_H nc v) (cs_sq (cd_R q 9) (cs_sq (cd_W S (vN v)) (cd_clw S (vN v) q)))
def cs_clip (S : hs_S) (v q : Int32) : hs_S := cs_oadd (hs_su S 14 (vN v) (S.1 14 (vN v) - q)) (vN (S.1 15 (vN v))) (vN (S.1 13 (vN v))) q
def cd_hoard (S : hs_S) (nc : Nat) (v : Int32) : Nat := cs_sq (cd_H nc v) (cd_W S (vN v))
def cd_recoin (S : hs_S) (c : Nat) (v mt : Int32) : Nat := cs_sq (cd_H c v) (cs_sq (cd_M mt) (cd_O S (vN v)))
def cs_rc1 (S : hs_S) (nc : Nat) (a m : Nat) : hs_S := cs_oadd (cs_melt a m S nc).1 a m (cs_melt a m S nc).2
def cs_recoin (S : hs_S) (nc : Nat) (v mt : Int32) : hs_S × Nat := cs_stk (vN v) (cs_m mt) ((cs_rc1 S nc (vN v) (cs_m mt)).1 10 (cs_m mt)) 90 (cs_rc1 S nc (vN v) (cs_m mt)) nc
theorem cs_rc1_31 (S : hs_S) (nc a m : Nat) : (cs_rc1 S nc a m).1 31 0 = S.1 31 0 := by
  unfold cs_rc1 cs_oadd
  rw [hs_su_ne _ _ _ (by decide)]
  exact cs_melt_31 a m S nc
def cd_pay (S : hs_S) (c nc : Nat) (v t mt q : Int32) : Nat := cs_sq (cd_H c v) (cs_sq (cd_H c t) (cs_sq (cd_M mt) (cs_sq (cd_R q 90) (cs_sq (cd_D v t) (cs_sq (cd_O S (vN v)) (cs_sq (cd_O S (vN t)) (cd_L S (vN v) (cs_m mt) (vN q) nc)))))))
def cs_pay (S : hs_S) (nc : Nat) (v t mt q : Int32) : hs_S × Int32 := cs_gl (vN v) (vN t) (cs_m mt) nc S (vN q)
def cd_deposit (S : hs_S) (c nc : Nat) (v t mt q : Int32) : Nat := cs_sq (cd_H c v) (cs_sq (cd_H c t) (cs_sq (cd_M mt) (cs_sq (cd_R q 90) (cs_sq (cd_K S (vN v) (vN t)) (cd_L S (vN v) (cs_m mt) (vN q) nc)))))
def cs_deposit (S : hs_S) (nc : Nat) (v t mt q : Int32) : hs_S := cs_cadd (cs_pay S nc v t mt q).1 (vN v) (vN t) (q * (cs_pay S nc v t mt q).1.1 9 (cs_m mt))
def cd_withdraw (S : hs_S) (c : Nat) (v t mt q : Int32) : Nat := cs_sq (cd_H c v) (cs_sq (cd_H c t) (cs_sq (cd_M mt) (cs_sq (cd_R q 90) (cs_sq (cd_K S (vN v) (vN t)) (cd_C S (vN v) (vN t) (q * S.1 9 (cs_m mt)))))))
def cs_wd (S : hs_S) (nc a b m k : Nat) : hs_S × Int32 := if k ≤ cs_loose S b m nc then (cs_cadd (cs_gl b a m nc S k).1 a b (-(nI k * S.1 9 m)), nI 112) else (cs_fail S b nc, nI 120)
def cs_withdraw (S : hs_S) (nc : Nat) (v t mt q : Int32) : hs_S × Int32 := cs_wd S nc (vN v) (vN t) (cs_m mt) (vN q)
def cd_lend (S : hs_S) (c : Nat) (q v x : Int32) : Nat := cs_sq (cd_H c q) (cs_sq (cd_H c v) (cs_sq (cd_R x 9999) (cd_K S (vN v) (vN q))))
def cs_lend (S : hs_S) (q v x : Int32) : hs_S := cs_cadd (cs_cadd S (vN v) (vN q) x) (vN q) (vN v) x
def cd_hand (S : hs_S) (c : Nat) (v t q x : Int32) : Nat := cs_sq (cd_H c v) (cs_sq (cd_H c t) (cs_sq (cd_H c q) (cs_sq (cd_R x 9999) (cs_sq (cd_D v t) (cs_sq (cd_D t q) (cs_sq (cd_K S (vN v) (vN q)) (cs_sq (cd_O S (vN t)) (cd_C S (vN v) (vN q) x))))))))
def cs_hand (S : hs_S) (v t q x : Int32) : hs_S := cs_cadd (cs_cadd S (vN v) (vN q) (-x)) (vN t) (vN q) x
def cd_forgive (S : hs_S) (c : Nat) (v t x : Int32) : Nat := cs_sq (cd_H c v) (cs_sq (cd_H c t) (cs_sq (cd_R x 9999) (cd_C S (vN v) (vN t) x)))
def cd_claim (c : Nat) (v t : Int32) : Nat := cs_sq (cd_H c v) (cd_H c t)
def cd_draw (S : hs_S) (c nb : Nat) (v t x q : Int32) : Nat := cs_sq (cd_H c v) (cs_sq (cd_H c t) (cs_sq (cd_R x 9999) (cs_sq (cd_R q 9) (cs_sq (cd_D v t) (cs_sq (cd_O S (vN v)) (cs_sq (cd_O S (vN t)) (cd_n nb 12 4)))))))
def cd_dn (S : hs_S) (j : Nat) : Nat := if S.1 24 j = -1 then 3 else 0
def cd_endorse (S : hs_S) (c nb : Nat) (v t : Int32) : Nat := cs_sq (cd_H nb v) (cs_sq (cd_H c t) (cs_sq (cd_D (S.1 24 (vN v)) t) (cs_sq (cd_dn S (vN v)) (cs_sq (cd_O S (vN (S.1 24 (vN v)))) (cs_sq (cd_O S (vN t)) (cd_n (vN (S.1 26 (vN v))) 5 4))))))
def cs_endorse (S : hs_S) (v t : Int32) : hs_S := cs_pass S (vN v) (vN (S.1 26 (vN v))) t
def cd_addShare (S : hs_S) (c : Nat) (g v q : Int32) : Nat := cs_sq (cd_H 4 g) (cs_sq (cd_H c v) (cs_sq (cd_R q 99) (cd_O S (vN v))))
def cs_addShare (S : hs_S) (g v q : Int32) : hs_S := hs_su S 27 (vN g * 6 + vN v) (S.1 27 (vN g * 6 + vN v) + q)
def cd_sh (S : hs_S) (g a : Nat) : Nat := if S.1 27 (g * 6 + a) = 0 then 4 else 0
def cd_throwOver (S : hs_S) (c : Nat) (g v q : Int32) : Nat := cs_sq (cd_H 4 g) (cs_sq (cd_H c v) (cs_sq (cd_R q 99) (cs_sq (cd_O S (vN v)) (cs_sq (cd_S S (vN g) c) (cd_sh S (vN g) (vN v))))))
def cs_tp (S : hs_S) (g : Nat) (q : Int32) : hs_S := cs_p2 (cs_p1 g q (cs_va S g 6) S 6).1 (vN (cs_p1 g q (cs_va S g 6) S 6).2)
def cs_throwOver (S : hs_S) (g v q : Int32) : hs_S := cs_tv (vN v) (cs_tp S (vN g) q) 6
def cd_HM (c : Nat) (v mt : Int32) : Nat := cs_sq (cd_H c v) (cd_M mt)

theorem ct_X6_addHouse {c nc nb : Nat} {v : Int32} (hfl : l.stackTraces = false) (hA : hs_inj A) (hI : cx_I S c nc nb) (hv : narrow .char (.int v) = .int v) : hk_Ctr G l 8 yX6_addHouse cX6_addHouse 2 (some .int) 12 72 [.ref (A 0), .int v] (hs_ov A (S) h) (cx_Q A h (cd_addHouse c v = 0) (some (.int (nI c))) (cs_open S c v)) (cx_X A h (S) ((fun E => ¬ cd_addHouse c v = 0 ∧ E = cs_ex (cd_addHouse c v)))) := by
  obtain ⟨h30, hc, h31, hnc, h32, hnb, hb7, hb8, hb17, h13, h15, h24, h26⟩ := hI
  refine hk_enter (by decide) hfl (Nat.le_of_ble_eq_true rfl) rfl ?_
  refine hk_iload_n dX6_addHouse_0 rfl rfl rfl ?_
  refine hk_bipush (v := nI 98) dX6_addHouse_1 rfl (by decide) ?_
  refine hk_icmp_eq (tgt := 22) dX6_addHouse_3 (by decide) rfl (fun z3 => ?_) (fun z3 => ?_)
  · skip
    refine hk_aload_n dX6_addHouse_22 rfl rfl rfl ?_
    refine cx_getf hA (by decide) rfl dX6_addHouse_23 rfl fl_X6_10 rfl ?_
    refine cx_calli hA (by decide) rfl rfl rfl dX6_addHouse_26 rfl mv_X6_62 (ct_X3_count hfl hA h30) rfl rfl (by decide) (by decide) (Nat.le_of_ble_eq_true rfl) (fun c26 => ?_) (fun E c => c.elim)
    refine hk_bipush (v := nI 6) dX6_addHouse_29 rfl (by decide) ?_
    refine cx_icmp_lt (tgt := 44) (by omega) (by omega) dX6_addHouse_31 (by decide) rfl (fun z31 => ?_) (fun z31 => ?_)
    · skip
      refine hk_aload_n dX6_addHouse_44 rfl rfl rfl ?_
      refine cx_getf hA (by decide) rfl dX6_addHouse_45 rfl fl_X6_10 rfl ?_
      refine hk_iload_n dX6_addHouse_48 rfl rfl rfl ?_
      refine cx_calli hA (by decide) rfl rfl rfl dX6_addHouse_49 rfl mv_X6_51 (ct_X3_open hfl hA h30 (by omega) hv) rfl rfl (by decide) (by decide) (Nat.le_of_ble_eq_true rfl) (fun c49 => ?_) (fun E c => c.elim)
      exact hk_ireturn rfl (rfl) dX6_addHouse_52 (by refine ⟨by simp [cd_addHouse, cd_a, cd_n, cs_sq, z3, z31], ?_, ?_⟩ <;> first | rfl)
    · skip
      exact hk_throw rfl rfl th_66 (List.mem_of_getElem? (i := 1) rfl) dX6_addHouse_34 dX6_addHouse_37 dX6_addHouse_38 dX6_addHouse_40 dX6_addHouse_43 (by decide) (by decide) (Nat.le_of_ble_eq_true rfl) (⟨cs_thr (k := 3) (by simp [cd_addHouse, cd_a, cd_n, cs_sq, z3, z31]) ⟨by decide, rfl⟩, rfl⟩)
  · skip
    refine hk_iload_n dX6_addHouse_6 rfl rfl rfl ?_
    refine hk_bipush (v := nI 116) dX6_addHouse_7 rfl (by decide) ?_
    refine hk_icmp_eq (tgt := 22) dX6_addHouse_9 (by decide) rfl (fun z9 => ?_) (fun z9 => ?_)
    · skip
      refine hk_aload_n dX6_addHouse_22 rfl rfl rfl ?_
      refine cx_getf hA (by decide) rfl dX6_addHouse_23 rfl fl_X6_10 rfl ?_
      refine cx_calli hA (by decide) rfl rfl rfl dX6_addHouse_26 rfl mv_X6_62 (ct_X3_count hfl hA h30) rfl rfl (by decide) (by decide) (Nat.le_of_ble_eq_true rfl) (fun c26 => ?_) (fun E c => c.elim)
      refine hk_bipush (v := nI 6) dX6_addHouse_29 rfl (by decide) ?_
      refine cx_icmp_lt (tgt := 44) (by omega) (by omega) dX6_addHouse_31 (by decide) rfl (fun z31 => ?_) (fun z31 => ?_)
      · skip
        refine hk_aload_n dX6_addHouse_44 rfl rfl rfl ?_
        refine cx_getf hA (by decide) rfl dX6_addHouse_45 rfl fl_X6_10 rfl ?_
        refine hk_iload_n dX6_addHouse_48 rfl rfl rfl ?_
        refine cx_calli hA (by decide) rfl rfl rfl dX6_addHouse_49 rfl mv_X6_51 (ct_X3_open hfl hA h30 (by omega) hv) rfl rfl (by decide) (by decide) (Nat.le_of_ble_eq_true rfl) (fun c49 => ?_) (fun E c => c.elim)
        exact hk_ireturn rfl (rfl) dX6_addHouse_52 (by refine ⟨by simp [cd_addHouse, cd_a, cd_n, cs_sq, z3, z9, z31], ?_, ?_⟩ <;> first | rfl)
      · skip
        exact hk_throw rfl rfl th_66 (List.mem_of_getElem? (i := 1) rfl) dX6_addHouse_34 dX6_addHouse_37 dX6_addHouse_38 dX6_addHouse_40 dX6_addHouse_43 (by decide) (by decide) (Nat.le_of_ble_eq_true rfl) (⟨cs_thr (k := 3) (by simp [cd_addHouse, cd_a, cd_n, cs_sq, z3, z9, z31]) ⟨by decide, rfl⟩, rfl⟩)
    · skip
      exact hk_throw rfl rfl th_55 (List.mem_of_getElem? (i := 0) rfl) dX6_addHouse_12 dX6_addHouse_15 dX6_addHouse_16 dX6_addHouse_18 dX6_addHouse_21 (by decide) (by decide) (Nat.le_of_ble_eq_true rfl) (⟨cs_thr (k := 2) (by simp [cd_addHouse, cd_a, cd_n, cs_sq, z3, z9]) ⟨by decide, rfl⟩, rfl⟩)
theorem ct_X6_kindOf {c nc nb : Nat} {v : Int32} (hfl : l.stackTraces = false) (hA : hs_inj A) (hI : cx_I S c nc nb) : hk_Ctr G l 8 yX6_kindOf cX6_kindOf 2 (some .char) 12 72 [.ref (A 0), .int v] (hs_ov A (S) h) (cx_Q A h (cd_H c v = 0) (some (.int (cs_kindOf S (vN v)))) (S)) (cx_X A h (S) ((fun E => ¬ cd_H c v = 0 ∧ E = cs_ex (cd_H c v)))) := by
  obtain ⟨h30, hc, h31, hnc, h32, hnb, hb7, hb8, hb17, h13, h15, h24, h26⟩ := hI
  refine hk_enter (by decide) hfl (Nat.le_of_ble_eq_true rfl) rfl ?_
  refine hk_aload_n dX6_kindOf_0 rfl rfl rfl ?_
  refine hk_iload_n dX6_kindOf_1 rfl rfl rfl ?_
  refine cx_callv hA (by decide) rfl rfl rfl dX6_kindOf_2 rfl mv_X6_71 (ct_X6_needHouse hfl hA h30 (by omega)) rfl rfl (by decide) (by decide) (Nat.le_of_ble_eq_true rfl) (fun c2 => ?_) (fun E c => ?_)
  · obtain ⟨a, ha, rfl⟩ := cd_H_of (by omega) c2
    have vaa : vN (nI a) = a := vN_nI (by omega)
    refine hk_aload_n dX6_kindOf_5 rfl rfl rfl ?_
    refine cx_getf hA (by decide) rfl dX6_kindOf_6 rfl fl_X6_10 rfl ?_
    refine hk_iload_n dX6_kindOf_9 rfl rfl rfl ?_
    refine cx_calli hA (by decide) rfl rfl rfl dX6_kindOf_10 rfl mv_X6_75 (ct_X3_isOpen hfl hA (by omega) (hb8 _)) rfl rfl (by decide) (by decide) (Nat.le_of_ble_eq_true rfl) (fun c10 => ?_) (fun E c => c.elim)
    refine hk_if_eq (tgt := 27) dX6_kindOf_13 (by decide) rfl (fun z13 => ?_) (fun z13 => ?_)
    · skip
      refine hk_bipush (v := nI 120) dX6_kindOf_27 rfl (by decide) ?_
      exact hk_ireturn rfl (by first | rfl | exact hb7 _) dX6_kindOf_29 (by refine ⟨c2, ?_, rfl⟩; rw [vaa]; unfold cs_kindOf; first | (rw [if_pos z13]; done) | (rw [if_neg z13]; done))
    · skip
      refine hk_aload_n dX6_kindOf_16 rfl rfl rfl ?_
      refine cx_getf hA (by decide) rfl dX6_kindOf_17 rfl fl_X6_10 rfl ?_
      refine hk_iload_n dX6_kindOf_20 rfl rfl rfl ?_
      refine cx_calli hA (by decide) rfl rfl rfl dX6_kindOf_21 rfl mv_X6_79 (ct_X3_kind hfl hA (by omega) (hb7 _)) rfl rfl (by decide) (by decide) (Nat.le_of_ble_eq_true rfl) (fun c21 => ?_) (fun E c => c.elim)
      refine hk_goto (tgt := 29) dX6_kindOf_24 (by decide) ?_
      exact hk_ireturn rfl (by first | rfl | exact hb7 _) dX6_kindOf_29 (by refine ⟨c2, ?_, rfl⟩; rw [vaa]; unfold cs_kindOf; first | (rw [if_pos z13]; done) | (rw [if_neg z13]; done))
  · exact ⟨cs_thr (by simp [cs_sq, cs_sq, c.1]) c, rfl⟩
theorem ct_X6_dig {c nc nb : Nat} {v mt q : Int32} (hfl : l.stackTraces = false) (hA : hs_inj A) (hI : cx_I S c nc nb) : hk_Ctr G l 8 yX6_dig cX6_dig 5 (some .int) 12 72 [.ref (A 0), .int v, .int mt, .int q] (hs_ov A (S) h) (cx_Q A h (cd_dig S c v mt q = 0) (some (.int ((cs_dig S v mt q).1 12 (vN v * 2 + cs_m mt)))) (cs_dig S v mt q)) (cx_X A h (S) ((fun E => ¬ cd_dig S c v mt q = 0 ∧ E = cs_ex (cd_dig S c v mt q)))) := by
  obtain ⟨h30, hc, h31, hnc, h32, hnb, hb7, hb8, hb17, h13, h15, h24, h26⟩ := hI
  refine hk_enter (by decide) hfl (Nat.le_of_ble_eq_true rfl) rfl ?_
  refine hk_aload_n dX6_dig_0 rfl rfl rfl ?_
  refine hk_iload_n dX6_dig_1 rfl rfl rfl ?_
  refine cx_callv hA (by decide) rfl rfl rfl dX6_dig_2 rfl mv_X6_71 (ct_X6_needHouse hfl hA h30 (by omega)) rfl rfl (by decide) (by decide) (Nat.le_of_ble_eq_true rfl) (fun c2 => ?_) (fun E c => ?_)
  · obtain ⟨a, ha, rfl⟩ := cd_H_of (by omega) c2
    have vaa : vN (nI a) = a := vN_nI (by omega)
    refine hk_aload_n dX6_dig_5 rfl rfl rfl ?_
    refine hk_iload_n dX6_dig_6 rfl rfl rfl ?_
    refine cx_calli hA (by decide) rfl rfl rfl dX6_dig_7 rfl mv_X6_83 (ct_X6_metalNumber hfl hA) rfl rfl (by decide) (by decide) (Nat.le_of_ble_eq_true rfl) (fun c7 => ?_) (fun E c => ?_)
    · have hm := cs_m_lt mt
      refine hk_istore dX6_dig_10 rfl (by decide) rfl ?_
      refine hk_aload_n dX6_dig_12 rfl rfl rfl ?_
      refine hk_iload_n dX6_dig_13 rfl rfl rfl ?_
      refine hk_bipush (v := nI 99) dX6_dig_14 rfl (by decide) ?_
      refine cx_callv hA (by decide) rfl rfl rfl dX6_dig_16 rfl mv_X6_86 (ct_X6_needRange hfl hA) rfl rfl (by decide) (by decide) (Nat.le_of_ble_eq_true rfl) (fun c16 => ?_) (fun E c => ?_)
      · skip
        refine hk_aload_n dX6_dig_19 rfl rfl rfl ?_
        refine hk_iload_n dX6_dig_20 rfl rfl rfl ?_
        refine cx_callv hA (by decide) rfl rfl rfl dX6_dig_21 rfl mv_X6_90 (ct_X6_needOpen hfl hA (by omega) hb8) rfl rfl (by decide) (by decide) (Nat.le_of_ble_eq_true rfl) (fun c21 => ?_) (fun E c => ?_)
        · skip
          refine hk_aload_n dX6_dig_24 rfl rfl rfl ?_
          refine cx_getf hA (by decide) rfl dX6_dig_25 rfl fl_X6_19 rfl ?_
          refine hk_iload_n dX6_dig_28 rfl rfl rfl ?_
          refine hk_iload dX6_dig_29 rfl rfl ?_
          refine hk_iload_n dX6_dig_31 rfl rfl rfl ?_
          refine cx_callv hA (by decide) rfl rfl rfl dX6_dig_32 rfl mv_X6_93 (ct_X4_unearth hfl hA (by omega) (by omega)) rfl rfl (by decide) (by decide) (Nat.le_of_ble_eq_true rfl) (fun c32 => ?_) (fun E c => c.elim)
          refine hk_aload_n dX6_dig_35 rfl rfl rfl ?_
          refine cx_getf hA (by decide) rfl dX6_dig_36 rfl fl_X6_19 rfl ?_
          refine hk_iload_n dX6_dig_39 rfl rfl rfl ?_
          refine hk_iload dX6_dig_40 rfl rfl ?_
          refine cx_calli hA (by decide) rfl rfl rfl dX6_dig_42 rfl mv_X6_97 (ct_X4_oreOf hfl hA (by omega) (by omega)) rfl rfl (by decide) (by decide) (Nat.le_of_ble_eq_true rfl) (fun c42 => ?_) (fun E c => c.elim)
          exact hk_ireturn rfl (rfl) dX6_dig_45 (by refine ⟨by simp [cd_dig, cs_sq, c2, vaa, c7, c16, c21], ?_, ?_⟩ <;> first | rfl | (simp only [cs_dig, vaa]; done) | (simp only [cs_dig, vaa]; rfl))
        · exact ⟨cs_thr (by simp [cd_dig, cs_sq, c2, vaa, c7, c16, c.1]) c, rfl⟩
      · exact ⟨cs_thr (by simp [cd_dig, cs_sq, c2, vaa, c7, c.1]) c, rfl⟩
    · exact ⟨cs_thr (by simp [cd_dig, cs_sq, c2, vaa, c.1]) c, rfl⟩
  · exact ⟨cs_thr (by simp [cd_dig, cs_sq, c.1]) c, rfl⟩
theorem ct_X6_decree {c nc nb : Nat} {mt v q : Int32} (hfl : l.stackTraces = false) (hA : hs_inj A) (hI : cx_I S c nc nb) : hk_Ctr G l 8 yX6_decree cX6_decree 6 (some .int) 12 72 [.ref (A 0), .int mt, .int v, .int q] (hs_ov A (S) h) (cx_Q A h (cd_decree mt v q = 0) (some (.int (nI 100 * S.1 9 (cs_m mt) + S.1 10 (cs_m mt)))) (cs_decree S mt v q)) (cx_X A h (S) ((fun E => ¬ cd_decree mt v q = 0 ∧ E = cs_ex (cd_decree mt v q)))) := by
  obtain ⟨h30, hc, h31, hnc, h32, hnb, hb7, hb8, hb17, h13, h15, h24, h26⟩ := hI
  refine hk_enter (by decide) hfl (Nat.le_of_ble_eq_true rfl) rfl ?_
  refine hk_aload_n dX6_decree_0 rfl rfl rfl ?_
  refine hk_iload_n dX6_decree_1 rfl rfl rfl ?_
  refine cx_calli hA (by decide) rfl rfl rfl dX6_decree_2 rfl mv_X6_83 (ct_X6_metalNumber hfl hA) rfl rfl (by decide) (by decide) (Nat.le_of_ble_eq_true rfl) (fun c2 => ?_) (fun E c => ?_)
  · have hm := cs_m_lt mt
    refine hk_istore dX6_decree_5 rfl (by decide) rfl ?_
    refine hk_aload_n dX6_decree_7 rfl rfl rfl ?_
    refine hk_iload_n dX6_decree_8 rfl rfl rfl ?_
    refine hk_bipush (v := nI 99) dX6_decree_9 rfl (by decide) ?_
    refine cx_callv hA (by decide) rfl rfl rfl dX6_decree_11 rfl mv_X6_86 (ct_X6_needRange hfl hA) rfl rfl (by decide) (by decide) (Nat.le_of_ble_eq_true rfl) (fun c11 => ?_) (fun E c => ?_)
    · skip
      refine hk_aload_n dX6_decree_14 rfl rfl rfl ?_
      refine hk_iload_n dX6_decree_15 rfl rfl rfl ?_
      refine hk_bipush (v := nI 9) dX6_decree_16 rfl (by decide) ?_
      refine cx_callv hA (by decide) rfl rfl rfl dX6_decree_18 rfl mv_X6_86 (ct_X6_needRange hfl hA) rfl rfl (by decide) (by decide) (Nat.le_of_ble_eq_true rfl) (fun c18 => ?_) (fun E c => ?_)
      · skip
        refine hk_bipush (v := nI 100) dX6_decree_21 rfl (by decide) ?_
        refine hk_aload_n dX6_decree_23 rfl rfl rfl ?_
        refine cx_getf hA (by decide) rfl dX6_decree_24 rfl fl_X6_19 rfl ?_
        refine hk_iload dX6_decree_27 rfl rfl ?_
        refine cx_calli hA (by decide) rfl rfl rfl dX6_decree_29 rfl mv_X6_101 (ct_X4_face hfl hA (by omega)) rfl rfl (by decide) (by decide) (Nat.le_of_ble_eq_true rfl) (fun c29 => ?_) (fun E c => c.elim)
        refine hk_imul dX6_decree_32 rfl ?_
        refine hk_aload_n dX6_decree_33 rfl rfl rfl ?_
        refine cx_getf hA (by decide) rfl dX6_decree_34 rfl fl_X6_19 rfl ?_
        refine hk_iload dX6_decree_37 rfl rfl ?_
        refine cx_calli hA (by decide) rfl rfl rfl dX6_decree_39 rfl mv_X6_105 (ct_X4_fullWeight hfl hA (by omega)) rfl rfl (by decide) (by decide) (Nat.le_of_ble_eq_true rfl) (fun c39 => ?_) (fun E c => c.elim)
        refine hk_iadd dX6_decree_42 rfl ?_
        refine hk_istore dX6_decree_43 rfl (by decide) rfl ?_
        refine hk_aload_n dX6_decree_45 rfl rfl rfl ?_
        refine cx_getf hA (by decide) rfl dX6_decree_46 rfl fl_X6_19 rfl ?_
        refine hk_iload dX6_decree_49 rfl rfl ?_
        refine hk_iload_n dX6_decree_51 rfl rfl rfl ?_
        refine hk_iload_n dX6_decree_52 rfl rfl rfl ?_
        refine cx_callv hA (by decide) rfl rfl rfl dX6_decree_53 rfl mv_X6_108 (ct_X4_tell hfl hA (by omega)) rfl rfl (by decide) (by decide) (Nat.le_of_ble_eq_true rfl) (fun c53 => ?_) (fun E c => c.elim)
        refine hk_iload dX6_decree_56 rfl rfl ?_
        exact hk_ireturn rfl (rfl) dX6_decree_58 (by refine ⟨by simp [cd_decree, cs_sq, c2, c11, c18], ?_, ?_⟩ <;> first | rfl | (simp only [cs_decree]; done) | (simp only [cs_decree]; rfl))
      · exact ⟨cs_thr (by simp [cd_decree, cs_sq, c2, c11, c.1]) c, rfl⟩
    · exact ⟨cs_thr (by simp [cd_decree, cs_sq, c2, c.1]) c, rfl⟩
  · exact ⟨cs_thr (by simp [cd_decree, cs_sq, c.1]) c, rfl⟩
theorem ct_X6_mint {c nc nb : Nat} {v mt q : Int32} (hfl : l.stackTraces = false) (hA : hs_inj A) (hI : cx_I S c nc nb) : hk_Ctr G l 8 yX6_mint cX6_mint 6 (some .int) 12 72 [.ref (A 0), .int v, .int mt, .int q] (hs_ov A (S) h) (cx_Q A h (cd_mint S c nc v mt q = 0) (some (.int (nI nc))) (cs_mint S nc v mt q)) (cx_X A h (S) ((fun E => ¬ cd_mint S c nc v mt q = 0 ∧ E = cs_ex (cd_mint S c nc v mt q)))) := by
  obtain ⟨h30, hc, h31, hnc, h32, hnb, hb7, hb8, hb17, h13, h15, h24, h26⟩ := hI
  refine hk_enter (by decide) hfl (Nat.le_of_ble_eq_true rfl) rfl ?_
  refine hk_aload_n dX6_mint_0 rfl rfl rfl ?_
  refine hk_iload_n dX6_mint_1 rfl rfl rfl ?_
  refine cx_callv hA (by decide) rfl rfl rfl dX6_mint_2 rfl mv_X6_71 (ct_X6_needHouse hfl hA h30 (by omega)) rfl rfl (by decide) (by decide) (Nat.le_of_ble_eq_true rfl) (fun c2 => ?_) (fun E c => ?_)
  · obtain ⟨a, ha, rfl⟩ := cd_H_of (by omega) c2
    have vaa : vN (nI a) = a := vN_nI (by omega)
    refine hk_aload_n dX6_mint_5 rfl rfl rfl ?_
    refine hk_iload_n dX6_mint_6 rfl rfl rfl ?_
    refine cx_calli hA (by decide) rfl rfl rfl dX6_mint_7 rfl mv_X6_83 (ct_X6_metalNumber hfl hA) rfl rfl (by decide) (by decide) (Nat.le_of_ble_eq_true rfl) (fun c7 => ?_) (fun E c => ?_)
    · have hm := cs_m_lt mt
      refine hk_istore dX6_mint_10 rfl (by decide) rfl ?_
      refine hk_aload_n dX6_mint_12 rfl rfl rfl ?_
      refine hk_iload_n dX6_mint_13 rfl rfl rfl ?_
      refine hk_bipush (v := nI 90) dX6_mint_14 rfl (by decide) ?_
      refine cx_callv hA (by decide) rfl rfl rfl dX6_mint_16 rfl mv_X6_86 (ct_X6_needRange hfl hA) rfl rfl (by decide) (by decide) (Nat.le_of_ble_eq_true rfl) (fun c16 => ?_) (fun E c => ?_)
      · obtain ⟨k, hk1, hk2, rfl⟩ := cd_R_of (by omega) c16
        have vak : vN (nI k) = k := vN_nI (by omega)
        refine hk_aload_n dX6_mint_19 rfl rfl rfl ?_
        refine hk_iload_n dX6_mint_20 rfl rfl rfl ?_
        refine cx_callv hA (by decide) rfl rfl rfl dX6_mint_21 rfl mv_X6_90 (ct_X6_needOpen hfl hA (by omega) hb8) rfl rfl (by decide) (by decide) (Nat.le_of_ble_eq_true rfl) (fun c21 => ?_) (fun E c => ?_)
        · skip
          refine hk_aload_n dX6_mint_24 rfl rfl rfl ?_
          refine cx_getf hA (by decide) rfl dX6_mint_25 rfl fl_X6_19 rfl ?_
          refine hk_iload_n dX6_mint_28 rfl rfl rfl ?_
          refine hk_iload dX6_mint_29 rfl rfl ?_
          refine cx_calli hA (by decide) rfl rfl rfl dX6_mint_31 rfl mv_X6_97 (ct_X4_oreOf hfl hA (by omega) (by omega)) rfl rfl (by decide) (by decide) (Nat.le_of_ble_eq_true rfl) (fun c31 => ?_) (fun E c => c.elim)
          refine hk_iload_n dX6_mint_34 rfl rfl rfl ?_
          refine hk_aload_n dX6_mint_35 rfl rfl rfl ?_
          refine cx_getf hA (by decide) rfl dX6_mint_36 rfl fl_X6_19 rfl ?_
          refine hk_iload dX6_mint_39 rfl rfl ?_
          refine cx_calli hA (by decide) rfl rfl rfl dX6_mint_41 rfl mv_X6_105 (ct_X4_fullWeight hfl hA (by omega)) rfl rfl (by decide) (by decide) (Nat.le_of_ble_eq_true rfl) (fun c41 => ?_) (fun E c => c.elim)
          refine hk_imul dX6_mint_44 rfl ?_
          refine hk_icmp_ge (tgt := 58) dX6_mint_45 (by decide) rfl (fun z45 => ?_) (fun z45 => ?_)
          · skip
            refine hk_iload_n dX6_mint_58 rfl rfl rfl ?_
            refine hk_aload_n dX6_mint_59 rfl rfl rfl ?_
            refine cx_getf hA (by decide) rfl dX6_mint_60 rfl fl_X6_26 rfl ?_
            refine cx_calli hA (by decide) rfl rfl rfl dX6_mint_63 rfl mv_X6_116 (ct_X2_numbersLeft hfl hA h31 (by omega)) rfl rfl (by decide) (by decide) (Nat.le_of_ble_eq_true rfl) (fun c63 => ?_) (fun E c => c.elim)
            refine cx_icmp_le (tgt := 79) (by omega) (by omega) dX6_mint_66 (by decide) rfl (fun z66 => ?_) (fun z66 => ?_)
            · skip
              refine hk_aload_n dX6_mint_79 rfl rfl rfl ?_
              refine cx_getf hA (by decide) rfl dX6_mint_80 rfl fl_X6_26 rfl ?_
              refine cx_calli hA (by decide) rfl rfl rfl dX6_mint_83 rfl mv_X6_121 (ct_X2_count hfl hA h31) rfl rfl (by decide) (by decide) (Nat.le_of_ble_eq_true rfl) (fun c83 => ?_) (fun E c => c.elim)
              refine hk_istore dX6_mint_86 rfl (by decide) rfl ?_
              refine hk_aload_n dX6_mint_88 rfl rfl rfl ?_
              refine hk_iload_n dX6_mint_89 rfl rfl rfl ?_
              refine hk_iload dX6_mint_90 rfl rfl ?_
              refine hk_iload_n dX6_mint_92 rfl rfl rfl ?_
              refine cx_calli hA (by decide) rfl rfl rfl dX6_mint_93 rfl mv_X6_122 (ct_X6_strike hfl hA h31 (by omega) (by omega) (by omega) (by omega)) rfl rfl (by decide) (by decide) (Nat.le_of_ble_eq_true rfl) (fun c93 => ?_) (fun E c => c.elim)
              refine hk_pop dX6_mint_96 rfl rfl ?_
              refine hk_iload dX6_mint_97 rfl rfl ?_
              exact hk_ireturn rfl (rfl) dX6_mint_99 (by refine ⟨by simp [cd_mint, cd_ore, cd_le, cs_sq, c2, vaa, c7, c16, vak, c21, z45, z66], ?_, ?_⟩ <;> first | rfl | (simp only [cs_mint, vaa, vak]; done) | (simp only [cs_mint, vaa, vak]; rfl))
            · skip
              exact hk_throw rfl rfl th_111 (List.mem_of_getElem? (i := 7) rfl) dX6_mint_69 dX6_mint_72 dX6_mint_73 dX6_mint_75 dX6_mint_78 (by decide) (by decide) (Nat.le_of_ble_eq_true rfl) (⟨cs_thr (k := 4) (by simp [cd_mint, cd_ore, cd_le, cs_sq, c2, vaa, c7, c16, vak, c21, z45, z66]) ⟨by decide, rfl⟩, rfl⟩)
          · skip
            exact hk_throw rfl rfl th_111 (List.mem_of_getElem? (i := 6) rfl) dX6_mint_48 dX6_mint_51 dX6_mint_52 dX6_mint_54 dX6_mint_57 (by decide) (by decide) (Nat.le_of_ble_eq_true rfl) (⟨cs_thr (k := 4) (by simp [cd_mint, cd_ore, cd_le, cs_sq, c2, vaa, c7, c16, vak, c21, z45]) ⟨by decide, rfl⟩, rfl⟩)
        · exact ⟨cs_thr (by simp [cd_mint, cd_ore, cd_le, cs_sq, c2, vaa, c7, c16, vak, c.1]) c, rfl⟩
      · exact ⟨cs_thr (by simp [cd_mint, cd_ore, cd_le, cs_sq, c2, vaa, c7, c.1]) c, rfl⟩
    · exact ⟨cs_thr (by simp [cd_mint, cd_ore, cd_le, cs_sq, c2, vaa, c.1]) c, rfl⟩
  · exact ⟨cs_thr (by simp [cd_mint, cd_ore, cd_le, cs_sq, c.1]) c, rfl⟩
theorem ct_X6_clip {c nc nb : Nat} {v q : Int32} (hfl : l.stackTraces = false) (hA : hs_inj A) (hI : cx_I S c nc nb) : hk_Ctr G l 8 yX6_clip cX6_clip 3 (some .int) 12 72 [.ref (A 0), .int v, .int q] (hs_ov A (S) h) (cx_Q A h (cd_clip S nc v q = 0) (some (.int ((cs_clip S v q).1 14 (vN v)))) (cs_clip S v q)) (cx_X A h (S) ((fun E => ¬ cd_clip S nc v q = 0 ∧ E = cs_ex (cd_clip S nc v q)))) := by
  obtain ⟨h30, hc, h31, hnc, h32, hnb, hb7, hb8, hb17, h13, h15, h24, h26⟩ := hI
  refine hk_enter (by decide) hfl (Nat.le_of_ble_eq_true rfl) rfl ?_
  refine hk_aload_n dX6_clip_0 rfl rfl rfl ?_
  refine hk_iload_n dX6_clip_1 rfl rfl rfl ?_
  refine cx_callv hA (by decide) rfl rfl rfl dX6_clip_2 rfl mv_X6_126 (ct_X6_needCoin hfl hA h31 (by omega)) rfl rfl (by decide) (by decide) (Nat.le_of_ble_eq_true rfl) (fun c2 => ?_) (fun E c => ?_)
  · obtain ⟨a, ha, rfl⟩ := cd_H_of (by omega) c2
    have vaa : vN (nI a) = a := vN_nI (by omega)
    refine hk_aload_n dX6_clip_5 rfl rfl rfl ?_
    refine hk_iload_n dX6_clip_6 rfl rfl rfl ?_
    refine hk_bipush (v := nI 9) dX6_clip_7 rfl (by decide) ?_
    refine cx_callv hA (by decide) rfl rfl rfl dX6_clip_9 rfl mv_X6_86 (ct_X6_needRange hfl hA) rfl rfl (by decide) (by decide) (Nat.le_of_ble_eq_true rfl) (fun c9 => ?_) (fun E c => ?_)
    · skip
      refine hk_aload_n dX6_clip_12 rfl rfl rfl ?_
      refine hk_iload_n dX6_clip_13 rfl rfl rfl ?_
      refine cx_callv hA (by decide) rfl rfl rfl dX6_clip_14 rfl mv_X6_129 (ct_X6_needWhole hfl hA (by omega)) rfl rfl (by decide) (by decide) (Nat.le_of_ble_eq_true rfl) (fun c14 => ?_) (fun E c => ?_)
      · skip
        refine hk_aload_n dX6_clip_17 rfl rfl rfl ?_
        refine cx_getf hA (by decide) rfl dX6_clip_18 rfl fl_X6_26 rfl ?_
        refine hk_iload_n dX6_clip_21 rfl rfl rfl ?_
        refine cx_calli hA (by decide) rfl rfl rfl dX6_clip_22 rfl mv_X6_132 (ct_X2_weight hfl hA (by omega)) rfl rfl (by decide) (by decide) (Nat.le_of_ble_eq_true rfl) (fun c22 => ?_) (fun E c => c.elim)
        refine hk_iload_n dX6_clip_25 rfl rfl rfl ?_
        refine hk_isub dX6_clip_26 rfl ?_
        skip
        refine hk_iconst (v := nI 1) dX6_clip_27 rfl (by decide) ?_
        refine hk_icmp_ge (tgt := 41) dX6_clip_28 (by decide) rfl (fun z28 => ?_) (fun z28 => ?_)
        · skip
          rcases h15 a (by omega) with h9 | ⟨ow, how, h9⟩
          · exact absurd (show cd_W S a = 4 from if_pos h9) (by rw [c14]; decide)
          obtain ⟨mm, hm2, hm3⟩ := h13 a (by omega)
          have vaow : vN (S.1 15 a) = ow := by rw [h9]; exact vN_nI (by omega)
          have vamm : vN (S.1 13 a) = mm := by rw [hm3]; exact vN_nI (by omega)
          refine hk_aload_n dX6_clip_41 rfl rfl rfl ?_
          refine cx_getf hA (by decide) rfl dX6_clip_42 rfl fl_X6_26 rfl ?_
          refine hk_iload_n dX6_clip_45 rfl rfl rfl ?_
          refine hk_iload_n dX6_clip_46 rfl rfl rfl ?_
          refine cx_callv hA (by decide) rfl rfl rfl dX6_clip_47 rfl mv_X6_137 (ct_X2_lighten hfl hA (by omega)) rfl rfl (by decide) (by decide) (Nat.le_of_ble_eq_true rfl) (fun c47 => ?_) (fun E c => c.elim)
          refine hk_aload_n dX6_clip_50 rfl rfl rfl ?_
          refine cx_getf hA (by decide) rfl dX6_clip_51 rfl fl_X6_19 rfl ?_
          refine hk_aload_n dX6_clip_54 rfl rfl rfl ?_
          refine cx_getf hA (by decide) rfl dX6_clip_55 rfl fl_X6_26 rfl ?_
          refine hk_iload_n dX6_clip_58 rfl rfl rfl ?_
          refine cx_calli hA (by decide) rfl rfl rfl dX6_clip_59 rfl mv_X6_140 (ct_X2_owner hfl hA (by omega)) rfl rfl (by decide) (by decide) (Nat.le_of_ble_eq_true rfl) (fun c59 => ?_) (fun E c => c.elim)
          refine cx_top h9 ?_
          refine hk_aload_n dX6_clip_62 rfl rfl rfl ?_
          refine cx_getf hA (by decide) rfl dX6_clip_63 rfl fl_X6_26 rfl ?_
          refine hk_iload_n dX6_clip_66 rfl rfl rfl ?_
          refine cx_calli hA (by decide) rfl rfl rfl dX6_clip_67 rfl mv_X6_143 (ct_X2_metal hfl hA (by omega)) rfl rfl (by decide) (by decide) (Nat.le_of_ble_eq_true rfl) (fun c67 => ?_) (fun E c => c.elim)
          refine cx_top hm3 ?_
          refine hk_iload_n dX6_clip_70 rfl rfl rfl ?_
          refine cx_callv hA (by decide) rfl rfl rfl dX6_clip_71 rfl mv_X6_146 (ct_X4_addOre hfl hA (by omega) (by omega)) rfl rfl (by decide) (by decide) (Nat.le_of_ble_eq_true rfl) (fun c71 => ?_) (fun E c => c.elim)
          refine hk_aload_n dX6_clip_74 rfl rfl rfl ?_
          refine cx_getf hA (by decide) rfl dX6_clip_75 rfl fl_X6_26 rfl ?_
          refine hk_iload_n dX6_clip_78 rfl rfl rfl ?_
          refine cx_calli hA (by decide) rfl rfl rfl dX6_clip_79 rfl mv_X6_132 (ct_X2_weight hfl hA (by omega)) rfl rfl (by decide) (by decide) (Nat.le_of_ble_eq_true rfl) (fun c79 => ?_) (fun E c => c.elim)
          exact hk_ireturn rfl (rfl) dX6_clip_82 (by refine ⟨by simp [cd_clip, cd_clw, cs_sq, c2, vaa, c9, c14, z28], ?_, ?_⟩ <;> first | rfl | (simp only [cs_clip, vaow, vamm, vaa]; done) | (simp only [cs_clip, vaow, vamm, vaa]; rfl))
        · skip
          exact hk_throw rfl rfl th_111 (List.mem_of_getElem? (i := 10) rfl) dX6_clip_31 dX6_clip_34 dX6_clip_35 dX6_clip_37 dX6_clip_40 (by decide) (by decide) (Nat.le_of_ble_eq_true rfl) (⟨cs_thr (k := 4) (by simp [cd_clip, cd_clw, cs_sq, c2, vaa, c9, c14, z28]) ⟨by decide, rfl⟩, rfl⟩)
      · exact ⟨cs_thr (by simp [cd_clip, cd_clw, cs_sq, c2, vaa, c9, c.1]) c, rfl⟩
    · exact ⟨cs_thr (by simp [cd_clip, cd_clw, cs_sq, c2, vaa, c.1]) c, rfl⟩
  · exact ⟨cs_thr (by simp [cd_clip, cd_clw, cs_sq, c.1]) c, rfl⟩
theorem ct_X6_hoard {c nc nb : Nat} {v q : Int32} (hfl : l.stackTraces = false) (hA : hs_inj A) (hI : cx_I S c nc nb) (hbv : narrow .boolean (.int q) = .int q) : hk_Ctr G l 8 yX6_hoard cX6_hoard 4 (some .boolean) 12 72 [.ref (A 0), .int v, .int q] (hs_ov A (S) h) (cx_Q A h (cd_hoard S nc v = 0) (some (.int (S.1 17 (vN v)))) (hs_su S 17 (vN v) q)) (cx_X A h (S) ((fun E => ¬ cd_hoard S nc v = 0 ∧ E = cs_ex (cd_hoard S nc v)))) := by
  obtain ⟨h30, hc, h31, hnc, h32, hnb, hb7, hb8, hb17, h13, h15, h24, h26⟩ := hI
  refine hk_enter (by decide) hfl (Nat.le_of_ble_eq_true rfl) rfl ?_
  refine hk_aload_n dX6_hoard_0 rfl rfl rfl ?_
  refine hk_iload_n dX6_hoard_1 rfl rfl rfl ?_
  refine cx_callv hA (by decide) rfl rfl rfl dX6_hoard_2 rfl mv_X6_126 (ct_X6_needCoin hfl hA h31 (by omega)) rfl rfl (by decide) (by decide) (Nat.le_of_ble_eq_true rfl) (fun c2 => ?_) (fun E c => ?_)
  · obtain ⟨a, ha, rfl⟩ := cd_H_of (by omega) c2
    have vaa : vN (nI a) = a := vN_nI (by omega)
    refine hk_aload_n dX6_hoard_5 rfl rfl rfl ?_
    refine hk_iload_n dX6_hoard_6 rfl rfl rfl ?_
    refine cx_callv hA (by decide) rfl rfl rfl dX6_hoard_7 rfl mv_X6_129 (ct_X6_needWhole hfl hA (by omega)) rfl rfl (by decide) (by decide) (Nat.le_of_ble_eq_true rfl) (fun c7 => ?_) (fun E c => ?_)
    · skip
      refine hk_aload_n dX6_hoard_10 rfl rfl rfl ?_
      refine cx_getf hA (by decide) rfl dX6_hoard_11 rfl fl_X6_26 rfl ?_
      refine hk_iload_n dX6_hoard_14 rfl rfl rfl ?_
      refine cx_calli hA (by decide) rfl rfl rfl dX6_hoard_15 rfl mv_X6_149 (ct_X2_isHoarded hfl hA (by omega) (hb17 _)) rfl rfl (by decide) (by decide) (Nat.le_of_ble_eq_true rfl) (fun c15 => ?_) (fun E c => c.elim)
      refine hk_istore_n dX6_hoard_18 rfl rfl (by decide) rfl ?_
      refine hk_aload_n dX6_hoard_19 rfl rfl rfl ?_
      refine cx_getf hA (by decide) rfl dX6_hoard_20 rfl fl_X6_26 rfl ?_
      refine hk_iload_n dX6_hoard_23 rfl rfl rfl ?_
      refine hk_iload_n dX6_hoard_24 rfl rfl rfl ?_
      refine cx_callv hA (by decide) rfl rfl rfl dX6_hoard_25 rfl mv_X6_152 (ct_X2_setHoarded hfl hA (by omega) hbv) rfl rfl (by decide) (by decide) (Nat.le_of_ble_eq_true rfl) (fun c25 => ?_) (fun E c => c.elim)
      refine hk_iload_n dX6_hoard_28 rfl rfl rfl ?_
      exact hk_ireturn rfl (hb17 _) dX6_hoard_29 (by refine ⟨by simp [cd_hoard, cs_sq, c2, vaa, c7], ?_, ?_⟩ <;> first | rfl | (simp only [vaa]; done) | (simp only [vaa]; rfl))
    · exact ⟨cs_thr (by simp [cd_hoard, cs_sq, c2, vaa, c.1]) c, rfl⟩
  · exact ⟨cs_thr (by simp [cd_hoard, cs_sq, c.1]) c, rfl⟩
theorem ct_X6_recoin {c nc nb : Nat} {v mt : Int32} (hfl : l.stackTraces = false) (hA : hs_inj A) (hI : cx_I S c nc nb) : hk_Ctr G l 8 yX6_recoin cX6_recoin 4 (some .int) 12 72 [.ref (A 0), .int v, .int mt] (hs_ov A (S) h) (cx_Q A h (cd_recoin S c v mt = 0) (some (.int (nI (cs_recoin S nc v mt).2))) ((cs_recoin S nc v mt).1)) (cx_X A h (S) ((fun E => ¬ cd_recoin S c v mt = 0 ∧ E = cs_ex (cd_recoin S c v mt)))) := by
  obtain ⟨h30, hc, h31, hnc, h32, hnb, hb7, hb8, hb17, h13, h15, h24, h26⟩ := hI
  refine hk_enter (by decide) hfl (Nat.le_of_ble_eq_true rfl) rfl ?_
  refine hk_aload_n dX6_recoin_0 rfl rfl rfl ?_
  refine hk_iload_n dX6_recoin_1 rfl rfl rfl ?_
  refine cx_callv hA (by decide) rfl rfl rfl dX6_recoin_2 rfl mv_X6_71 (ct_X6_needHouse hfl hA h30 (by omega)) rfl rfl (by decide) (by decide) (Nat.le_of_ble_eq_true rfl) (fun c2 => ?_) (fun E c => ?_)
  · obtain ⟨a, ha, rfl⟩ := cd_H_of (by omega) c2
    have vaa : vN (nI a) = a := vN_nI (by omega)
    refine hk_aload_n dX6_recoin_5 rfl rfl rfl ?_
    refine hk_iload_n dX6_recoin_6 rfl rfl rfl ?_
    refine cx_calli hA (by decide) rfl rfl rfl dX6_recoin_7 rfl mv_X6_83 (ct_X6_metalNumber hfl hA) rfl rfl (by decide) (by decide) (Nat.le_of_ble_eq_true rfl) (fun c7 => ?_) (fun E c => ?_)
    · have hm := cs_m_lt mt
      refine hk_istore_n dX6_recoin_10 rfl rfl (by decide) rfl ?_
      refine hk_aload_n dX6_recoin_11 rfl rfl rfl ?_
      refine hk_iload_n dX6_recoin_12 rfl rfl rfl ?_
      refine cx_callv hA (by decide) rfl rfl rfl dX6_recoin_13 rfl mv_X6_90 (ct_X6_needOpen hfl hA (by omega) hb8) rfl rfl (by decide) (by decide) (Nat.le_of_ble_eq_true rfl) (fun c13 => ?_) (fun E c => ?_)
      · skip
        refine hk_aload_n dX6_recoin_16 rfl rfl rfl ?_
        refine cx_getf hA (by decide) rfl dX6_recoin_17 rfl fl_X6_19 rfl ?_
        refine hk_iload_n dX6_recoin_20 rfl rfl rfl ?_
        refine hk_iload_n dX6_recoin_21 rfl rfl rfl ?_
        refine hk_aload_n dX6_recoin_22 rfl rfl rfl ?_
        refine cx_getf hA (by decide) rfl dX6_recoin_23 rfl fl_X6_26 rfl ?_
        refine hk_iload_n dX6_recoin_26 rfl rfl rfl ?_
        refine hk_iload_n dX6_recoin_27 rfl rfl rfl ?_
        refine cx_calli hA (by decide) rfl rfl rfl dX6_recoin_28 rfl mv_X6_156 (ct_X2_melt hfl hA h31 (by omega)) rfl rfl (by decide) (by decide) (Nat.le_of_ble_eq_true rfl) (fun c28 => ?_) (fun E c => c.elim)
        refine cx_callv hA (by decide) rfl rfl rfl dX6_recoin_31 rfl mv_X6_146 (ct_X4_addOre hfl hA (by omega) (by omega)) rfl rfl (by decide) (by decide) (Nat.le_of_ble_eq_true rfl) (fun c31 => ?_) (fun E c => c.elim)
        refine hk_aload_n dX6_recoin_34 rfl rfl rfl ?_
        refine hk_iload_n dX6_recoin_35 rfl rfl rfl ?_
        refine hk_iload_n dX6_recoin_36 rfl rfl rfl ?_
        refine hk_bipush (v := nI 90) dX6_recoin_37 rfl (by decide) ?_
        refine cx_calli hA (by decide) rfl rfl rfl dX6_recoin_39 rfl mv_X6_122 (ct_X6_strike hfl hA ((cs_rc1_31 S nc a (cs_m mt)).trans h31) (by omega) (by omega) (by omega) (by omega)) rfl rfl (by decide) (by decide) (Nat.le_of_ble_eq_true rfl) (fun c39 => ?_) (fun E c => c.elim)
        exact hk_ireturn rfl (rfl) dX6_recoin_42 (by refine ⟨by simp [cd_recoin, cs_sq, c2, vaa, c7, c13], ?_, ?_⟩ <;> first | rfl | (simp only [cs_recoin, cs_rc1, vaa]; done) | (simp only [cs_recoin, cs_rc1, vaa]; rfl))
      · exact ⟨cs_thr (by simp [cd_recoin, cs_sq, c2, vaa, c7, c.1]) c, rfl⟩
    · exact ⟨cs_thr (by simp [cd_recoin, cs_sq, c2, vaa, c.1]) c, rfl⟩
  · exact ⟨cs_thr (by simp [cd_recoin, cs_sq, c.1]) c, rfl⟩
theorem ct_X6_pay {c nc nb : Nat} {v t mt q : Int32} (hfl : l.stackTraces = false) (hA : hs_inj A) (hI : cx_I S c nc nb) : hk_Ctr G l 8 yX6_pay cX6_pay 6 (some .int) 12 72 [.ref (A 0), .int v, .int t, .int mt, .int q] (hs_ov A (S) h) (cx_Q A h (cd_pay S c nc v t mt q = 0) (some (.int ((cs_pay S nc v t mt q).2))) ((cs_pay S nc v t mt q).1)) (cx_X A h (S) ((fun E => ¬ cd_pay S c nc v t mt q = 0 ∧ E = cs_ex (cd_pay S c nc v t mt q)))) := by
  obtain ⟨h30, hc, h31, hnc, h32, hnb, hb7, hb8, hb17, h13, h15, h24, h26⟩ := hI
  refine hk_enter (by decide) hfl (Nat.le_of_ble_eq_true rfl) rfl ?_
  refine hk_aload_n dX6_pay_0 rfl rfl rfl ?_
  refine hk_iload_n dX6_pay_1 rfl rfl rfl ?_
  refine cx_callv hA (by decide) rfl rfl rfl dX6_pay_2 rfl mv_X6_71 (ct_X6_needHouse hfl hA h30 (by omega)) rfl rfl (by decide) (by decide) (Nat.le_of_ble_eq_true rfl) (fun c2 => ?_) (fun E c => ?_)
  · obtain ⟨a, ha, rfl⟩ := cd_H_of (by omega) c2
    have vaa : vN (nI a) = a := vN_nI (by omega)
    refine hk_aload_n dX6_pay_5 rfl rfl rfl ?_
    refine hk_iload_n dX6_pay_6 rfl rfl rfl ?_
    refine cx_callv hA (by decide) rfl rfl rfl dX6_pay_7 rfl mv_X6_71 (ct_X6_needHouse hfl hA h30 (by omega)) rfl rfl (by decide) (by decide) (Nat.le_of_ble_eq_true rfl) (fun c7 => ?_) (fun E c => ?_)
    · obtain ⟨b2, hb2, rfl⟩ := cd_H_of (by omega) c7
      have vab2 : vN (nI b2) = b2 := vN_nI (by omega)
      refine hk_aload_n dX6_pay_10 rfl rfl rfl ?_
      refine hk_iload_n dX6_pay_11 rfl rfl rfl ?_
      refine cx_calli hA (by decide) rfl rfl rfl dX6_pay_12 rfl mv_X6_83 (ct_X6_metalNumber hfl hA) rfl rfl (by decide) (by decide) (Nat.le_of_ble_eq_true rfl) (fun c12 => ?_) (fun E c => ?_)
      · have hm := cs_m_lt mt
        refine hk_istore dX6_pay_15 rfl (by decide) rfl ?_
        refine hk_aload_n dX6_pay_17 rfl rfl rfl ?_
        refine hk_iload dX6_pay_18 rfl rfl ?_
        refine hk_bipush (v := nI 90) dX6_pay_20 rfl (by decide) ?_
        refine cx_callv hA (by decide) rfl rfl rfl dX6_pay_22 rfl mv_X6_86 (ct_X6_needRange hfl hA) rfl rfl (by decide) (by decide) (Nat.le_of_ble_eq_true rfl) (fun c22 => ?_) (fun E c => ?_)
        · obtain ⟨k, hk1, hk2, rfl⟩ := cd_R_of (by omega) c22
          have vak : vN (nI k) = k := vN_nI (by omega)
          refine hk_aload_n dX6_pay_25 rfl rfl rfl ?_
          refine hk_iload_n dX6_pay_26 rfl rfl rfl ?_
          refine hk_iload_n dX6_pay_27 rfl rfl rfl ?_
          refine cx_callv hA (by decide) rfl rfl rfl dX6_pay_28 rfl mv_X6_159 (ct_X6_needDifferent hfl hA) rfl rfl (by decide) (by decide) (Nat.le_of_ble_eq_true rfl) (fun c28 => ?_) (fun E c => ?_)
          · skip
            refine hk_aload_n dX6_pay_31 rfl rfl rfl ?_
            refine hk_iload_n dX6_pay_32 rfl rfl rfl ?_
            refine cx_callv hA (by decide) rfl rfl rfl dX6_pay_33 rfl mv_X6_90 (ct_X6_needOpen hfl hA (by omega) hb8) rfl rfl (by decide) (by decide) (Nat.le_of_ble_eq_true rfl) (fun c33 => ?_) (fun E c => ?_)
            · skip
              refine hk_aload_n dX6_pay_36 rfl rfl rfl ?_
              refine hk_iload_n dX6_pay_37 rfl rfl rfl ?_
              refine cx_callv hA (by decide) rfl rfl rfl dX6_pay_38 rfl mv_X6_90 (ct_X6_needOpen hfl hA (by omega) hb8) rfl rfl (by decide) (by decide) (Nat.le_of_ble_eq_true rfl) (fun c38 => ?_) (fun E c => ?_)
              · skip
                refine hk_aload_n dX6_pay_41 rfl rfl rfl ?_
                refine hk_iload_n dX6_pay_42 rfl rfl rfl ?_
                refine hk_iload dX6_pay_43 rfl rfl ?_
                refine hk_iload dX6_pay_45 rfl rfl ?_
                refine cx_callv hA (by decide) rfl rfl rfl dX6_pay_47 rfl mv_X6_162 (ct_X6_needLoose hfl hA h31 (by omega) (by omega)) rfl rfl (by decide) (by decide) (Nat.le_of_ble_eq_true rfl) (fun c47 => ?_) (fun E c => ?_)
                · skip
                  refine hk_aload_n dX6_pay_50 rfl rfl rfl ?_
                  refine cx_getf hA (by decide) rfl dX6_pay_51 rfl fl_X6_26 rfl ?_
                  refine hk_iload_n dX6_pay_54 rfl rfl rfl ?_
                  refine hk_iload_n dX6_pay_55 rfl rfl rfl ?_
                  refine hk_iload dX6_pay_56 rfl rfl ?_
                  refine hk_iload dX6_pay_58 rfl rfl ?_
                  refine cx_calli hA (by decide) rfl rfl rfl dX6_pay_60 rfl mv_X6_165 (ct_X2_giveLightest hfl hA h31 (by omega) (by omega)) rfl rfl (by decide) (by decide) (Nat.le_of_ble_eq_true rfl) (fun c60 => ?_) (fun E c => c.elim)
                  exact hk_ireturn rfl (rfl) dX6_pay_63 (by refine ⟨by simp [cd_pay, cs_sq, c2, vaa, c7, vab2, c12, c22, vak, c28, c33, c38, c47], ?_, ?_⟩ <;> first | rfl | (simp only [cs_pay, vaa, vab2, vak]; done) | (simp only [cs_pay, vaa, vab2, vak]; rfl))
                · exact ⟨cs_thr (by simp [cd_pay, cs_sq, c2, vaa, c7, vab2, c12, c22, vak, c28, c33, c38, c.1]) c, rfl⟩
              · exact ⟨cs_thr (by simp [cd_pay, cs_sq, c2, vaa, c7, vab2, c12, c22, vak, c28, c33, c.1]) c, rfl⟩
            · exact ⟨cs_thr (by simp [cd_pay, cs_sq, c2, vaa, c7, vab2, c12, c22, vak, c28, c.1]) c, rfl⟩
          · exact ⟨cs_thr (by simp [cd_pay, cs_sq, c2, vaa, c7, vab2, c12, c22, vak, c.1]) c, rfl⟩
        · exact ⟨cs_thr (by simp [cd_pay, cs_sq, c2, vaa, c7, vab2, c12, c.1]) c, rfl⟩
      · exact ⟨cs_thr (by simp [cd_pay, cs_sq, c2, vaa, c7, vab2, c.1]) c, rfl⟩
    · exact ⟨cs_thr (by simp [cd_pay, cs_sq, c2, vaa, c.1]) c, rfl⟩
  · exact ⟨cs_thr (by simp [cd_pay, cs_sq, c.1]) c, rfl⟩
theorem ct_X6_deposit {c nc nb : Nat} {v t mt q : Int32} (hfl : l.stackTraces = false) (hA : hs_inj A) (hI : cx_I S c nc nb) : hk_Ctr G l 8 yX6_deposit cX6_deposit 6 (some .int) 12 72 [.ref (A 0), .int v, .int t, .int mt, .int q] (hs_ov A (S) h) (cx_Q A h (cd_deposit S c nc v t mt q = 0) (some (.int ((cs_deposit S nc v t mt q).1 19 (vN v * 6 + vN t)))) (cs_deposit S nc v t mt q)) (cx_X A h (S) ((fun E => ¬ cd_deposit S c nc v t mt q = 0 ∧ E = cs_ex (cd_deposit S c nc v t mt q)))) := by
  obtain ⟨h30, hc, h31, hnc, h32, hnb, hb7, hb8, hb17, h13, h15, h24, h26⟩ := hI
  refine hk_enter (by decide) hfl (Nat.le_of_ble_eq_true rfl) rfl ?_
  refine hk_aload_n dX6_deposit_0 rfl rfl rfl ?_
  refine hk_iload_n dX6_deposit_1 rfl rfl rfl ?_
  refine cx_callv hA (by decide) rfl rfl rfl dX6_deposit_2 rfl mv_X6_71 (ct_X6_needHouse hfl hA h30 (by omega)) rfl rfl (by decide) (by decide) (Nat.le_of_ble_eq_true rfl) (fun c2 => ?_) (fun E c => ?_)
  · obtain ⟨a, ha, rfl⟩ := cd_H_of (by omega) c2
    have vaa : vN (nI a) = a := vN_nI (by omega)
    refine hk_aload_n dX6_deposit_5 rfl rfl rfl ?_
    refine hk_iload_n dX6_deposit_6 rfl rfl rfl ?_
    refine cx_callv hA (by decide) rfl rfl rfl dX6_deposit_7 rfl mv_X6_71 (ct_X6_needHouse hfl hA h30 (by omega)) rfl rfl (by decide) (by decide) (Nat.le_of_ble_eq_true rfl) (fun c7 => ?_) (fun E c => ?_)
    · obtain ⟨b2, hb2, rfl⟩ := cd_H_of (by omega) c7
      have vab2 : vN (nI b2) = b2 := vN_nI (by omega)
      refine hk_aload_n dX6_deposit_10 rfl rfl rfl ?_
      refine hk_iload_n dX6_deposit_11 rfl rfl rfl ?_
      refine cx_calli hA (by decide) rfl rfl rfl dX6_deposit_12 rfl mv_X6_83 (ct_X6_metalNumber hfl hA) rfl rfl (by decide) (by decide) (Nat.le_of_ble_eq_true rfl) (fun c12 => ?_) (fun E c => ?_)
      · have hm := cs_m_lt mt
        refine hk_istore dX6_deposit_15 rfl (by decide) rfl ?_
        refine hk_aload_n dX6_deposit_17 rfl rfl rfl ?_
        refine hk_iload dX6_deposit_18 rfl rfl ?_
        refine hk_bipush (v := nI 90) dX6_deposit_20 rfl (by decide) ?_
        refine cx_callv hA (by decide) rfl rfl rfl dX6_deposit_22 rfl mv_X6_86 (ct_X6_needRange hfl hA) rfl rfl (by decide) (by decide) (Nat.le_of_ble_eq_true rfl) (fun c22 => ?_) (fun E c => ?_)
        · obtain ⟨k, hk1, hk2, rfl⟩ := cd_R_of (by omega) c22
          have vak : vN (nI k) = k := vN_nI (by omega)
          refine hk_aload_n dX6_deposit_25 rfl rfl rfl ?_
          refine hk_iload_n dX6_deposit_26 rfl rfl rfl ?_
          refine hk_iload_n dX6_deposit_27 rfl rfl rfl ?_
          refine cx_callv hA (by decide) rfl rfl rfl dX6_deposit_28 rfl mv_X6_169 (ct_X6_needCustomer hfl hA (by omega) (by omega) hb7 hb8) rfl rfl (by decide) (by decide) (Nat.le_of_ble_eq_true rfl) (fun c28 => ?_) (fun E c => ?_)
          · skip
            refine hk_aload_n dX6_deposit_31 rfl rfl rfl ?_
            refine hk_iload_n dX6_deposit_32 rfl rfl rfl ?_
            refine hk_iload dX6_deposit_33 rfl rfl ?_
            refine hk_iload dX6_deposit_35 rfl rfl ?_
            refine cx_callv hA (by decide) rfl rfl rfl dX6_deposit_37 rfl mv_X6_162 (ct_X6_needLoose hfl hA h31 (by omega) (by omega)) rfl rfl (by decide) (by decide) (Nat.le_of_ble_eq_true rfl) (fun c37 => ?_) (fun E c => ?_)
            · skip
              refine hk_aload_n dX6_deposit_40 rfl rfl rfl ?_
              refine cx_getf hA (by decide) rfl dX6_deposit_41 rfl fl_X6_26 rfl ?_
              refine hk_iload_n dX6_deposit_44 rfl rfl rfl ?_
              refine hk_iload_n dX6_deposit_45 rfl rfl rfl ?_
              refine hk_iload dX6_deposit_46 rfl rfl ?_
              refine hk_iload dX6_deposit_48 rfl rfl ?_
              refine cx_calli hA (by decide) rfl rfl rfl dX6_deposit_50 rfl mv_X6_165 (ct_X2_giveLightest hfl hA h31 (by omega) (by omega)) rfl rfl (by decide) (by decide) (Nat.le_of_ble_eq_true rfl) (fun c50 => ?_) (fun E c => c.elim)
              refine hk_pop dX6_deposit_53 rfl rfl ?_
              refine hk_aload_n dX6_deposit_54 rfl rfl rfl ?_
              refine cx_getf hA (by decide) rfl dX6_deposit_55 rfl fl_X6_33 rfl ?_
              refine hk_iload_n dX6_deposit_58 rfl rfl rfl ?_
              refine hk_iload_n dX6_deposit_59 rfl rfl rfl ?_
              refine hk_iload dX6_deposit_60 rfl rfl ?_
              refine hk_aload_n dX6_deposit_62 rfl rfl rfl ?_
              refine cx_getf hA (by decide) rfl dX6_deposit_63 rfl fl_X6_19 rfl ?_
              refine hk_iload dX6_deposit_66 rfl rfl ?_
              refine cx_calli hA (by decide) rfl rfl rfl dX6_deposit_68 rfl mv_X6_101 (ct_X4_face hfl hA (by omega)) rfl rfl (by decide) (by decide) (Nat.le_of_ble_eq_true rfl) (fun c68 => ?_) (fun E c => c.elim)
              refine hk_imul dX6_deposit_71 rfl ?_
              refine cx_callv hA (by decide) rfl rfl rfl dX6_deposit_72 rfl mv_X6_172 (ct_X1_add hfl hA (by omega) (by omega)) rfl rfl (by decide) (by decide) (Nat.le_of_ble_eq_true rfl) (fun c72 => ?_) (fun E c => c.elim)
              refine hk_aload_n dX6_deposit_75 rfl rfl rfl ?_
              refine cx_getf hA (by decide) rfl dX6_deposit_76 rfl fl_X6_33 rfl ?_
              refine hk_iload_n dX6_deposit_79 rfl rfl rfl ?_
              refine hk_iload_n dX6_deposit_80 rfl rfl rfl ?_
              refine cx_calli hA (by decide) rfl rfl rfl dX6_deposit_81 rfl mv_X6_175 (ct_X1_amount hfl hA (by omega) (by omega)) rfl rfl (by decide) (by decide) (Nat.le_of_ble_eq_true rfl) (fun c81 => ?_) (fun E c => c.elim)
              exact hk_ireturn rfl (rfl) dX6_deposit_84 (by refine ⟨by simp [cd_deposit, cs_sq, c2, vaa, c7, vab2, c12, c22, vak, c28, c37], ?_, ?_⟩ <;> first | rfl | (simp only [cs_deposit, cs_pay, vaa, vab2, vak]; done) | (simp only [cs_deposit, cs_pay, vaa, vab2, vak]; rfl))
            · exact ⟨cs_thr (by simp [cd_deposit, cs_sq, c2, vaa, c7, vab2, c12, c22, vak, c28, c.1]) c, rfl⟩
          · exact ⟨cs_thr (by simp [cd_deposit, cs_sq, c2, vaa, c7, vab2, c12, c22, vak, c.1]) c, rfl⟩
        · exact ⟨cs_thr (by simp [cd_deposit, cs_sq, c2, vaa, c7, vab2, c12, c.1]) c, rfl⟩
      · exact ⟨cs_thr (by simp [cd_deposit, cs_sq, c2, vaa, c7, vab2, c.1]) c, rfl⟩
    · exact ⟨cs_thr (by simp [cd_deposit, cs_sq, c2, vaa, c.1]) c, rfl⟩
  · exact ⟨cs_thr (by simp [cd_deposit, cs_sq, c.1]) c, rfl⟩
theorem ct_X6_withdraw {c nc nb : Nat} {v t mt q : Int32} (hfl : l.stackTraces = false) (hA : hs_inj A) (hI : cx_I S c nc nb) : hk_Ctr G l 8 yX6_withdraw cX6_withdraw 7 (some .char) 12 72 [.ref (A 0), .int v, .int t, .int mt, .int q] (hs_ov A (S) h) (cx_Q A h (cd_withdraw S c v t mt q = 0) (some (.int ((cs_withdraw S nc v t mt q).2))) ((cs_withdraw S nc v t mt q).1)) (cx_X A h (S) ((fun E => ¬ cd_withdraw S c v t mt q = 0 ∧ E = cs_ex (cd_withdraw S c v t mt q)))) := by
  obtain ⟨h30, hc, h31, hnc, h32, hnb, hb7, hb8, hb17, h13, h15, h24, h26⟩ := hI
  refine hk_enter (by decide) hfl (Nat.le_of_ble_eq_true rfl) rfl ?_
  refine hk_aload_n dX6_withdraw_0 rfl rfl rfl ?_
  refine hk_iload_n dX6_withdraw_1 rfl rfl rfl ?_
  refine cx_callv hA (by decide) rfl rfl rfl dX6_withdraw_2 rfl mv_X6_71 (ct_X6_needHouse hfl hA h30 (by omega)) rfl rfl (by decide) (by decide) (Nat.le_of_ble_eq_true rfl) (fun c2 => ?_) (fun E c => ?_)
  · obtain ⟨a, ha, rfl⟩ := cd_H_of (by omega) c2
    have vaa : vN (nI a) = a := vN_nI (by omega)
    refine hk_aload_n dX6_withdraw_5 rfl rfl rfl ?_
    refine hk_iload_n dX6_withdraw_6 rfl rfl rfl ?_
    refine cx_callv hA (by decide) rfl rfl rfl dX6_withdraw_7 rfl mv_X6_71 (ct_X6_needHouse hfl hA h30 (by omega)) rfl rfl (by decide) (by decide) (Nat.le_of_ble_eq_true rfl) (fun c7 => ?_) (fun E c => ?_)
    · obtain ⟨b2, hb2, rfl⟩ := cd_H_of (by omega) c7
      have vab2 : vN (nI b2) = b2 := vN_nI (by omega)
      refine hk_aload_n dX6_withdraw_10 rfl rfl rfl ?_
      refine hk_iload_n dX6_withdraw_11 rfl rfl rfl ?_
      refine cx_calli hA (by decide) rfl rfl rfl dX6_withdraw_12 rfl mv_X6_83 (ct_X6_metalNumber hfl hA) rfl rfl (by decide) (by decide) (Nat.le_of_ble_eq_true rfl) (fun c12 => ?_) (fun E c => ?_)
      · have hm := cs_m_lt mt
        refine hk_istore dX6_withdraw_15 rfl (by decide) rfl ?_
        refine hk_aload_n dX6_withdraw_17 rfl rfl rfl ?_
        refine hk_iload dX6_withdraw_18 rfl rfl ?_
        refine hk_bipush (v := nI 90) dX6_withdraw_20 rfl (by decide) ?_
        refine cx_callv hA (by decide) rfl rfl rfl dX6_withdraw_22 rfl mv_X6_86 (ct_X6_needRange hfl hA) rfl rfl (by decide) (by decide) (Nat.le_of_ble_eq_true rfl) (fun c22 => ?_) (fun E c => ?_)
        · obtain ⟨k, hk1, hk2, rfl⟩ := cd_R_of (by omega) c22
          have vak : vN (nI k) = k := vN_nI (by omega)
          refine hk_aload_n dX6_withdraw_25 rfl rfl rfl ?_
          refine hk_iload_n dX6_withdraw_26 rfl rfl rfl ?_
          refine hk_iload_n dX6_withdraw_27 rfl rfl rfl ?_
          refine cx_callv hA (by decide) rfl rfl rfl dX6_withdraw_28 rfl mv_X6_169 (ct_X6_needCustomer hfl hA (by omega) (by omega) hb7 hb8) rfl rfl (by decide) (by decide) (Nat.le_of_ble_eq_true rfl) (fun c28 => ?_) (fun E c => ?_)
          · skip
            refine hk_iload dX6_withdraw_31 rfl rfl ?_
            refine hk_aload_n dX6_withdraw_33 rfl rfl rfl ?_
            refine cx_getf hA (by decide) rfl dX6_withdraw_34 rfl fl_X6_19 rfl ?_
            refine hk_iload dX6_withdraw_37 rfl rfl ?_
            refine cx_calli hA (by decide) rfl rfl rfl dX6_withdraw_39 rfl mv_X6_101 (ct_X4_face hfl hA (by omega)) rfl rfl (by decide) (by decide) (Nat.le_of_ble_eq_true rfl) (fun c39 => ?_) (fun E c => c.elim)
            refine hk_imul dX6_withdraw_42 rfl ?_
            refine hk_istore dX6_withdraw_43 rfl (by decide) rfl ?_
            refine hk_aload_n dX6_withdraw_45 rfl rfl rfl ?_
            refine hk_iload_n dX6_withdraw_46 rfl rfl rfl ?_
            refine hk_iload_n dX6_withdraw_47 rfl rfl rfl ?_
            refine hk_iload dX6_withdraw_48 rfl rfl ?_
            refine cx_callv hA (by decide) rfl rfl rfl dX6_withdraw_50 rfl mv_X6_178 (ct_X6_needClaim hfl hA (by omega) (by omega)) rfl rfl (by decide) (by decide) (Nat.le_of_ble_eq_true rfl) (fun c50 => ?_) (fun E c => ?_)
            · skip
              refine hk_aload_n dX6_withdraw_53 rfl rfl rfl ?_
              refine cx_getf hA (by decide) rfl dX6_withdraw_54 rfl fl_X6_26 rfl ?_
              refine hk_iload_n dX6_withdraw_57 rfl rfl rfl ?_
              refine hk_iload dX6_withdraw_58 rfl rfl ?_
              refine cx_calli hA (by decide) rfl rfl rfl dX6_withdraw_60 rfl mv_X6_181 (ct_X2_loose hfl hA h31 (by omega)) rfl rfl (by decide) (by decide) (Nat.le_of_ble_eq_true rfl) (fun c60 => ?_) (fun E c => c.elim)
              refine hk_iload dX6_withdraw_63 rfl rfl ?_
              have hlo := cs_loose_le S b2 (cs_m mt) nc
              refine cx_icmp_ge (tgt := 76) (by omega) (by omega) dX6_withdraw_65 (by decide) rfl (fun z65 => ?_) (fun z65 => ?_)
              · skip
                refine hk_aload_n dX6_withdraw_76 rfl rfl rfl ?_
                refine cx_getf hA (by decide) rfl dX6_withdraw_77 rfl fl_X6_26 rfl ?_
                refine hk_iload_n dX6_withdraw_80 rfl rfl rfl ?_
                refine hk_iload_n dX6_withdraw_81 rfl rfl rfl ?_
                refine hk_iload dX6_withdraw_82 rfl rfl ?_
                refine hk_iload dX6_withdraw_84 rfl rfl ?_
                refine cx_calli hA (by decide) rfl rfl rfl dX6_withdraw_86 rfl mv_X6_165 (ct_X2_giveLightest hfl hA h31 (by omega) (by omega)) rfl rfl (by decide) (by decide) (Nat.le_of_ble_eq_true rfl) (fun c86 => ?_) (fun E c => c.elim)
                refine hk_pop dX6_withdraw_89 rfl rfl ?_
                refine hk_aload_n dX6_withdraw_90 rfl rfl rfl ?_
                refine cx_getf hA (by decide) rfl dX6_withdraw_91 rfl fl_X6_33 rfl ?_
                refine hk_iload_n dX6_withdraw_94 rfl rfl rfl ?_
                refine hk_iload_n dX6_withdraw_95 rfl rfl rfl ?_
                refine hk_iload dX6_withdraw_96 rfl rfl ?_
                refine hk_ineg dX6_withdraw_98 rfl ?_
                refine cx_callv hA (by decide) rfl rfl rfl dX6_withdraw_99 rfl mv_X6_172 (ct_X1_add hfl hA (by omega) (by omega)) rfl rfl (by decide) (by decide) (Nat.le_of_ble_eq_true rfl) (fun c99 => ?_) (fun E c => c.elim)
                refine hk_bipush (v := nI 112) dX6_withdraw_102 rfl (by decide) ?_
                exact hk_ireturn rfl (by decide) dX6_withdraw_104 (by refine ⟨by simp [cd_withdraw, cs_sq, c2, vaa, c7, vab2, c12, c22, vak, c28, c50], ?_, ?_⟩ <;> simp only [cs_withdraw, vaa, vab2, vak] <;> unfold cs_wd <;> first | (rw [if_pos z65]; done) | (rw [if_neg z65]; done))
              · skip
                refine hk_aload_n dX6_withdraw_68 rfl rfl rfl ?_
                refine hk_iload_n dX6_withdraw_69 rfl rfl rfl ?_
                refine cx_callv hA (by decide) rfl rfl rfl dX6_withdraw_70 rfl mv_X6_184 (ct_X6_fail hfl hA h31 (by omega) (by omega) h13) rfl rfl (by decide) (by decide) (Nat.le_of_ble_eq_true rfl) (fun c70 => ?_) (fun E c => c.elim)
                refine hk_bipush (v := nI 120) dX6_withdraw_73 rfl (by decide) ?_
                exact hk_ireturn rfl (by decide) dX6_withdraw_75 (by refine ⟨by simp [cd_withdraw, cs_sq, c2, vaa, c7, vab2, c12, c22, vak, c28, c50], ?_, ?_⟩ <;> simp only [cs_withdraw, vaa, vab2, vak] <;> unfold cs_wd <;> first | (rw [if_pos z65]; done) | (rw [if_neg z65]; done))
            · exact ⟨cs_thr (by simp [cd_withdraw, cs_sq, c2, vaa, c7, vab2, c12, c22, vak, c28, c.1]) c, rfl⟩
          · exact ⟨cs_thr (by simp [cd_withdraw, cs_sq, c2, vaa, c7, vab2, c12, c22, vak, c.1]) c, rfl⟩
        · exact ⟨cs_thr (by simp [cd_withdraw, cs_sq, c2, vaa, c7, vab2, c12, c.1]) c, rfl⟩
      · exact ⟨cs_thr (by simp [cd_withdraw, cs_sq, c2, vaa, c7, vab2, c.1]) c, rfl⟩
    · exact ⟨cs_thr (by simp [cd_withdraw, cs_sq, c2, vaa, c.1]) c, rfl⟩
  · exact ⟨cs_thr (by simp [cd_withdraw, cs_sq, c.1]) c, rfl⟩
theorem ct_X6_lend {c nc nb : Nat} {q v x : Int32} (hfl : l.stackTraces = false) (hA : hs_inj A) (hI : cx_I S c nc nb) : hk_Ctr G l 8 yX6_lend cX6_lend 4 (some .int) 12 72 [.ref (A 0), .int q, .int v, .int x] (hs_ov A (S) h) (cx_Q A h (cd_lend S c q v x = 0) (some (.int ((cs_lend S q v x).1 19 (vN v * 6 + vN q)))) (cs_lend S q v x)) (cx_X A h (S) ((fun E => ¬ cd_lend S c q v x = 0 ∧ E = cs_ex (cd_lend S c q v x)))) := by
  obtain ⟨h30, hc, h31, hnc, h32, hnb, hb7, hb8, hb17, h13, h15, h24, h26⟩ := hI
  refine hk_enter (by decide) hfl (Nat.le_of_ble_eq_true rfl) rfl ?_
  refine hk_aload_n dX6_lend_0 rfl rfl rfl ?_
  refine hk_iload_n dX6_lend_1 rfl rfl rfl ?_
  refine cx_callv hA (by decide) rfl rfl rfl dX6_lend_2 rfl mv_X6_71 (ct_X6_needHouse hfl hA h30 (by omega)) rfl rfl (by decide) (by decide) (Nat.le_of_ble_eq_true rfl) (fun c2 => ?_) (fun E c => ?_)
  · obtain ⟨a, ha, rfl⟩ := cd_H_of (by omega) c2
    have vaa : vN (nI a) = a := vN_nI (by omega)
    refine hk_aload_n dX6_lend_5 rfl rfl rfl ?_
    refine hk_iload_n dX6_lend_6 rfl rfl rfl ?_
    refine cx_callv hA (by decide) rfl rfl rfl dX6_lend_7 rfl mv_X6_71 (ct_X6_needHouse hfl hA h30 (by omega)) rfl rfl (by decide) (by decide) (Nat.le_of_ble_eq_true rfl) (fun c7 => ?_) (fun E c => ?_)
    · obtain ⟨b2, hb2, rfl⟩ := cd_H_of (by omega) c7
      have vab2 : vN (nI b2) = b2 := vN_nI (by omega)
      refine hk_aload_n dX6_lend_10 rfl rfl rfl ?_
      refine hk_iload_n dX6_lend_11 rfl rfl rfl ?_
      refine hk_sipush (v := nI 9999) dX6_lend_12 rfl (by decide) ?_
      refine cx_callv hA (by decide) rfl rfl rfl dX6_lend_15 rfl mv_X6_86 (ct_X6_needRange hfl hA) rfl rfl (by decide) (by decide) (Nat.le_of_ble_eq_true rfl) (fun c15 => ?_) (fun E c => ?_)
      · skip
        refine hk_aload_n dX6_lend_18 rfl rfl rfl ?_
        refine hk_iload_n dX6_lend_19 rfl rfl rfl ?_
        refine hk_iload_n dX6_lend_20 rfl rfl rfl ?_
        refine cx_callv hA (by decide) rfl rfl rfl dX6_lend_21 rfl mv_X6_169 (ct_X6_needCustomer hfl hA (by omega) (by omega) hb7 hb8) rfl rfl (by decide) (by decide) (Nat.le_of_ble_eq_true rfl) (fun c21 => ?_) (fun E c => ?_)
        · skip
          refine hk_aload_n dX6_lend_24 rfl rfl rfl ?_
          refine cx_getf hA (by decide) rfl dX6_lend_25 rfl fl_X6_33 rfl ?_
          refine hk_iload_n dX6_lend_28 rfl rfl rfl ?_
          refine hk_iload_n dX6_lend_29 rfl rfl rfl ?_
          refine hk_iload_n dX6_lend_30 rfl rfl rfl ?_
          refine cx_callv hA (by decide) rfl rfl rfl dX6_lend_31 rfl mv_X6_172 (ct_X1_add hfl hA (by omega) (by omega)) rfl rfl (by decide) (by decide) (Nat.le_of_ble_eq_true rfl) (fun c31 => ?_) (fun E c => c.elim)
          refine hk_aload_n dX6_lend_34 rfl rfl rfl ?_
          refine cx_getf hA (by decide) rfl dX6_lend_35 rfl fl_X6_33 rfl ?_
          refine hk_iload_n dX6_lend_38 rfl rfl rfl ?_
          refine hk_iload_n dX6_lend_39 rfl rfl rfl ?_
          refine hk_iload_n dX6_lend_40 rfl rfl rfl ?_
          refine cx_callv hA (by decide) rfl rfl rfl dX6_lend_41 rfl mv_X6_172 (ct_X1_add hfl hA (by omega) (by omega)) rfl rfl (by decide) (by decide) (Nat.le_of_ble_eq_true rfl) (fun c41 => ?_) (fun E c => c.elim)
          refine hk_aload_n dX6_lend_44 rfl rfl rfl ?_
          refine cx_getf hA (by decide) rfl dX6_lend_45 rfl fl_X6_33 rfl ?_
          refine hk_iload_n dX6_lend_48 rfl rfl rfl ?_
          refine hk_iload_n dX6_lend_49 rfl rfl rfl ?_
          refine cx_calli hA (by decide) rfl rfl rfl dX6_lend_50 rfl mv_X6_175 (ct_X1_amount hfl hA (by omega) (by omega)) rfl rfl (by decide) (by decide) (Nat.le_of_ble_eq_true rfl) (fun c50 => ?_) (fun E c => c.elim)
          exact hk_ireturn rfl (rfl) dX6_lend_53 (by refine ⟨by simp [cd_lend, cs_sq, c2, vaa, c7, vab2, c15, c21], ?_, ?_⟩ <;> first | rfl | (simp only [cs_lend, vaa, vab2]; done) | (simp only [cs_lend, vaa, vab2]; rfl))
        · exact ⟨cs_thr (by simp [cd_lend, cs_sq, c2, vaa, c7, vab2, c15, c.1]) c, rfl⟩
      · exact ⟨cs_thr (by simp [cd_lend, cs_sq, c2, vaa, c7, vab2, c.1]) c, rfl⟩
    · exact ⟨cs_thr (by simp [cd_lend, cs_sq, c2, vaa, c.1]) c, rfl⟩
  · exact ⟨cs_thr (by simp [cd_lend, cs_sq, c.1]) c, rfl⟩
theorem ct_X6_hand {c nc nb : Nat} {v t q x : Int32} (hfl : l.stackTraces = false) (hA : hs_inj A) (hI : cx_I S c nc nb) : hk_Ctr G l 8 yX6_hand cX6_hand 5 (some .int) 12 72 [.ref (A 0), .int v, .int t, .int q, .int x] (hs_ov A (S) h) (cx_Q A h (cd_hand S c v t q x = 0) (some (.int ((cs_hand S v t q x).1 19 (vN v * 6 + vN q)))) (cs_hand S v t q x)) (cx_X A h (S) ((fun E => ¬ cd_hand S c v t q x = 0 ∧ E = cs_ex (cd_hand S c v t q x)))) := by
  obtain ⟨h30, hc, h31, hnc, h32, hnb, hb7, hb8, hb17, h13, h15, h24, h26⟩ := hI
  refine hk_enter (by decide) hfl (Nat.le_of_ble_eq_true rfl) rfl ?_
  refine hk_aload_n dX6_hand_0 rfl rfl rfl ?_
  refine hk_iload_n dX6_hand_1 rfl rfl rfl ?_
  refine cx_callv hA (by decide) rfl rfl rfl dX6_hand_2 rfl mv_X6_71 (ct_X6_needHouse hfl hA h30 (by omega)) rfl rfl (by decide) (by decide) (Nat.le_of_ble_eq_true rfl) (fun c2 => ?_) (fun E c => ?_)
  · obtain ⟨a, ha, rfl⟩ := cd_H_of (by omega) c2
    have vaa : vN (nI a) = a := vN_nI (by omega)
    refine hk_aload_n dX6_hand_5 rfl rfl rfl ?_
    refine hk_iload_n dX6_hand_6 rfl rfl rfl ?_
    refine cx_callv hA (by decide) rfl rfl rfl dX6_hand_7 rfl mv_X6_71 (ct_X6_needHouse hfl hA h30 (by omega)) rfl rfl (by decide) (by decide) (Nat.le_of_ble_eq_true rfl) (fun c7 => ?_) (fun E c => ?_)
    · obtain ⟨b2, hb2, rfl⟩ := cd_H_of (by omega) c7
      have vab2 : vN (nI b2) = b2 := vN_nI (by omega)
      refine hk_aload_n dX6_hand_10 rfl rfl rfl ?_
      refine hk_iload_n dX6_hand_11 rfl rfl rfl ?_
      refine cx_callv hA (by decide) rfl rfl rfl dX6_hand_12 rfl mv_X6_71 (ct_X6_needHouse hfl hA h30 (by omega)) rfl rfl (by decide) (by decide) (Nat.le_of_ble_eq_true rfl) (fun c12 => ?_) (fun E c => ?_)
      · obtain ⟨e3, he3, rfl⟩ := cd_H_of (by omega) c12
        have vae3 : vN (nI e3) = e3 := vN_nI (by omega)
        refine hk_aload_n dX6_hand_15 rfl rfl rfl ?_
        refine hk_iload dX6_hand_16 rfl rfl ?_
        refine hk_sipush (v := nI 9999) dX6_hand_18 rfl (by decide) ?_
        refine cx_callv hA (by decide) rfl rfl rfl dX6_hand_21 rfl mv_X6_86 (ct_X6_needRange hfl hA) rfl rfl (by decide) (by decide) (Nat.le_of_ble_eq_true rfl) (fun c21 => ?_) (fun E c => ?_)
        · skip
          refine hk_aload_n dX6_hand_24 rfl rfl rfl ?_
          refine hk_iload_n dX6_hand_25 rfl rfl rfl ?_
          refine hk_iload_n dX6_hand_26 rfl rfl rfl ?_
          refine cx_callv hA (by decide) rfl rfl rfl dX6_hand_27 rfl mv_X6_159 (ct_X6_needDifferent hfl hA) rfl rfl (by decide) (by decide) (Nat.le_of_ble_eq_true rfl) (fun c27 => ?_) (fun E c => ?_)
          · skip
            refine hk_aload_n dX6_hand_30 rfl rfl rfl ?_
            refine hk_iload_n dX6_hand_31 rfl rfl rfl ?_
            refine hk_iload_n dX6_hand_32 rfl rfl rfl ?_
            refine cx_callv hA (by decide) rfl rfl rfl dX6_hand_33 rfl mv_X6_159 (ct_X6_needDifferent hfl hA) rfl rfl (by decide) (by decide) (Nat.le_of_ble_eq_true rfl) (fun c33 => ?_) (fun E c => ?_)
            · skip
              refine hk_aload_n dX6_hand_36 rfl rfl rfl ?_
              refine hk_iload_n dX6_hand_37 rfl rfl rfl ?_
              refine hk_iload_n dX6_hand_38 rfl rfl rfl ?_
              refine cx_callv hA (by decide) rfl rfl rfl dX6_hand_39 rfl mv_X6_169 (ct_X6_needCustomer hfl hA (by omega) (by omega) hb7 hb8) rfl rfl (by decide) (by decide) (Nat.le_of_ble_eq_true rfl) (fun c39 => ?_) (fun E c => ?_)
              · skip
                refine hk_aload_n dX6_hand_42 rfl rfl rfl ?_
                refine hk_iload_n dX6_hand_43 rfl rfl rfl ?_
                refine cx_callv hA (by decide) rfl rfl rfl dX6_hand_44 rfl mv_X6_90 (ct_X6_needOpen hfl hA (by omega) hb8) rfl rfl (by decide) (by decide) (Nat.le_of_ble_eq_true rfl) (fun c44 => ?_) (fun E c => ?_)
                · skip
                  refine hk_aload_n dX6_hand_47 rfl rfl rfl ?_
                  refine hk_iload_n dX6_hand_48 rfl rfl rfl ?_
                  refine hk_iload_n dX6_hand_49 rfl rfl rfl ?_
                  refine hk_iload dX6_hand_50 rfl rfl ?_
                  refine cx_callv hA (by decide) rfl rfl rfl dX6_hand_52 rfl mv_X6_178 (ct_X6_needClaim hfl hA (by omega) (by omega)) rfl rfl (by decide) (by decide) (Nat.le_of_ble_eq_true rfl) (fun c52 => ?_) (fun E c => ?_)
                  · skip
                    refine hk_aload_n dX6_hand_55 rfl rfl rfl ?_
                    refine cx_getf hA (by decide) rfl dX6_hand_56 rfl fl_X6_33 rfl ?_
                    refine hk_iload_n dX6_hand_59 rfl rfl rfl ?_
                    refine hk_iload_n dX6_hand_60 rfl rfl rfl ?_
                    refine hk_iload dX6_hand_61 rfl rfl ?_
                    refine hk_ineg dX6_hand_63 rfl ?_
                    refine cx_callv hA (by decide) rfl rfl rfl dX6_hand_64 rfl mv_X6_172 (ct_X1_add hfl hA (by omega) (by omega)) rfl rfl (by decide) (by decide) (Nat.le_of_ble_eq_true rfl) (fun c64 => ?_) (fun E c => c.elim)
                    refine hk_aload_n dX6_hand_67 rfl rfl rfl ?_
                    refine cx_getf hA (by decide) rfl dX6_hand_68 rfl fl_X6_33 rfl ?_
                    refine hk_iload_n dX6_hand_71 rfl rfl rfl ?_
                    refine hk_iload_n dX6_hand_72 rfl rfl rfl ?_
                    refine hk_iload dX6_hand_73 rfl rfl ?_
                    refine cx_callv hA (by decide) rfl rfl rfl dX6_hand_75 rfl mv_X6_172 (ct_X1_add hfl hA (by omega) (by omega)) rfl rfl (by decide) (by decide) (Nat.le_of_ble_eq_true rfl) (fun c75 => ?_) (fun E c => c.elim)
                    refine hk_aload_n dX6_hand_78 rfl rfl rfl ?_
                    refine cx_getf hA (by decide) rfl dX6_hand_79 rfl fl_X6_33 rfl ?_
                    refine hk_iload_n dX6_hand_82 rfl rfl rfl ?_
                    refine hk_iload_n dX6_hand_83 rfl rfl rfl ?_
                    refine cx_calli hA (by decide) rfl rfl rfl dX6_hand_84 rfl mv_X6_175 (ct_X1_amount hfl hA (by omega) (by omega)) rfl rfl (by decide) (by decide) (Nat.le_of_ble_eq_true rfl) (fun c84 => ?_) (fun E c => c.elim)
                    exact hk_ireturn rfl (rfl) dX6_hand_87 (by refine ⟨by simp [cd_hand, cs_sq, c2, vaa, c7, vab2, c12, vae3, c21, c27, c33, c39, c44, c52], ?_, ?_⟩ <;> first | rfl | (simp only [cs_hand, vaa, vab2, vae3]; done) | (simp only [cs_hand, vaa, vab2, vae3]; rfl))
                  · exact ⟨cs_thr (by simp [cd_hand, cs_sq, c2, vaa, c7, vab2, c12, vae3, c21, c27, c33, c39, c44, c.1]) c, rfl⟩
                · exact ⟨cs_thr (by simp [cd_hand, cs_sq, c2, vaa, c7, vab2, c12, vae3, c21, c27, c33, c39, c.1]) c, rfl⟩
              · exact ⟨cs_thr (by simp [cd_hand, cs_sq, c2, vaa, c7, vab2, c12, vae3, c21, c27, c33, c.1]) c, rfl⟩
            · exact ⟨cs_thr (by simp [cd_hand, cs_sq, c2, vaa, c7, vab2, c12, vae3, c21, c27, c.1]) c, rfl⟩
          · exact ⟨cs_thr (by simp [cd_hand, cs_sq, c2, vaa, c7, vab2, c12, vae3, c21, c.1]) c, rfl⟩
        · exact ⟨cs_thr (by simp [cd_hand, cs_sq, c2, vaa, c7, vab2, c12, vae3, c.1]) c, rfl⟩
      · exact ⟨cs_thr (by simp [cd_hand, cs_sq, c2, vaa, c7, vab2, c.1]) c, rfl⟩
    · exact ⟨cs_thr (by simp [cd_hand, cs_sq, c2, vaa, c.1]) c, rfl⟩
  · exact ⟨cs_thr (by simp [cd_hand, cs_sq, c.1]) c, rfl⟩
theorem ct_X6_forgive {c nc nb : Nat} {v t x : Int32} (hfl : l.stackTraces = false) (hA : hs_inj A) (hI : cx_I S c nc nb) : hk_Ctr G l 8 yX6_forgive cX6_forgive 4 (some .int) 12 72 [.ref (A 0), .int v, .int t, .int x] (hs_ov A (S) h) (cx_Q A h (cd_forgive S c v t x = 0) (some (.int ((cs_cadd S (vN v) (vN t) (-x)).1 19 (vN v * 6 + vN t)))) (cs_cadd S (vN v) (vN t) (-x))) (cx_X A h (S) ((fun E => ¬ cd_forgive S c v t x = 0 ∧ E = cs_ex (cd_forgive S c v t x)))) := by
  obtain ⟨h30, hc, h31, hnc, h32, hnb, hb7, hb8, hb17, h13, h15, h24, h26⟩ := hI
  refine hk_enter (by decide) hfl (Nat.le_of_ble_eq_true rfl) rfl ?_
  refine hk_aload_n dX6_forgive_0 rfl rfl rfl ?_
  refine hk_iload_n dX6_forgive_1 rfl rfl rfl ?_
  refine cx_callv hA (by decide) rfl rfl rfl dX6_forgive_2 rfl mv_X6_71 (ct_X6_needHouse hfl hA h30 (by omega)) rfl rfl (by decide) (by decide) (Nat.le_of_ble_eq_true rfl) (fun c2 => ?_) (fun E c => ?_)
  · obtain ⟨a, ha, rfl⟩ := cd_H_of (by omega) c2
    have vaa : vN (nI a) = a := vN_nI (by omega)
    refine hk_aload_n dX6_forgive_5 rfl rfl rfl ?_
    refine hk_iload_n dX6_forgive_6 rfl rfl rfl ?_
    refine cx_callv hA (by decide) rfl rfl rfl dX6_forgive_7 rfl mv_X6_71 (ct_X6_needHouse hfl hA h30 (by omega)) rfl rfl (by decide) (by decide) (Nat.le_of_ble_eq_true rfl) (fun c7 => ?_) (fun E c => ?_)
    · obtain ⟨b2, hb2, rfl⟩ := cd_H_of (by omega) c7
      have vab2 : vN (nI b2) = b2 := vN_nI (by omega)
      refine hk_aload_n dX6_forgive_10 rfl rfl rfl ?_
      refine hk_iload_n dX6_forgive_11 rfl rfl rfl ?_
      refine hk_sipush (v := nI 9999) dX6_forgive_12 rfl (by decide) ?_
      refine cx_callv hA (by decide) rfl rfl rfl dX6_forgive_15 rfl mv_X6_86 (ct_X6_needRange hfl hA) rfl rfl (by decide) (by decide) (Nat.le_of_ble_eq_true rfl) (fun c15 => ?_) (fun E c => ?_)
      · skip
        refine hk_aload_n dX6_forgive_18 rfl rfl rfl ?_
        refine hk_iload_n dX6_forgive_19 rfl rfl rfl ?_
        refine hk_iload_n dX6_forgive_20 rfl rfl rfl ?_
        refine hk_iload_n dX6_forgive_21 rfl rfl rfl ?_
        refine cx_callv hA (by decide) rfl rfl rfl dX6_forgive_22 rfl mv_X6_178 (ct_X6_needClaim hfl hA (by omega) (by omega)) rfl rfl (by decide) (by decide) (Nat.le_of_ble_eq_true rfl) (fun c22 => ?_) (fun E c => ?_)
        · skip
          refine hk_aload_n dX6_forgive_25 rfl rfl rfl ?_
          refine cx_getf hA (by decide) rfl dX6_forgive_26 rfl fl_X6_33 rfl ?_
          refine hk_iload_n dX6_forgive_29 rfl rfl rfl ?_
          refine hk_iload_n dX6_forgive_30 rfl rfl rfl ?_
          refine hk_iload_n dX6_forgive_31 rfl rfl rfl ?_
          refine hk_ineg dX6_forgive_32 rfl ?_
          refine cx_callv hA (by decide) rfl rfl rfl dX6_forgive_33 rfl mv_X6_172 (ct_X1_add hfl hA (by omega) (by omega)) rfl rfl (by decide) (by decide) (Nat.le_of_ble_eq_true rfl) (fun c33 => ?_) (fun E c => c.elim)
          refine hk_aload_n dX6_forgive_36 rfl rfl rfl ?_
          refine cx_getf hA (by decide) rfl dX6_forgive_37 rfl fl_X6_33 rfl ?_
          refine hk_iload_n dX6_forgive_40 rfl rfl rfl ?_
          refine hk_iload_n dX6_forgive_41 rfl rfl rfl ?_
          refine cx_calli hA (by decide) rfl rfl rfl dX6_forgive_42 rfl mv_X6_175 (ct_X1_amount hfl hA (by omega) (by omega)) rfl rfl (by decide) (by decide) (Nat.le_of_ble_eq_true rfl) (fun c42 => ?_) (fun E c => c.elim)
          exact hk_ireturn rfl (rfl) dX6_forgive_45 (by refine ⟨by simp [cd_forgive, cs_sq, c2, vaa, c7, vab2, c15, c22], ?_, ?_⟩ <;> first | rfl | (simp only [vaa, vab2]; done) | (simp only [vaa, vab2]; rfl))
        · exact ⟨cs_thr (by simp [cd_forgive, cs_sq, c2, vaa, c7, vab2, c15, c.1]) c, rfl⟩
      · exact ⟨cs_thr (by simp [cd_forgive, cs_sq, c2, vaa, c7, vab2, c.1]) c, rfl⟩
    · exact ⟨cs_thr (by simp [cd_forgive, cs_sq, c2, vaa, c.1]) c, rfl⟩
  · exact ⟨cs_thr (by simp [cd_forgive, cs_sq, c.1]) c, rfl⟩
theorem ct_X6_claim {c nc nb : Nat} {v t : Int32} (hfl : l.stackTraces = false) (hA : hs_inj A) (hI : cx_I S c nc nb) : hk_Ctr G l 8 yX6_claim cX6_claim 3 (some .int) 12 72 [.ref (A 0), .int v, .int t] (hs_ov A (S) h) (cx_Q A h (cd_claim c v t = 0) (some (.int (S.1 19 (vN v * 6 + vN t)))) (S)) (cx_X A h (S) ((fun E => ¬ cd_claim c v t = 0 ∧ E = cs_ex (cd_claim c v t)))) := by
  obtain ⟨h30, hc, h31, hnc, h32, hnb, hb7, hb8, hb17, h13, h15, h24, h26⟩ := hI
  refine hk_enter (by decide) hfl (Nat.le_of_ble_eq_true rfl) rfl ?_
  refine hk_aload_n dX6_claim_0 rfl rfl rfl ?_
  refine hk_iload_n dX6_claim_1 rfl rfl rfl ?_
  refine cx_callv hA (by decide) rfl rfl rfl dX6_claim_2 rfl mv_X6_71 (ct_X6_needHouse hfl hA h30 (by omega)) rfl rfl (by decide) (by decide) (Nat.le_of_ble_eq_true rfl) (fun c2 => ?_) (fun E c => ?_)
  · obtain ⟨a, ha, rfl⟩ := cd_H_of (by omega) c2
    have vaa : vN (nI a) = a := vN_nI (by omega)
    refine hk_aload_n dX6_claim_5 rfl rfl rfl ?_
    refine hk_iload_n dX6_claim_6 rfl rfl rfl ?_
    refine cx_callv hA (by decide) rfl rfl rfl dX6_claim_7 rfl mv_X6_71 (ct_X6_needHouse hfl hA h30 (by omega)) rfl rfl (by decide) (by decide) (Nat.le_of_ble_eq_true rfl) (fun c7 => ?_) (fun E c => ?_)
    · obtain ⟨b2, hb2, rfl⟩ := cd_H_of (by omega) c7
      have vab2 : vN (nI b2) = b2 := vN_nI (by omega)
      refine hk_aload_n dX6_claim_10 rfl rfl rfl ?_
      refine cx_getf hA (by decide) rfl dX6_claim_11 rfl fl_X6_33 rfl ?_
      refine hk_iload_n dX6_claim_14 rfl rfl rfl ?_
      refine hk_iload_n dX6_claim_15 rfl rfl rfl ?_
      refine cx_calli hA (by decide) rfl rfl rfl dX6_claim_16 rfl mv_X6_175 (ct_X1_amount hfl hA (by omega) (by omega)) rfl rfl (by decide) (by decide) (Nat.le_of_ble_eq_true rfl) (fun c16 => ?_) (fun E c => c.elim)
      exact hk_ireturn rfl (rfl) dX6_claim_19 (by refine ⟨by simp [cd_claim, cs_sq, c2, vaa, c7, vab2], ?_, ?_⟩ <;> first | rfl | (simp only [vaa, vab2]; done) | (simp only [vaa, vab2]; rfl))
    · exact ⟨cs_thr (by simp [cd_claim, cs_sq, c2, vaa, c.1]) c, rfl⟩
  · exact ⟨cs_thr (by simp [cd_claim, cs_sq, c.1]) c, rfl⟩
theorem ct_X6_draw {c nc nb : Nat} {v t x q : Int32} (hfl : l.stackTraces = false) (hA : hs_inj A) (hI : cx_I S c nc nb) : hk_Ctr G l 8 yX6_draw cX6_draw 5 (some .int) 12 72 [.ref (A 0), .int v, .int t, .int x, .int q] (hs_ov A (S) h) (cx_Q A h (cd_draw S c nb v t x q = 0) (some (.int (nI nb))) (cs_write S nb v t x q)) (cx_X A h (S) ((fun E => ¬ cd_draw S c nb v t x q = 0 ∧ E = cs_ex (cd_draw S c nb v t x q)))) := by
  obtain ⟨h30, hc, h31, hnc, h32, hnb, hb7, hb8, hb17, h13, h15, h24, h26⟩ := hI
  refine hk_enter (by decide) hfl (Nat.le_of_ble_eq_true rfl) rfl ?_
  refine hk_aload_n dX6_draw_0 rfl rfl rfl ?_
  refine hk_iload_n dX6_draw_1 rfl rfl rfl ?_
  refine cx_callv hA (by decide) rfl rfl rfl dX6_draw_2 rfl mv_X6_71 (ct_X6_needHouse hfl hA h30 (by omega)) rfl rfl (by decide) (by decide) (Nat.le_of_ble_eq_true rfl) (fun c2 => ?_) (fun E c => ?_)
  · obtain ⟨a, ha, rfl⟩ := cd_H_of (by omega) c2
    have vaa : vN (nI a) = a := vN_nI (by omega)
    refine hk_aload_n dX6_draw_5 rfl rfl rfl ?_
    refine hk_iload_n dX6_draw_6 rfl rfl rfl ?_
    refine cx_callv hA (by decide) rfl rfl rfl dX6_draw_7 rfl mv_X6_71 (ct_X6_needHouse hfl hA h30 (by omega)) rfl rfl (by decide) (by decide) (Nat.le_of_ble_eq_true rfl) (fun c7 => ?_) (fun E c => ?_)
    · obtain ⟨b2, hb2, rfl⟩ := cd_H_of (by omega) c7
      have vab2 : vN (nI b2) = b2 := vN_nI (by omega)
      refine hk_aload_n dX6_draw_10 rfl rfl rfl ?_
      refine hk_iload_n dX6_draw_11 rfl rfl rfl ?_
      refine hk_sipush (v := nI 9999) dX6_draw_12 rfl (by decide) ?_
      refine cx_callv hA (by decide) rfl rfl rfl dX6_draw_15 rfl mv_X6_86 (ct_X6_needRange hfl hA) rfl rfl (by decide) (by decide) (Nat.le_of_ble_eq_true rfl) (fun c15 => ?_) (fun E c => ?_)
      · skip
        refine hk_aload_n dX6_draw_18 rfl rfl rfl ?_
        refine hk_iload dX6_draw_19 rfl rfl ?_
        refine hk_bipush (v := nI 9) dX6_draw_21 rfl (by decide) ?_
        refine cx_callv hA (by decide) rfl rfl rfl dX6_draw_23 rfl mv_X6_86 (ct_X6_needRange hfl hA) rfl rfl (by decide) (by decide) (Nat.le_of_ble_eq_true rfl) (fun c23 => ?_) (fun E c => ?_)
        · skip
          refine hk_aload_n dX6_draw_26 rfl rfl rfl ?_
          refine hk_iload_n dX6_draw_27 rfl rfl rfl ?_
          refine hk_iload_n dX6_draw_28 rfl rfl rfl ?_
          refine cx_callv hA (by decide) rfl rfl rfl dX6_draw_29 rfl mv_X6_159 (ct_X6_needDifferent hfl hA) rfl rfl (by decide) (by decide) (Nat.le_of_ble_eq_true rfl) (fun c29 => ?_) (fun E c => ?_)
          · skip
            refine hk_aload_n dX6_draw_32 rfl rfl rfl ?_
            refine hk_iload_n dX6_draw_33 rfl rfl rfl ?_
            refine cx_callv hA (by decide) rfl rfl rfl dX6_draw_34 rfl mv_X6_90 (ct_X6_needOpen hfl hA (by omega) hb8) rfl rfl (by decide) (by decide) (Nat.le_of_ble_eq_true rfl) (fun c34 => ?_) (fun E c => ?_)
            · skip
              refine hk_aload_n dX6_draw_37 rfl rfl rfl ?_
              refine hk_iload_n dX6_draw_38 rfl rfl rfl ?_
              refine cx_callv hA (by decide) rfl rfl rfl dX6_draw_39 rfl mv_X6_90 (ct_X6_needOpen hfl hA (by omega) hb8) rfl rfl (by decide) (by decide) (Nat.le_of_ble_eq_true rfl) (fun c39 => ?_) (fun E c => ?_)
              · skip
                refine hk_aload_n dX6_draw_42 rfl rfl rfl ?_
                refine cx_getf hA (by decide) rfl dX6_draw_43 rfl fl_X6_40 rfl ?_
                refine cx_calli hA (by decide) rfl rfl rfl dX6_draw_46 rfl mv_X6_187 (ct_X0_count hfl hA h32) rfl rfl (by decide) (by decide) (Nat.le_of_ble_eq_true rfl) (fun c46 => ?_) (fun E c => c.elim)
                refine hk_bipush (v := nI 12) dX6_draw_49 rfl (by decide) ?_
                refine cx_icmp_lt (tgt := 64) (by omega) (by omega) dX6_draw_51 (by decide) rfl (fun z51 => ?_) (fun z51 => ?_)
                · skip
                  refine hk_aload_n dX6_draw_64 rfl rfl rfl ?_
                  refine cx_getf hA (by decide) rfl dX6_draw_65 rfl fl_X6_40 rfl ?_
                  refine hk_iload_n dX6_draw_68 rfl rfl rfl ?_
                  refine hk_iload_n dX6_draw_69 rfl rfl rfl ?_
                  refine hk_iload_n dX6_draw_70 rfl rfl rfl ?_
                  refine hk_iload dX6_draw_71 rfl rfl ?_
                  refine cx_calli hA (by decide) rfl rfl rfl dX6_draw_73 rfl mv_X6_190 (ct_X0_write hfl hA h32 (by omega)) rfl rfl (by decide) (by decide) (Nat.le_of_ble_eq_true rfl) (fun c73 => ?_) (fun E c => c.elim)
                  exact hk_ireturn rfl (rfl) dX6_draw_76 (by refine ⟨by simp [cd_draw, cd_n, cs_sq, c2, vaa, c7, vab2, c15, c23, c29, c34, c39, z51], ?_, ?_⟩ <;> first | rfl | (simp only [vaa, vab2]; done) | (simp only [vaa, vab2]; rfl))
                · skip
                  exact hk_throw rfl rfl th_111 (List.mem_of_getElem? (i := 15) rfl) dX6_draw_54 dX6_draw_57 dX6_draw_58 dX6_draw_60 dX6_draw_63 (by decide) (by decide) (Nat.le_of_ble_eq_true rfl) (⟨cs_thr (k := 4) (by simp [cd_draw, cd_n, cs_sq, c2, vaa, c7, vab2, c15, c23, c29, c34, c39, z51]) ⟨by decide, rfl⟩, rfl⟩)
              · exact ⟨cs_thr (by simp [cd_draw, cd_n, cs_sq, c2, vaa, c7, vab2, c15, c23, c29, c34, c.1]) c, rfl⟩
            · exact ⟨cs_thr (by simp [cd_draw, cd_n, cs_sq, c2, vaa, c7, vab2, c15, c23, c29, c.1]) c, rfl⟩
          · exact ⟨cs_thr (by simp [cd_draw, cd_n, cs_sq, c2, vaa, c7, vab2, c15, c23, c.1]) c, rfl⟩
        · exact ⟨cs_thr (by simp [cd_draw, cd_n, cs_sq, c2, vaa, c7, vab2, c15, c.1]) c, rfl⟩
      · exact ⟨cs_thr (by simp [cd_draw, cd_n, cs_sq, c2, vaa, c7, vab2, c.1]) c, rfl⟩
    · exact ⟨cs_thr (by simp [cd_draw, cd_n, cs_sq, c2, vaa, c.1]) c, rfl⟩
  · exact ⟨cs_thr (by simp [cd_draw, cd_n, cs_sq, c.1]) c, rfl⟩
theorem ct_X6_addShare {c nc nb : Nat} {g v q : Int32} (hfl : l.stackTraces = false) (hA : hs_inj A) (hI : cx_I S c nc nb) : hk_Ctr G l 8 yX6_addShare cX6_addShare 4 (some .int) 12 72 [.ref (A 0), .int g, .int v, .int q] (hs_ov A (S) h) (cx_Q A h (cd_addShare S c g v q = 0) (some (.int ((cs_addShare S g v q).1 27 (vN g * 6 + vN v)))) (cs_addShare S g v q)) (cx_X A h (S) ((fun E => ¬ cd_addShare S c g v q = 0 ∧ E = cs_ex (cd_addShare S c g v q)))) := by
  obtain ⟨h30, hc, h31, hnc, h32, hnb, hb7, hb8, hb17, h13, h15, h24, h26⟩ := hI
  refine hk_enter (by decide) hfl (Nat.le_of_ble_eq_true rfl) rfl ?_
  refine hk_aload_n dX6_addShare_0 rfl rfl rfl ?_
  refine hk_iload_n dX6_addShare_1 rfl rfl rfl ?_
  refine cx_callv hA (by decide) rfl rfl rfl dX6_addShare_2 rfl mv_X6_218 (ct_X6_needVoyage hfl hA) rfl rfl (by decide) (by decide) (Nat.le_of_ble_eq_true rfl) (fun c2 => ?_) (fun E c => ?_)
  · obtain ⟨a, ha, rfl⟩ := cd_H_of (by omega) c2
    have vaa : vN (nI a) = a := vN_nI (by omega)
    refine hk_aload_n dX6_addShare_5 rfl rfl rfl ?_
    refine hk_iload_n dX6_addShare_6 rfl rfl rfl ?_
    refine cx_callv hA (by decide) rfl rfl rfl dX6_addShare_7 rfl mv_X6_71 (ct_X6_needHouse hfl hA h30 (by omega)) rfl rfl (by decide) (by decide) (Nat.le_of_ble_eq_true rfl) (fun c7 => ?_) (fun E c => ?_)
    · obtain ⟨b2, hb2, rfl⟩ := cd_H_of (by omega) c7
      have vab2 : vN (nI b2) = b2 := vN_nI (by omega)
      refine hk_aload_n dX6_addShare_10 rfl rfl rfl ?_
      refine hk_iload_n dX6_addShare_11 rfl rfl rfl ?_
      refine hk_bipush (v := nI 99) dX6_addShare_12 rfl (by decide) ?_
      refine cx_callv hA (by decide) rfl rfl rfl dX6_addShare_14 rfl mv_X6_86 (ct_X6_needRange hfl hA) rfl rfl (by decide) (by decide) (Nat.le_of_ble_eq_true rfl) (fun c14 => ?_) (fun E c => ?_)
      · skip
        refine hk_aload_n dX6_addShare_17 rfl rfl rfl ?_
        refine hk_iload_n dX6_addShare_18 rfl rfl rfl ?_
        refine cx_callv hA (by decide) rfl rfl rfl dX6_addShare_19 rfl mv_X6_90 (ct_X6_needOpen hfl hA (by omega) hb8) rfl rfl (by decide) (by decide) (Nat.le_of_ble_eq_true rfl) (fun c19 => ?_) (fun E c => ?_)
        · skip
          refine hk_aload_n dX6_addShare_22 rfl rfl rfl ?_
          refine cx_getf hA (by decide) rfl dX6_addShare_23 rfl fl_X6_47 rfl ?_
          refine hk_iload_n dX6_addShare_26 rfl rfl rfl ?_
          refine hk_iload_n dX6_addShare_27 rfl rfl rfl ?_
          refine hk_iload_n dX6_addShare_28 rfl rfl rfl ?_
          refine cx_callv hA (by decide) rfl rfl rfl dX6_addShare_29 rfl mv_X6_221 (ct_X5_addValue hfl hA (by omega) (by omega)) rfl rfl (by decide) (by decide) (Nat.le_of_ble_eq_true rfl) (fun c29 => ?_) (fun E c => c.elim)
          refine hk_aload_n dX6_addShare_32 rfl rfl rfl ?_
          refine cx_getf hA (by decide) rfl dX6_addShare_33 rfl fl_X6_47 rfl ?_
          refine hk_iload_n dX6_addShare_36 rfl rfl rfl ?_
          refine hk_iload_n dX6_addShare_37 rfl rfl rfl ?_
          refine cx_calli hA (by decide) rfl rfl rfl dX6_addShare_38 rfl mv_X6_224 (ct_X5_value hfl hA (by omega) (by omega)) rfl rfl (by decide) (by decide) (Nat.le_of_ble_eq_true rfl) (fun c38 => ?_) (fun E c => c.elim)
          exact hk_ireturn rfl (rfl) dX6_addShare_41 (by refine ⟨by simp [cd_addShare, cs_sq, c2, vaa, c7, vab2, c14, c19], ?_, ?_⟩ <;> first | rfl | (simp only [cs_addShare, vaa, vab2]; done) | (simp only [cs_addShare, vaa, vab2]; rfl))
        · exact ⟨cs_thr (by simp [cd_addShare, cs_sq, c2, vaa, c7, vab2, c14, c.1]) c, rfl⟩
      · exact ⟨cs_thr (by simp [cd_addShare, cs_sq, c2, vaa, c7, vab2, c.1]) c, rfl⟩
    · exact ⟨cs_thr (by simp [cd_addShare, cs_sq, c2, vaa, c.1]) c, rfl⟩
  · exact ⟨cs_thr (by simp [cd_addShare, cs_sq, c.1]) c, rfl⟩
theorem ct_X6_holderOf {c nc nb : Nat} {v : Int32} (hfl : l.stackTraces = false) (hA : hs_inj A) (hI : cx_I S c nc nb) : hk_Ctr G l 8 yX6_holderOf cX6_holderOf 2 (some .int) 12 72 [.ref (A 0), .int v] (hs_ov A (S) h) (cx_Q A h (cd_H nb v = 0) (some (.int (S.1 24 (vN v)))) (S)) (cx_X A h (S) ((fun E => ¬ cd_H nb v = 0 ∧ E = cs_ex (cd_H nb v)))) := by
  obtain ⟨h30, hc, h31, hnc, h32, hnb, hb7, hb8, hb17, h13, h15, h24, h26⟩ := hI
  refine hk_enter (by decide) hfl (Nat.le_of_ble_eq_true rfl) rfl ?_
  refine hk_aload_n dX6_holderOf_0 rfl rfl rfl ?_
  refine hk_iload_n dX6_holderOf_1 rfl rfl rfl ?_
  refine cx_callv hA (by decide) rfl rfl rfl dX6_holderOf_2 rfl mv_X6_193 (ct_X6_needBill hfl hA h32 (by omega)) rfl rfl (by decide) (by decide) (Nat.le_of_ble_eq_true rfl) (fun c2 => ?_) (fun E c => ?_)
  · obtain ⟨a, ha, rfl⟩ := cd_H_of (by omega) c2
    have vaa : vN (nI a) = a := vN_nI (by omega)
    refine hk_aload_n dX6_holderOf_5 rfl rfl rfl ?_
    refine cx_getf hA (by decide) rfl dX6_holderOf_6 rfl fl_X6_40 rfl ?_
    refine hk_iload_n dX6_holderOf_9 rfl rfl rfl ?_
    refine cx_calli hA (by decide) rfl rfl rfl dX6_holderOf_10 rfl mv_X6_196 (ct_X0_holder hfl hA (by omega)) rfl rfl (by decide) (by decide) (Nat.le_of_ble_eq_true rfl) (fun c10 => ?_) (fun E c => c.elim)
    exact hk_ireturn rfl (rfl) dX6_holderOf_13 (by refine ⟨by simp [cs_sq, cs_sq, c2, vaa], ?_, ?_⟩ <;> first | rfl | (simp only [vaa]; done) | (simp only [vaa]; rfl))
  · exact ⟨cs_thr (by simp [cs_sq, cs_sq, c.1]) c, rfl⟩
theorem ct_X6_coins {c nc nb : Nat} {v mt : Int32} (hfl : l.stackTraces = false) (hA : hs_inj A) (hI : cx_I S c nc nb) : hk_Ctr G l 8 yX6_coins cX6_coins 3 (some .int) 12 72 [.ref (A 0), .int v, .int mt] (hs_ov A (S) h) (cx_Q A h (cd_HM c v mt = 0) (some (.int (nI (cs_owned S (vN v) (cs_m mt) nc)))) (S)) (cx_X A h (S) ((fun E => ¬ cd_HM c v mt = 0 ∧ E = cs_ex (cd_HM c v mt)))) := by
  obtain ⟨h30, hc, h31, hnc, h32, hnb, hb7, hb8, hb17, h13, h15, h24, h26⟩ := hI
  refine hk_enter (by decide) hfl (Nat.le_of_ble_eq_true rfl) rfl ?_
  refine hk_aload_n dX6_coins_0 rfl rfl rfl ?_
  refine hk_iload_n dX6_coins_1 rfl rfl rfl ?_
  refine cx_callv hA (by decide) rfl rfl rfl dX6_coins_2 rfl mv_X6_71 (ct_X6_needHouse hfl hA h30 (by omega)) rfl rfl (by decide) (by decide) (Nat.le_of_ble_eq_true rfl) (fun c2 => ?_) (fun E c => ?_)
  · obtain ⟨a, ha, rfl⟩ := cd_H_of (by omega) c2
    have vaa : vN (nI a) = a := vN_nI (by omega)
    refine hk_aload_n dX6_coins_5 rfl rfl rfl ?_
    refine cx_getf hA (by decide) rfl dX6_coins_6 rfl fl_X6_26 rfl ?_
    refine hk_iload_n dX6_coins_9 rfl rfl rfl ?_
    refine hk_aload_n dX6_coins_10 rfl rfl rfl ?_
    refine hk_iload_n dX6_coins_11 rfl rfl rfl ?_
    refine cx_calli hA (by decide) rfl rfl rfl dX6_coins_12 rfl mv_X6_83 (ct_X6_metalNumber hfl hA) rfl rfl (by decide) (by decide) (Nat.le_of_ble_eq_true rfl) (fun c12 => ?_) (fun E c => ?_)
    · skip
      refine cx_calli hA (by decide) rfl rfl rfl dX6_coins_15 rfl mv_X6_238 (ct_X2_owned hfl hA h31 (by omega)) rfl rfl (by decide) (by decide) (Nat.le_of_ble_eq_true rfl) (fun c15 => ?_) (fun E c => c.elim)
      exact hk_ireturn rfl (rfl) dX6_coins_18 (by refine ⟨by simp [cd_HM, cs_sq, c2, vaa, c12], ?_, ?_⟩ <;> first | rfl | (simp only [vaa]; done) | (simp only [vaa]; rfl))
    · exact ⟨cs_thr (by simp [cd_HM, cs_sq, c2, vaa, c.1]) c, rfl⟩
  · exact ⟨cs_thr (by simp [cd_HM, cs_sq, c.1]) c, rfl⟩
theorem ct_X6_ore {c nc nb : Nat} {v mt : Int32} (hfl : l.stackTraces = false) (hA : hs_inj A) (hI : cx_I S c nc nb) : hk_Ctr G l 8 yX6_ore cX6_ore 3 (some .int) 12 72 [.ref (A 0), .int v, .int mt] (hs_ov A (S) h) (cx_Q A h (cd_HM c v mt = 0) (some (.int (S.1 12 (vN v * 2 + cs_m mt)))) (S)) (cx_X A h (S) ((fun E => ¬ cd_HM c v mt = 0 ∧ E = cs_ex (cd_HM c v mt)))) := by
  obtain ⟨h30, hc, h31, hnc, h32, hnb, hb7, hb8, hb17, h13, h15, h24, h26⟩ := hI
  refine hk_enter (by decide) hfl (Nat.le_of_ble_eq_true rfl) rfl ?_
  refine hk_aload_n dX6_ore_0 rfl rfl rfl ?_
  refine hk_iload_n dX6_ore_1 rfl rfl rfl ?_
  refine cx_callv hA (by decide) rfl rfl rfl dX6_ore_2 rfl mv_X6_71 (ct_X6_needHouse hfl hA h30 (by omega)) rfl rfl (by decide) (by decide) (Nat.le_of_ble_eq_true rfl) (fun c2 => ?_) (fun E c => ?_)
  · obtain ⟨a, ha, rfl⟩ := cd_H_of (by omega) c2
    have vaa : vN (nI a) = a := vN_nI (by omega)
    refine hk_aload_n dX6_ore_5 rfl rfl rfl ?_
    refine cx_getf hA (by decide) rfl dX6_ore_6 rfl fl_X6_19 rfl ?_
    refine hk_iload_n dX6_ore_9 rfl rfl rfl ?_
    refine hk_aload_n dX6_ore_10 rfl rfl rfl ?_
    refine hk_iload_n dX6_ore_11 rfl rfl rfl ?_
    refine cx_calli hA (by decide) rfl rfl rfl dX6_ore_12 rfl mv_X6_83 (ct_X6_metalNumber hfl hA) rfl rfl (by decide) (by decide) (Nat.le_of_ble_eq_true rfl) (fun c12 => ?_) (fun E c => ?_)
    · have hm := cs_m_lt mt
      refine cx_calli hA (by decide) rfl rfl rfl dX6_ore_15 rfl mv_X6_97 (ct_X4_oreOf hfl hA (by omega) (by omega)) rfl rfl (by decide) (by decide) (Nat.le_of_ble_eq_true rfl) (fun c15 => ?_) (fun E c => c.elim)
      exact hk_ireturn rfl (rfl) dX6_ore_18 (by refine ⟨by simp [cd_HM, cs_sq, c2, vaa, c12], ?_, ?_⟩ <;> first | rfl | (simp only [vaa]; done) | (simp only [vaa]; rfl))
    · exact ⟨cs_thr (by simp [cd_HM, cs_sq, c2, vaa, c.1]) c, rfl⟩
  · exact ⟨cs_thr (by simp [cd_HM, cs_sq, c.1]) c, rfl⟩
theorem ct_X6_weightOf {c nc nb : Nat} {v : Int32} (hfl : l.stackTraces = false) (hA : hs_inj A) (hI : cx_I S c nc nb) : hk_Ctr G l 8 yX6_weightOf cX6_weightOf 2 (some .int) 12 72 [.ref (A 0), .int v] (hs_ov A (S) h) (cx_Q A h (cd_H nc v = 0) (some (.int (S.1 14 (vN v)))) (S)) (cx_X A h (S) ((fun E => ¬ cd_H nc v = 0 ∧ E = cs_ex (cd_H nc v)))) := by
  obtain ⟨h30, hc, h31, hnc, h32, hnb, hb7, hb8, hb17, h13, h15, h24, h26⟩ := hI
  refine hk_enter (by decide) hfl (Nat.le_of_ble_eq_true rfl) rfl ?_
  refine hk_aload_n dX6_weightOf_0 rfl rfl rfl ?_
  refine hk_iload_n dX6_weightOf_1 rfl rfl rfl ?_
  refine cx_callv hA (by decide) rfl rfl rfl dX6_weightOf_2 rfl mv_X6_126 (ct_X6_needCoin hfl hA h31 (by omega)) rfl rfl (by decide) (by decide) (Nat.le_of_ble_eq_true rfl) (fun c2 => ?_) (fun E c => ?_)
  · obtain ⟨a, ha, rfl⟩ := cd_H_of (by omega) c2
    have vaa : vN (nI a) = a := vN_nI (by omega)
    refine hk_aload_n dX6_weightOf_5 rfl rfl rfl ?_
    refine cx_getf hA (by decide) rfl dX6_weightOf_6 rfl fl_X6_26 rfl ?_
    refine hk_iload_n dX6_weightOf_9 rfl rfl rfl ?_
    refine cx_calli hA (by decide) rfl rfl rfl dX6_weightOf_10 rfl mv_X6_132 (ct_X2_weight hfl hA (by omega)) rfl rfl (by decide) (by decide) (Nat.le_of_ble_eq_true rfl) (fun c10 => ?_) (fun E c => c.elim)
    exact hk_ireturn rfl (rfl) dX6_weightOf_13 (by refine ⟨by simp [cs_sq, cs_sq, c2, vaa], ?_, ?_⟩ <;> first | rfl | (simp only [vaa]; done) | (simp only [vaa]; rfl))
  · exact ⟨cs_thr (by simp [cs_sq, cs_sq, c.1]) c, rfl⟩
theorem ct_X6_ownerOf {c nc nb : Nat} {v : Int32} (hfl : l.stackTraces = false) (hA : hs_inj A) (hI : cx_I S c nc nb) : hk_Ctr G l 8 yX6_ownerOf cX6_ownerOf 2 (some .int) 12 72 [.ref (A 0), .int v] (hs_ov A (S) h) (cx_Q A h (cd_H nc v = 0) (some (.int (S.1 15 (vN v)))) (S)) (cx_X A h (S) ((fun E => ¬ cd_H nc v = 0 ∧ E = cs_ex (cd_H nc v)))) := by
  obtain ⟨h30, hc, h31, hnc, h32, hnb, hb7, hb8, hb17, h13, h15, h24, h26⟩ := hI
  refine hk_enter (by decide) hfl (Nat.le_of_ble_eq_true rfl) rfl ?_
  refine hk_aload_n dX6_ownerOf_0 rfl rfl rfl ?_
  refine hk_iload_n dX6_ownerOf_1 rfl rfl rfl ?_
  refine cx_callv hA (by decide) rfl rfl rfl dX6_ownerOf_2 rfl mv_X6_126 (ct_X6_needCoin hfl hA h31 (by omega)) rfl rfl (by decide) (by decide) (Nat.le_of_ble_eq_true rfl) (fun c2 => ?_) (fun E c => ?_)
  · obtain ⟨a, ha, rfl⟩ := cd_H_of (by omega) c2
    have vaa : vN (nI a) = a := vN_nI (by omega)
    refine hk_aload_n dX6_ownerOf_5 rfl rfl rfl ?_
    refine cx_getf hA (by decide) rfl dX6_ownerOf_6 rfl fl_X6_26 rfl ?_
    refine hk_iload_n dX6_ownerOf_9 rfl rfl rfl ?_
    refine cx_calli hA (by decide) rfl rfl rfl dX6_ownerOf_10 rfl mv_X6_140 (ct_X2_owner hfl hA (by omega)) rfl rfl (by decide) (by decide) (Nat.le_of_ble_eq_true rfl) (fun c10 => ?_) (fun E c => c.elim)
    exact hk_ireturn rfl (rfl) dX6_ownerOf_13 (by refine ⟨by simp [cs_sq, cs_sq, c2, vaa], ?_, ?_⟩ <;> first | rfl | (simp only [vaa]; done) | (simp only [vaa]; rfl))
  · exact ⟨cs_thr (by simp [cs_sq, cs_sq, c.1]) c, rfl⟩
theorem ct_X6_owners {c nc nb : Nat} {v : Int32} (hfl : l.stackTraces = false) (hA : hs_inj A) (hI : cx_I S c nc nb) : hk_Ctr G l 8 yX6_owners cX6_owners 2 (some .int) 12 72 [.ref (A 0), .int v] (hs_ov A (S) h) (cx_Q A h (cd_H nc v = 0) (some (.int (S.1 16 (vN v)))) (S)) (cx_X A h (S) ((fun E => ¬ cd_H nc v = 0 ∧ E = cs_ex (cd_H nc v)))) := by
  obtain ⟨h30, hc, h31, hnc, h32, hnb, hb7, hb8, hb17, h13, h15, h24, h26⟩ := hI
  refine hk_enter (by decide) hfl (Nat.le_of_ble_eq_true rfl) rfl ?_
  refine hk_aload_n dX6_owners_0 rfl rfl rfl ?_
  refine hk_iload_n dX6_owners_1 rfl rfl rfl ?_
  refine cx_callv hA (by decide) rfl rfl rfl dX6_owners_2 rfl mv_X6_126 (ct_X6_needCoin hfl hA h31 (by omega)) rfl rfl (by decide) (by decide) (Nat.le_of_ble_eq_true rfl) (fun c2 => ?_) (fun E c => ?_)
  · obtain ⟨a, ha, rfl⟩ := cd_H_of (by omega) c2
    have vaa : vN (nI a) = a := vN_nI (by omega)
    refine hk_aload_n dX6_owners_5 rfl rfl rfl ?_
    refine cx_getf hA (by decide) rfl dX6_owners_6 rfl fl_X6_26 rfl ?_
    refine hk_iload_n dX6_owners_9 rfl rfl rfl ?_
    refine cx_calli hA (by decide) rfl rfl rfl dX6_owners_10 rfl mv_X6_241 (ct_X2_ownerCount hfl hA (by omega)) rfl rfl (by decide) (by decide) (Nat.le_of_ble_eq_true rfl) (fun c10 => ?_) (fun E c => c.elim)
    exact hk_ireturn rfl (rfl) dX6_owners_13 (by refine ⟨by simp [cs_sq, cs_sq, c2, vaa], ?_, ?_⟩ <;> first | rfl | (simp only [vaa]; done) | (simp only [vaa]; rfl))
  · exact ⟨cs_thr (by simp [cs_sq, cs_sq, c.1]) c, rfl⟩
theorem ct_X6_endorse {c nc nb : Nat} {v t : Int32} (hfl : l.stackTraces = false) (hA : hs_inj A) (hI : cx_I S c nc nb) : hk_Ctr G l 8 yX6_endorse cX6_endorse 4 (some .int) 12 72 [.ref (A 0), .int v, .int t] (hs_ov A (S) h) (cx_Q A h (cd_endorse S c nb v t = 0) (some (.int (S.1 24 (vN v)))) (cs_endorse S v t)) (cx_X A h (S) ((fun E => ¬ cd_endorse S c nb v t = 0 ∧ E = cs_ex (cd_endorse S c nb v t)))) := by
  obtain ⟨h30, hc, h31, hnc, h32, hnb, hb7, hb8, hb17, h13, h15, h24, h26⟩ := hI
  refine hk_enter (by decide) hfl (Nat.le_of_ble_eq_true rfl) rfl ?_
  refine hk_aload_n dX6_endorse_0 rfl rfl rfl ?_
  refine hk_iload_n dX6_endorse_1 rfl rfl rfl ?_
  refine cx_callv hA (by decide) rfl rfl rfl dX6_endorse_2 rfl mv_X6_193 (ct_X6_needBill hfl hA h32 (by omega)) rfl rfl (by decide) (by decide) (Nat.le_of_ble_eq_true rfl) (fun c2 => ?_) (fun E c => ?_)
  · obtain ⟨a, ha, rfl⟩ := cd_H_of (by omega) c2
    have vaa : vN (nI a) = a := vN_nI (by omega)
    refine hk_aload_n dX6_endorse_5 rfl rfl rfl ?_
    refine hk_iload_n dX6_endorse_6 rfl rfl rfl ?_
    refine cx_callv hA (by decide) rfl rfl rfl dX6_endorse_7 rfl mv_X6_71 (ct_X6_needHouse hfl hA h30 (by omega)) rfl rfl (by decide) (by decide) (Nat.le_of_ble_eq_true rfl) (fun c7 => ?_) (fun E c => ?_)
    · obtain ⟨b2, hb2, rfl⟩ := cd_H_of (by omega) c7
      have vab2 : vN (nI b2) = b2 := vN_nI (by omega)
      refine hk_aload_n dX6_endorse_10 rfl rfl rfl ?_
      refine cx_getf hA (by decide) rfl dX6_endorse_11 rfl fl_X6_40 rfl ?_
      refine hk_iload_n dX6_endorse_14 rfl rfl rfl ?_
      refine cx_calli hA (by decide) rfl rfl rfl dX6_endorse_15 rfl mv_X6_196 (ct_X0_holder hfl hA (by omega)) rfl rfl (by decide) (by decide) (Nat.le_of_ble_eq_true rfl) (fun c15 => ?_) (fun E c => c.elim)
      refine hk_istore_n dX6_endorse_18 rfl rfl (by decide) rfl ?_
      refine hk_aload_n dX6_endorse_19 rfl rfl rfl ?_
      refine hk_iload_n dX6_endorse_20 rfl rfl rfl ?_
      refine hk_iload_n dX6_endorse_21 rfl rfl rfl ?_
      refine cx_callv hA (by decide) rfl rfl rfl dX6_endorse_22 rfl mv_X6_159 (ct_X6_needDifferent hfl hA) rfl rfl (by decide) (by decide) (Nat.le_of_ble_eq_true rfl) (fun c22 => ?_) (fun E c => ?_)
      · skip
        refine hk_iload_n dX6_endorse_25 rfl rfl rfl ?_
        refine hk_iconst (v := -1) dX6_endorse_26 rfl (by decide) ?_
        refine hk_icmp_ne (tgt := 40) dX6_endorse_27 (by decide) rfl (fun z27 => ?_) (fun z27 => ?_)
        · skip
          rcases h24 a (by omega) with h9 | ⟨g, hg, h9⟩
          · exact absurd h9 z27
          have vag : vN (S.1 24 a) = g := by rw [h9]; exact vN_nI (by omega)
          obtain ⟨e, he5, he, hl⟩ := h26 a (by omega)
          have vae : vN (S.1 26 a) = e := by rw [he]; exact vN_nI (by omega)
          have vz : vN (S.1 24 a) = g := vag
          refine hk_aload_n dX6_endorse_40 rfl rfl rfl ?_
          refine hk_iload_n dX6_endorse_41 rfl rfl rfl ?_
          refine cx_top h9 ?_
          refine cx_callv hA (by decide) rfl rfl rfl dX6_endorse_42 rfl mv_X6_90 (ct_X6_needOpen hfl hA (by omega) hb8) rfl rfl (by decide) (by decide) (Nat.le_of_ble_eq_true rfl) (fun c42 => ?_) (fun E c => ?_)
          · skip
            refine hk_aload_n dX6_endorse_45 rfl rfl rfl ?_
            refine hk_iload_n dX6_endorse_46 rfl rfl rfl ?_
            refine cx_callv hA (by decide) rfl rfl rfl dX6_endorse_47 rfl mv_X6_90 (ct_X6_needOpen hfl hA (by omega) hb8) rfl rfl (by decide) (by decide) (Nat.le_of_ble_eq_true rfl) (fun c47 => ?_) (fun E c => ?_)
            · skip
              refine hk_aload_n dX6_endorse_50 rfl rfl rfl ?_
              refine cx_getf hA (by decide) rfl dX6_endorse_51 rfl fl_X6_40 rfl ?_
              refine hk_iload_n dX6_endorse_54 rfl rfl rfl ?_
              refine cx_calli hA (by decide) rfl rfl rfl dX6_endorse_55 rfl mv_X6_201 (ct_X0_endorsements hfl hA (by omega)) rfl rfl (by decide) (by decide) (Nat.le_of_ble_eq_true rfl) (fun c55 => ?_) (fun E c => c.elim)
              refine cx_top he ?_
              refine hk_iconst (v := nI 5) dX6_endorse_58 rfl (by decide) ?_
              refine cx_icmp_lt (tgt := 72) (by omega) (by omega) dX6_endorse_59 (by decide) rfl (fun z59 => ?_) (fun z59 => ?_)
              · skip
                refine hk_aload_n dX6_endorse_72 rfl rfl rfl ?_
                refine cx_getf hA (by decide) rfl dX6_endorse_73 rfl fl_X6_40 rfl ?_
                refine hk_iload_n dX6_endorse_76 rfl rfl rfl ?_
                refine hk_iload_n dX6_endorse_77 rfl rfl rfl ?_
                refine cx_callv hA (by decide) rfl rfl rfl dX6_endorse_78 rfl mv_X6_206 (ct_X0_passOn hfl hA (by omega) he (by omega)) rfl rfl (by decide) (by decide) (Nat.le_of_ble_eq_true rfl) (fun c78 => ?_) (fun E c => c.elim)
                refine hk_iload_n dX6_endorse_81 rfl rfl rfl ?_
                exact hk_ireturn rfl (rfl) dX6_endorse_82 (by refine ⟨by simp [cd_endorse, cd_dn, cd_n, cs_sq, c2, vaa, c7, vab2, c22, z27, vag, vae, c42, c47, z59], ?_, ?_⟩ <;> first | rfl | (simp only [cs_endorse, vaa, vab2, vag, vae]; done) | (simp only [cs_endorse, vaa, vab2, vag, vae]; rfl))
              · skip
                exact hk_throw rfl rfl th_111 (List.mem_of_getElem? (i := 18) rfl) dX6_endorse_62 dX6_endorse_65 dX6_endorse_66 dX6_endorse_68 dX6_endorse_71 (by decide) (by decide) (Nat.le_of_ble_eq_true rfl) (⟨cs_thr (k := 4) (by simp [cd_endorse, cd_dn, cd_n, cs_sq, c2, vaa, c7, vab2, c22, z27, vag, vae, c42, c47, z59]) ⟨by decide, rfl⟩, rfl⟩)
            · exact ⟨cs_thr (by simp [cd_endorse, cd_dn, cd_n, cs_sq, c2, vaa, c7, vab2, c22, z27, vag, vae, c42, c.1]) c, rfl⟩
          · exact ⟨cs_thr (by simp [cd_endorse, cd_dn, cd_n, cs_sq, c2, vaa, c7, vab2, c22, z27, vag, vae, c.1]) c, rfl⟩
        · rw [z27] at c22
          exact hk_throw rfl rfl th_66 (List.mem_of_getElem? (i := 17) rfl) dX6_endorse_30 dX6_endorse_33 dX6_endorse_34 dX6_endorse_36 dX6_endorse_39 (by decide) (by decide) (Nat.le_of_ble_eq_true rfl) (⟨cs_thr (k := 3) (by simp [cd_endorse, cd_dn, cd_n, cs_sq, c2, vaa, c7, vab2, c22, z27]) ⟨by decide, rfl⟩, rfl⟩)
      · exact ⟨cs_thr (by simp [cd_endorse, cd_dn, cd_n, cs_sq, c2, vaa, c7, vab2, c.1]) c, rfl⟩
    · exact ⟨cs_thr (by simp [cd_endorse, cd_dn, cd_n, cs_sq, c2, vaa, c.1]) c, rfl⟩
  · exact ⟨cs_thr (by simp [cd_endorse, cd_dn, cd_n, cs_sq, c.1]) c, rfl⟩
theorem ct_X6_throwOver {c nc nb : Nat} {g v q : Int32} (hfl : l.stackTraces = false) (hA : hs_inj A) (hI : cx_I S c nc nb) (hz : cd_throwOver S c g v q = 0 → ¬ cs_va S (vN g) 6 = 0 ∧ ∃ L, L ≤ 6 ∧ (cs_p1 (vN g) q (cs_va S (vN g) 6) S 6).2 = nI L) : hk_Ctr G l 8 yX6_throwOver cX6_throwOver 5 (some .int) 16 96 [.ref (A 0), .int g, .int v, .int q] (hs_ov A (S) h) (cx_Q A h (cd_throwOver S c g v q = 0) (some (.int ((cs_throwOver S g v q).1 28 (vN v)))) (cs_throwOver S g v q)) (cx_X A h (S) ((fun E => ¬ cd_throwOver S c g v q = 0 ∧ E = cs_ex (cd_throwOver S c g v q)))) := by
  obtain ⟨h30, hc, h31, hnc, h32, hnb, hb7, hb8, hb17, h13, h15, h24, h26⟩ := hI
  refine hk_enter (by decide) hfl (Nat.le_of_ble_eq_true rfl) rfl ?_
  refine hk_aload_n dX6_throwOver_0 rfl rfl rfl ?_
  refine hk_iload_n dX6_throwOver_1 rfl rfl rfl ?_
  refine cx_callv hA (by decide) rfl rfl rfl dX6_throwOver_2 rfl mv_X6_218 (ct_X6_needVoyage hfl hA) rfl rfl (by decide) (by decide) (Nat.le_of_ble_eq_true rfl) (fun c2 => ?_) (fun E c => ?_)
  · obtain ⟨a, ha, rfl⟩ := cd_H_of (by omega) c2
    have vaa : vN (nI a) = a := vN_nI (by omega)
    refine hk_aload_n dX6_throwOver_5 rfl rfl rfl ?_
    refine hk_iload_n dX6_throwOver_6 rfl rfl rfl ?_
    refine cx_callv hA (by decide) rfl rfl rfl dX6_throwOver_7 rfl mv_X6_71 (ct_X6_needHouse hfl hA h30 (by omega)) rfl rfl (by decide) (by decide) (Nat.le_of_ble_eq_true rfl) (fun c7 => ?_) (fun E c => ?_)
    · obtain ⟨b2, hb2, rfl⟩ := cd_H_of (by omega) c7
      have vab2 : vN (nI b2) = b2 := vN_nI (by omega)
      refine hk_aload_n dX6_throwOver_10 rfl rfl rfl ?_
      refine hk_iload_n dX6_throwOver_11 rfl rfl rfl ?_
      refine hk_bipush (v := nI 99) dX6_throwOver_12 rfl (by decide) ?_
      refine cx_callv hA (by decide) rfl rfl rfl dX6_throwOver_14 rfl mv_X6_86 (ct_X6_needRange hfl hA) rfl rfl (by decide) (by decide) (Nat.le_of_ble_eq_true rfl) (fun c14 => ?_) (fun E c => ?_)
      · skip
        refine hk_aload_n dX6_throwOver_17 rfl rfl rfl ?_
        refine hk_iload_n dX6_throwOver_18 rfl rfl rfl ?_
        refine cx_callv hA (by decide) rfl rfl rfl dX6_throwOver_19 rfl mv_X6_90 (ct_X6_needOpen hfl hA (by omega) hb8) rfl rfl (by decide) (by decide) (Nat.le_of_ble_eq_true rfl) (fun c19 => ?_) (fun E c => ?_)
        · skip
          refine hk_aload_n dX6_throwOver_22 rfl rfl rfl ?_
          refine hk_iload_n dX6_throwOver_23 rfl rfl rfl ?_
          refine cx_callv hA (by decide) rfl rfl rfl dX6_throwOver_24 rfl mv_X6_227 (ct_X6_needOpenSharers hfl hA h30 (by omega) (by omega) hb8) rfl rfl (by decide) (by decide) (Nat.le_of_ble_eq_true rfl) (fun c24 => ?_) (fun E c => ?_)
          · skip
            refine hk_aload_n dX6_throwOver_27 rfl rfl rfl ?_
            refine cx_getf hA (by decide) rfl dX6_throwOver_28 rfl fl_X6_47 rfl ?_
            refine hk_iload_n dX6_throwOver_31 rfl rfl rfl ?_
            refine hk_iload_n dX6_throwOver_32 rfl rfl rfl ?_
            refine cx_calli hA (by decide) rfl rfl rfl dX6_throwOver_33 rfl mv_X6_224 (ct_X5_value hfl hA (by omega) (by omega)) rfl rfl (by decide) (by decide) (Nat.le_of_ble_eq_true rfl) (fun c33 => ?_) (fun E c => c.elim)
            refine hk_if_ne (tgt := 49) dX6_throwOver_36 (by decide) rfl (fun z36 => ?_) (fun z36 => ?_)
            · skip
              have hcd : cd_throwOver S c (nI a) (nI b2) q = 0 := by simp [cd_throwOver, cd_sh, cs_sq, vaa, vab2, c2, c7, c14, c19, c24, z36]
              obtain ⟨hz1, L, hL6, hL⟩ := hz hcd
              rw [vaa] at hz1 hL
              refine hk_aload_n dX6_throwOver_49 rfl rfl rfl ?_
              refine cx_getf hA (by decide) rfl dX6_throwOver_50 rfl fl_X6_47 rfl ?_
              refine hk_iload_n dX6_throwOver_53 rfl rfl rfl ?_
              refine hk_iload_n dX6_throwOver_54 rfl rfl rfl ?_
              refine cx_callv hA (by decide) rfl rfl rfl dX6_throwOver_55 rfl mv_X6_232 (ct_X5_part hfl hA (by omega) hz1 hL hL6) rfl rfl (by decide) (by decide) (Nat.le_of_ble_eq_true rfl) (fun c55 => ?_) (fun E c => c.elim)
              refine hk_iconst (v := nI 0) dX6_throwOver_58 rfl (by decide) ?_
              refine hk_istore dX6_throwOver_59 rfl (by decide) rfl ?_
              have lp61 : ∀ f j : Nat, j ≤ 6 → 6 - j < f → hk_W G l 8 yX6_throwOver cX6_throwOver 5 (some .int) [] (cx_Q A h (cd_throwOver S c (nI a) (nI b2) q = 0) (some (.int ((cs_throwOver S (nI a) (nI b2) q).1 28 (vN (nI b2))))) (cs_throwOver S (nI a) (nI b2) q)) (cx_X A h (S) ((fun E => ¬ cd_throwOver S c (nI a) (nI b2) q = 0 ∧ E = cs_ex (cd_throwOver S c (nI a) (nI b2) q)))) 4 24 (hs_ov A (cs_tv b2 (cs_tp S a q) j) h) 61 [some (.ref (A 0)), some (.int (nI a)), some (.int (nI b2)), some (.int q), some (.int (nI j))] [] := by
                intro f
                induction f with
                | zero => intro j hj hf; exact absurd hf (by omega)
                | succ f ih =>
                  intro j hj hf
                  refine hk_iload dX6_throwOver_61 rfl rfl ?_
                  refine hk_bipush (v := nI 6) dX6_throwOver_63 rfl (by decide) ?_
                  refine cx_icmp_ge (tgt := 99) (by omega) (by omega) dX6_throwOver_65 (by decide) rfl (fun z65 => ?_) (fun z65 => ?_)
                  · skip
                    have e6 : j = 6 := by omega
                    subst e6
                    refine hk_aload_n dX6_throwOver_99 rfl rfl rfl ?_
                    refine cx_getf hA (by decide) rfl dX6_throwOver_100 rfl fl_X6_47 rfl ?_
                    refine hk_iload_n dX6_throwOver_103 rfl rfl rfl ?_
                    refine cx_calli hA (by decide) rfl rfl rfl dX6_throwOver_104 rfl mv_X6_235 (ct_X5_borne hfl hA (by omega)) rfl rfl (by decide) (by decide) (Nat.le_of_ble_eq_true rfl) (fun c104 => ?_) (fun E c => c.elim)
                    exact hk_ireturn rfl (rfl) dX6_throwOver_107 (⟨hcd, by rw [vab2]; simp only [cs_throwOver, vaa, vab2], by simp only [cs_throwOver, vaa, vab2]⟩)
                  · skip
                    refine hk_iload dX6_throwOver_68 rfl rfl ?_
                    refine hk_iload_n dX6_throwOver_70 rfl rfl rfl ?_
                    refine cx_icmp_eq (tgt := 93) (by omega) (by omega) dX6_throwOver_71 (by decide) rfl (fun z71 => ?_) (fun z71 => ?_)
                    · skip
                      refine hk_iinc dX6_throwOver_93 rfl rfl (nI_1 _) (by decide) rfl ?_
                      refine hk_goto (tgt := 61) dX6_throwOver_96 (by decide) ?_
                      exact cx_cg (by first | (rw [cs_tv_s, cs_tvs, if_pos z71]; done) | (rw [cs_tv_s, cs_tvs, if_neg z71]; done)) rfl (ih (j + 1) (by omega) (by omega))
                    · skip
                      refine hk_aload_n dX6_throwOver_74 rfl rfl rfl ?_
                      refine cx_getf hA (by decide) rfl dX6_throwOver_75 rfl fl_X6_33 rfl ?_
                      refine hk_iload_n dX6_throwOver_78 rfl rfl rfl ?_
                      refine hk_iload dX6_throwOver_79 rfl rfl ?_
                      refine hk_aload_n dX6_throwOver_81 rfl rfl rfl ?_
                      refine cx_getf hA (by decide) rfl dX6_throwOver_82 rfl fl_X6_47 rfl ?_
                      refine hk_iload dX6_throwOver_85 rfl rfl ?_
                      refine cx_calli hA (by decide) rfl rfl rfl dX6_throwOver_87 rfl mv_X6_235 (ct_X5_borne hfl hA (by omega)) rfl rfl (by decide) (by decide) (Nat.le_of_ble_eq_true rfl) (fun c87 => ?_) (fun E c => c.elim)
                      refine cx_callv hA (by decide) rfl rfl rfl dX6_throwOver_90 rfl mv_X6_172 (ct_X1_add hfl hA (by omega) (by omega)) rfl rfl (by decide) (by decide) (Nat.le_of_ble_eq_true rfl) (fun c90 => ?_) (fun E c => c.elim)
                      refine hk_iinc dX6_throwOver_93 rfl rfl (nI_1 _) (by decide) rfl ?_
                      refine hk_goto (tgt := 61) dX6_throwOver_96 (by decide) ?_
                      exact cx_cg (by first | (rw [cs_tv_s, cs_tvs, if_pos z71]; done) | (rw [cs_tv_s, cs_tvs, if_neg z71]; done)) rfl (ih (j + 1) (by omega) (by omega))
              exact hk_bud (k' := 4) (n' := 24) (by decide) (by decide) (cx_cg (by show hs_ov A (cs_p2 _ L) h = hs_ov A (cs_tp S a q) h; unfold cs_tp; rw [hL, vN_nI (by omega)]) rfl (lp61 (6 + 1) 0 (by omega) (by omega)))
            · skip
              exact hk_throw rfl rfl th_111 (List.mem_of_getElem? (i := 20) rfl) dX6_throwOver_39 dX6_throwOver_42 dX6_throwOver_43 dX6_throwOver_45 dX6_throwOver_48 (by decide) (by decide) (Nat.le_of_ble_eq_true rfl) (⟨cs_thr (k := 4) (by simp [cd_throwOver, cd_sh, cs_sq, c2, vaa, c7, vab2, c14, c19, c24, z36]) ⟨by decide, rfl⟩, rfl⟩)
          · exact ⟨cs_thr (by simp [cd_throwOver, cd_sh, cs_sq, c2, vaa, c7, vab2, c14, c19, c.1]) c, rfl⟩
        · exact ⟨cs_thr (by simp [cd_throwOver, cd_sh, cs_sq, c2, vaa, c7, vab2, c14, c.1]) c, rfl⟩
      · exact ⟨cs_thr (by simp [cd_throwOver, cd_sh, cs_sq, c2, vaa, c7, vab2, c.1]) c, rfl⟩
    · exact ⟨cs_thr (by simp [cd_throwOver, cd_sh, cs_sq, c2, vaa, c.1]) c, rfl⟩
  · exact ⟨cs_thr (by simp [cd_throwOver, cd_sh, cs_sq, c.1]) c, rfl⟩
theorem ct_X6_wealth {c nc nb : Nat} {v : Int32} (hfl : l.stackTraces = false) (hA : hs_inj A) (hI : cx_I S c nc nb) : hk_Ctr G l 8 yX6_wealth cX6_wealth 5 (some .long) 2 12 [.ref (A 0), .int v] (hs_ov A (S) h) (cx_Q A h (cd_H c v = 0) (some (.long (cs_wf S (vN v) nc 2 + cs_sof S (vN v) 6 - cs_son S (vN v) 6))) (S)) (cx_X A h (S) ((fun E => ¬ cd_H c v = 0 ∧ E = cs_ex (cd_H c v)))) := by
  obtain ⟨h30, hc, h31, hnc, h32, hnb, hb7, hb8, hb17, h13, h15, h24, h26⟩ := hI
  refine hk_enter (by decide) hfl (Nat.le_of_ble_eq_true rfl) rfl ?_
  refine hk_aload_n dX6_wealth_0 rfl rfl rfl ?_
  refine hk_iload_n dX6_wealth_1 rfl rfl rfl ?_
  refine cx_callv hA (by decide) rfl rfl rfl dX6_wealth_2 rfl mv_X6_71 (ct_X6_needHouse hfl hA h30 (by omega)) rfl rfl (by decide) (by decide) (Nat.le_of_ble_eq_true rfl) (fun c2 => ?_) (fun E c => ?_)
  · obtain ⟨a, ha, rfl⟩ := cd_H_of (by omega) c2
    have vaa : vN (nI a) = a := vN_nI (by omega)
    refine hk_lconst (v := 0) dX6_wealth_5 rfl (by decide) ?_
    refine hk_lstore_n dX6_wealth_6 rfl rfl (by decide) rfl ?_
    refine hk_iconst (v := nI 0) dX6_wealth_7 rfl (by decide) ?_
    refine hk_istore dX6_wealth_8 rfl (by decide) rfl ?_
    have lp10 : ∀ f j : Nat, j ≤ 2 → 2 - j < f → hk_W G l 8 yX6_wealth cX6_wealth 5 (some .long) [] (cx_Q A h (cd_H c (nI a) = 0) (some (.long (cs_wf S (vN (nI a)) nc 2 + cs_sof S (vN (nI a)) 6 - cs_son S (vN (nI a)) 6))) (S)) (cx_X A h (S) ((fun E => ¬ cd_H c (nI a) = 0 ∧ E = cs_ex (cd_H c (nI a))))) 1 6 (hs_ov A S h) 10 [some (.ref (A 0)), some (.int (nI a)), some (.long (cs_wf S a nc j)), none, some (.int (nI j))] [] := by
      intro f
      induction f with
      | zero => intro j hj hf; exact absurd hf (by omega)
      | succ f ih =>
        intro j hj hf
        refine hk_iload dX6_wealth_10 rfl rfl ?_
        refine hk_iconst (v := nI 2) dX6_wealth_12 rfl (by decide) ?_
        refine cx_icmp_ge (tgt := 47) (by omega) (by omega) dX6_wealth_13 (by decide) rfl (fun z13 => ?_) (fun z13 => ?_)
        · skip
          refine hk_lload_n dX6_wealth_47 rfl rfl rfl ?_
          refine hk_aload_n dX6_wealth_48 rfl rfl rfl ?_
          refine cx_getf hA (by decide) rfl dX6_wealth_49 rfl fl_X6_33 rfl ?_
          refine hk_iload_n dX6_wealth_52 rfl rfl rfl ?_
          refine cx_calll hA (by decide) rfl rfl rfl dX6_wealth_53 rfl mv_X6_244 (ct_X1_sumOf hfl hA (by omega)) rfl rfl (by decide) (by decide) (Nat.le_of_ble_eq_true rfl) (fun c53 => ?_) (fun E c => c.elim)
          refine hk_ladd dX6_wealth_56 rfl ?_
          refine hk_aload_n dX6_wealth_57 rfl rfl rfl ?_
          refine cx_getf hA (by decide) rfl dX6_wealth_58 rfl fl_X6_33 rfl ?_
          refine hk_iload_n dX6_wealth_61 rfl rfl rfl ?_
          refine cx_calll hA (by decide) rfl rfl rfl dX6_wealth_62 rfl mv_X6_248 (ct_X1_sumOn hfl hA (by omega)) rfl rfl (by decide) (by decide) (Nat.le_of_ble_eq_true rfl) (fun c62 => ?_) (fun E c => c.elim)
          refine hk_lsub dX6_wealth_65 rfl ?_
          exact hk_lreturn rfl dX6_wealth_66 (by have e2 : j = 2 := (by omega); subst e2; exact ⟨c2, by rw [vaa], rfl⟩)
        · skip
          refine hk_lload_n dX6_wealth_16 rfl rfl rfl ?_
          refine hk_aload_n dX6_wealth_17 rfl rfl rfl ?_
          refine cx_getf hA (by decide) rfl dX6_wealth_18 rfl fl_X6_26 rfl ?_
          refine hk_iload_n dX6_wealth_21 rfl rfl rfl ?_
          refine hk_iload dX6_wealth_22 rfl rfl ?_
          refine cx_calli hA (by decide) rfl rfl rfl dX6_wealth_24 rfl mv_X6_238 (ct_X2_owned hfl hA h31 (by omega)) rfl rfl (by decide) (by decide) (Nat.le_of_ble_eq_true rfl) (fun c24 => ?_) (fun E c => c.elim)
          refine hk_i2l dX6_wealth_27 rfl ?_
          refine hk_aload_n dX6_wealth_28 rfl rfl rfl ?_
          refine cx_getf hA (by decide) rfl dX6_wealth_29 rfl fl_X6_19 rfl ?_
          refine hk_iload dX6_wealth_32 rfl rfl ?_
          refine cx_calli hA (by decide) rfl rfl rfl dX6_wealth_34 rfl mv_X6_101 (ct_X4_face hfl hA (by omega)) rfl rfl (by decide) (by decide) (Nat.le_of_ble_eq_true rfl) (fun c34 => ?_) (fun E c => c.elim)
          refine hk_i2l dX6_wealth_37 rfl ?_
          refine hk_lmul dX6_wealth_38 rfl ?_
          refine hk_ladd dX6_wealth_39 rfl ?_
          refine hk_lstore_n dX6_wealth_40 rfl rfl (by decide) rfl ?_
          refine hk_iinc dX6_wealth_41 rfl rfl (nI_1 _) (by decide) rfl ?_
          refine hk_goto (tgt := 10) dX6_wealth_44 (by decide) ?_
          exact cx_cg rfl rfl (ih (j + 1) (by omega) (by omega))
    exact lp10 (2 + 1) 0 (by omega) (by omega)
  · exact ⟨cs_thr (by simp [cs_sq, cs_sq, c.1]) c, rfl⟩
theorem ct_X6_lost  (hfl : l.stackTraces = false) (hA : hs_inj A) : hk_Ctr G l 1 yX6_lost cX6_lost 1 (some .long) 0 0 [.ref (A 0)] (hs_ov A (S) h) (cx_Q A h (True) (some (.long S.2)) (S)) (cx_X A h (S) ((fun _ => False))) := by
  refine hk_enter (by decide) hfl (Nat.le_of_ble_eq_true rfl) rfl ?_
  refine hk_aload_n dX6_lost_0 rfl rfl rfl ?_
  refine cx_getf hA (by decide) rfl dX6_lost_1 rfl fl_X6_251 rfl ?_
  exact hk_lreturn rfl dX6_lost_4 (⟨trivial, rfl, rfl⟩)
theorem ct_X6_lightShare {c nc nb : Nat} (hfl : l.stackTraces = false) (hA : hs_inj A) (hI : cx_I S c nc nb) (hn : ¬ cs_unm S nc = 0 → vf_n32 (FP.fdiv (FP.i2f (nI (cs_lsh S nc 2))) (FP.i2f (nI (cs_unm S nc))))) : hk_Ctr G l 8 yX6_lightShare cX6_lightShare 4 (some .float) 2 12 [.ref (A 0)] (hs_ov A (S) h) (cx_Q A h (cd_U S nc = 0) (some (.float (FP.fdiv (FP.i2f (nI (cs_lsh S nc 2))) (FP.i2f (nI (cs_unm S nc)))))) (S)) (cx_X A h (S) ((fun E => ¬ cd_U S nc = 0 ∧ E = cs_ex (cd_U S nc)))) := by
  obtain ⟨h30, hc, h31, hnc, h32, hnb, hb7, hb8, hb17, h13, h15, h24, h26⟩ := hI
  refine hk_enter (by decide) hfl (Nat.le_of_ble_eq_true rfl) rfl ?_
  refine hk_aload_n dX6_lightShare_0 rfl rfl rfl ?_
  refine cx_calli hA (by decide) rfl rfl rfl dX6_lightShare_1 rfl mv_X6_255 (ct_X6_needCoins hfl hA h31 (by omega)) rfl rfl (by decide) (by decide) (Nat.le_of_ble_eq_true rfl) (fun c1 => ?_) (fun E c => ?_)
  · skip
    refine hk_istore_n dX6_lightShare_4 rfl rfl (by decide) rfl ?_
    refine hk_iconst (v := nI 0) dX6_lightShare_5 rfl (by decide) ?_
    refine hk_istore_n dX6_lightShare_6 rfl rfl (by decide) rfl ?_
    refine hk_iconst (v := nI 0) dX6_lightShare_7 rfl (by decide) ?_
    refine hk_istore_n dX6_lightShare_8 rfl rfl (by decide) rfl ?_
    have lp9 : ∀ f j : Nat, j ≤ 2 → 2 - j < f → hk_W G l 8 yX6_lightShare cX6_lightShare 4 (some .float) [] (cx_Q A h (cd_U S nc = 0) (some (.float (FP.fdiv (FP.i2f (nI (cs_lsh S nc 2))) (FP.i2f (nI (cs_unm S nc)))))) (S)) (cx_X A h (S) ((fun E => ¬ cd_U S nc = 0 ∧ E = cs_ex (cd_U S nc)))) 1 6 (hs_ov A S h) 9 [some (.ref (A 0)), some (.int (nI (cs_unm S nc))), some (.int (nI (cs_lsh S nc j))), some (.int (nI j))] [] := by
      intro f
      induction f with
      | zero => intro j hj hf; exact absurd hf (by omega)
      | succ f ih =>
        intro j hj hf
        refine hk_iload_n dX6_lightShare_9 rfl rfl rfl ?_
        refine hk_iconst (v := nI 2) dX6_lightShare_10 rfl (by decide) ?_
        refine cx_icmp_ge (tgt := 39) (by omega) (by omega) dX6_lightShare_11 (by decide) rfl (fun z11 => ?_) (fun z11 => ?_)
        · skip
          have e2 : j = 2 := by omega
          subst e2
          have hu : ¬ cs_unm S nc = 0 := fun q => absurd (show cd_U S nc = 5 from if_pos q) (by rw [c1]; decide)
          refine hk_iload_n dX6_lightShare_39 rfl rfl rfl ?_
          refine hk_i2f dX6_lightShare_40 rfl ?_
          refine hk_iload_n dX6_lightShare_41 rfl rfl rfl ?_
          refine hk_i2f dX6_lightShare_42 rfl ?_
          refine hk_fdiv dX6_lightShare_43 rfl (hn hu) ?_
          exact hk_freturn rfl dX6_lightShare_44 (⟨c1, rfl, rfl⟩)
        · skip
          refine hk_iload_n dX6_lightShare_14 rfl rfl rfl ?_
          refine hk_aload_n dX6_lightShare_15 rfl rfl rfl ?_
          refine cx_getf hA (by decide) rfl dX6_lightShare_16 rfl fl_X6_26 rfl ?_
          refine hk_iload_n dX6_lightShare_19 rfl rfl rfl ?_
          refine hk_aload_n dX6_lightShare_20 rfl rfl rfl ?_
          refine cx_getf hA (by decide) rfl dX6_lightShare_21 rfl fl_X6_19 rfl ?_
          refine hk_iload_n dX6_lightShare_24 rfl rfl rfl ?_
          refine cx_calli hA (by decide) rfl rfl rfl dX6_lightShare_25 rfl mv_X6_105 (ct_X4_fullWeight hfl hA (by omega)) rfl rfl (by decide) (by decide) (Nat.le_of_ble_eq_true rfl) (fun c25 => ?_) (fun E c => c.elim)
          refine cx_calli hA (by decide) rfl rfl rfl dX6_lightShare_28 rfl mv_X6_258 (ct_X2_lighter hfl hA h31 (by omega)) rfl rfl (by decide) (by decide) (Nat.le_of_ble_eq_true rfl) (fun c28 => ?_) (fun E c => c.elim)
          refine hk_iadd dX6_lightShare_31 rfl ?_
          refine cx_top (nI_add _ _) ?_
          refine hk_istore_n dX6_lightShare_32 rfl rfl (by decide) rfl ?_
          refine hk_iinc dX6_lightShare_33 rfl rfl (nI_1 _) (by decide) rfl ?_
          refine hk_goto (tgt := 9) dX6_lightShare_36 (by decide) ?_
          exact cx_cg rfl rfl (ih (j + 1) (by omega) (by omega))
    exact lp9 (2 + 1) 0 (by omega) (by omega)
  · exact ⟨cs_thr (by simp [cs_sq, cs_sq, c.1]) c, rfl⟩
theorem ct_X6_meanWeight {c nc nb : Nat} (hfl : l.stackTraces = false) (hA : hs_inj A) (hI : cx_I S c nc nb) (hn : ¬ cs_unm S nc = 0 → vf_n64 (FP.ddiv (FP.i2d (cs_woa S 0 nc + cs_woa S 1 nc)) (FP.i2d (nI (cs_unm S nc))))) : hk_Ctr G l 8 yX6_meanWeight cX6_meanWeight 3 (some .double) 2 12 [.ref (A 0)] (hs_ov A (S) h) (cx_Q A h (cd_U S nc = 0) (some (.double (FP.ddiv (FP.i2d (cs_woa S 0 nc + cs_woa S 1 nc)) (FP.i2d (nI (cs_unm S nc)))))) (S)) (cx_X A h (S) ((fun E => ¬ cd_U S nc = 0 ∧ E = cs_ex (cd_U S nc)))) := by
  obtain ⟨h30, hc, h31, hnc, h32, hnb, hb7, hb8, hb17, h13, h15, h24, h26⟩ := hI
  refine hk_enter (by decide) hfl (Nat.le_of_ble_eq_true rfl) rfl ?_
  refine hk_aload_n dX6_meanWeight_0 rfl rfl rfl ?_
  refine cx_calli hA (by decide) rfl rfl rfl dX6_meanWeight_1 rfl mv_X6_255 (ct_X6_needCoins hfl hA h31 (by omega)) rfl rfl (by decide) (by decide) (Nat.le_of_ble_eq_true rfl) (fun c1 => ?_) (fun E c => ?_)
  · skip
    refine hk_istore_n dX6_meanWeight_4 rfl rfl (by decide) rfl ?_
    refine hk_aload_n dX6_meanWeight_5 rfl rfl rfl ?_
    refine cx_getf hA (by decide) rfl dX6_meanWeight_6 rfl fl_X6_26 rfl ?_
    refine hk_iconst (v := nI 0) dX6_meanWeight_9 rfl (by decide) ?_
    refine cx_calli hA (by decide) rfl rfl rfl dX6_meanWeight_10 rfl mv_X6_261 (ct_X2_weightOfAll hfl hA h31 (by omega)) rfl rfl (by decide) (by decide) (Nat.le_of_ble_eq_true rfl) (fun c10 => ?_) (fun E c => c.elim)
    refine hk_aload_n dX6_meanWeight_13 rfl rfl rfl ?_
    refine cx_getf hA (by decide) rfl dX6_meanWeight_14 rfl fl_X6_26 rfl ?_
    refine hk_iconst (v := nI 1) dX6_meanWeight_17 rfl (by decide) ?_
    refine cx_calli hA (by decide) rfl rfl rfl dX6_meanWeight_18 rfl mv_X6_261 (ct_X2_weightOfAll hfl hA h31 (by omega)) rfl rfl (by decide) (by decide) (Nat.le_of_ble_eq_true rfl) (fun c18 => ?_) (fun E c => c.elim)
    refine hk_iadd dX6_meanWeight_21 rfl ?_
    refine hk_istore_n dX6_meanWeight_22 rfl rfl (by decide) rfl ?_
    have hu : ¬ cs_unm S nc = 0 := fun q => absurd (show cd_U S nc = 5 from if_pos q) (by rw [c1]; decide)
    refine hk_iload_n dX6_meanWeight_23 rfl rfl rfl ?_
    refine hk_i2d dX6_meanWeight_24 rfl ?_
    refine hk_iload_n dX6_meanWeight_25 rfl rfl rfl ?_
    refine hk_i2d dX6_meanWeight_26 rfl ?_
    refine hk_ddiv dX6_meanWeight_27 rfl (hn hu) ?_
    exact hk_dreturn rfl dX6_meanWeight_28 (⟨c1, rfl, rfl⟩)
  · exact ⟨cs_thr (by simp [cs_sq, cs_sq, c.1]) c, rfl⟩
end CXP

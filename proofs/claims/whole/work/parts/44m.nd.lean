section CM17
variable {G : hk_G} {l : Launch} {S : hs_S} {c nc nb m : Nat} {thr : Int32} {g h : hk_H}
theorem cm_nextDay (hfl : l.stackTraces = false) (hw : hm_Wd G m S c nc nb thr g h) (h24 : ∀ j, j < nb → S.1 24 j = -1 ∨ ∃ a, a < c ∧ S.1 24 j = nI a) (hli : ∀ j, j < nb → ∃ e, e ≤ 5 ∧ S.1 26 j = nI e ∧ ∀ q, q < 2 + e → ∃ a, a < c ∧ cs_liab S j e q = nI a) (hov : ∀ j, j < nb → S.1 24 j = -1 → ¬ S.1 23 j = S.1 33 0 + nI 1) : hk_Ctr G l 9 yX9_nextDay cX9_nextDay 6 (some .int) 60 500 [.ref m] h (hk_qi fun rv h1 => ml_Q G m 0 S c nc nb ((cs_nd S nb).1) (c) (nc) (nb) g (rv = nI (cs_nd S nb).2) h1) hk_no := by
  obtain ⟨A, M, rfl, rfl, ok, hk, rfl⟩ := hw
  have hc1 := ok.1.2.1
  have hc := ok.1.2.2
  have hnc := ok.2.1.2
  have hnb := ok.2.2.1.2
  refine hk_enter (by decide) hfl (Nat.le_of_ble_eq_true rfl) rfl ?_
  refine hk_aload_n dX9_nextDay_0 rfl rfl rfl ?_
  refine hk_iconst (v := nI 0) dX9_nextDay_1 rfl (by decide) ?_
  refine hk_putf dX9_nextDay_2 rfl (fw_X9_1 rfl) (hm_g0 hk) rfl rfl (Nat.lt_of_lt_of_eq (by decide : 0 < 11) rfl) ?_
  refine hx_cg (hm_vt hk) ?_
  refine hk_aload_n dX9_nextDay_5 rfl rfl rfl ?_
  refine hk_dup dX9_nextDay_6 rfl rfl ?_
  refine hk_getf dX9_nextDay_7 rfl fl_X9_184 (hm_g0 hk) rfl ?_
  refine hk_iconst (v := nI 1) dX9_nextDay_10 rfl (by decide) ?_
  refine hk_iadd dX9_nextDay_11 rfl ?_
  refine hk_putf dX9_nextDay_12 rfl (fw_X9_184 rfl) (hm_g0 hk) rfl rfl (Nat.lt_of_lt_of_eq (by decide : 9 < 11) rfl) ?_
  refine hx_cg (hm_vy hk) ?_
  refine hk_iconst (v := nI 0) dX9_nextDay_15 rfl (by decide) ?_
  refine hk_istore_n dX9_nextDay_16 rfl rfl (by decide) rfl ?_
  have okz : hm_ok G (cs_nd S 0).1 (hm_mt M (nI 0)) A c nc nb := hm_okS ok (fun i hi => hs_su_ne _ _ _ (by omega))
  have hkz : ha_ok (hm_D (cs_nd S 0).1 (hm_mt M (nI 0))) A g := hk
  refine hx_cg (show _ = hm_h G (cs_nd S 0).1 (hm_mt M (nI 0)) A g from rfl) ?_
  refine hk_aload_n dX9_nextDay_17 rfl rfl rfl ?_
  refine hk_getf dX9_nextDay_18 rfl fl_X9_38 (hm_g0 hkz) rfl ?_
  refine hk_callF dX9_nextDay_21 rfl mf_X9_122 (cj_iter hfl (hm_l2 hkz okz)) rfl rfl (hm_l2 hkz okz) rfl rfl (by decide) ⟨by omega, by omega⟩ (Nat.le_of_ble_eq_true rfl) (hk_kr fun it h1 q1 => ?_) hk_nx
  obtain ⟨hit, rfl⟩ := q1
  have git : g it = none := (ha_none hkz.1 hit).2
  refine hx_cg (hm_okg hkz hit).2.1 ?_
  refine hk_astore_n dX9_nextDay_26 rfl rfl (by decide) rfl ?_
  have lp27 : ∀ f j : Nat, ∀ (lr : Int32) (lv3 lv4 lv5 : Option Value) (M2 : hm_M) (gg : hk_H), j ≤ nb → nb - j < f → M2.1 0 = nI 0 → M2.1 12 = M.1 12 → hm_ok G (cs_nd S j).1 M2 A c nc nb → ha_ok (hm_D (cs_nd S j).1 M2) A gg → hm_x g gg → gg it = some (.inr (5, [.int (nI (j)), .int lr, .int (M.1 12), .ref (A 32)])) → hk_W G l 9 yX9_nextDay cX9_nextDay 6 (some .int) [] (hk_qi fun rv h1 => ml_Q G (A 0) 0 S c nc nb ((cs_nd S nb).1) (c) (nc) (nb) g (rv = nI (cs_nd S nb).2) h1) hk_no (4 * (nb - j)) (30 * (nb - j)) (hm_h G (cs_nd S j).1 M2 A gg) 27 [some (.ref (A 0)), some (.int (nI (cs_nd S j).2)), some (.ref it), lv3, lv4, lv5] [] := by
    intro f
    induction f with
    | zero => intro j lr lv3 lv4 lv5 M2 gg hj hf; exact absurd hf (by omega)
    | succ f ih27 =>
      intro j lr lv3 lv4 lv5 M2 gg hj hf hM0 hM12 ok2 hkg hx2 hit2
      have hl2 := hm_l2 hkg ok2
      rw [hM12] at hl2
      refine hk_aload_n dX9_nextDay_27 rfl rfl rfl ?_
      refine hk_callF dX9_nextDay_28 rfl mf_X9_126 (cj_hasNext hfl (hm_gnd hkg hit2) hl2 hj (by omega)) rfl rfl (hm_gnd hkg hit2) rfl rfl (by decide) ⟨Nat.zero_le _, Nat.zero_le _⟩ (Nat.le_of_ble_eq_true rfl) (hk_ki fun v h1 q => ?_) hk_nx
      obtain ⟨rfl, rfl⟩ := q
      refine cx_ifb_eq (tgt := 248) dX9_nextDay_33 (by decide) rfl (fun z33 => ?_) (fun z33 => ?_)
      · skip
        refine hk_iload_n dX9_nextDay_248 rfl rfl rfl ?_
        exact hk_ireturn rfl (rfl) dX9_nextDay_249 (by have ej : j = nb := (by have := of_decide_eq_false z33; omega); subst ej; exact ⟨_, rfl, gg, hx2, Or.inl ⟨rfl, rfl, A, M2, rfl, hM0, ok2, hkg, rfl⟩⟩)
      · skip
        refine hk_aload_n dX9_nextDay_36 rfl rfl rfl ?_
        have hjn : j < nb := of_decide_eq_true z33
        have hgj := hm_b1g (j := j) ok2 hjn
        refine hk_callF dX9_nextDay_37 rfl mf_X9_132 (cj_next hfl (hm_gnd hkg hit2) hl2 (hm_r (i := 2) hkg ok2 (by omega) hgj.1) hjn (by rw [← hm_n2 ok2]; exact (hm_cap ok2 hgj.1).1) (Nat.lt_of_le_of_lt (hm_cap ok2 hgj.1).2.2 (by decide)) hgj.2) rfl rfl (hm_gnd hkg hit2) rfl rfl (by decide) ⟨Nat.zero_le _, Nat.zero_le _⟩ (Nat.le_of_ble_eq_true rfl) (hk_kr fun v h1 q => ?_) hk_nx
        obtain ⟨rfl, rfl⟩ := q
        obtain ⟨hkB, eB⟩ := hm_sg (G := G) (x := .inr (5, [.int (nI (j + 1)), .int (nI j), .int (M.1 12), .ref (A 32)])) hkg hit2
        refine hx_cg eB ?_
        have itB : hk_set gg it (.inr (5, [.int (nI (j + 1)), .int (nI j), .int (M.1 12), .ref (A 32)])) it = some (.inr (5, [.int (nI (j + 1)), .int (nI j), .int (M.1 12), .ref (A 32)])) := hk_set_eq
        have xB : hm_x g (hk_set gg it (.inr (5, [.int (nI (j + 1)), .int (nI j), .int (M.1 12), .ref (A 32)]))) := hx2.st git
        generalize hk_set gg it (.inr (5, [.int (nI (j + 1)), .int (nI j), .int (M.1 12), .ref (A 32)])) = gB at hkB itB xB ⊢
        refine hk_castO dX9_nextDay_42 rfl (hm_g200 hkB (by rw [hm_v32 ok2]; omega)) rfl kl_X9_182 ?_
        refine hk_astore_n dX9_nextDay_45 rfl rfl (by decide) rfl ?_
        refine hk_aload_n dX9_nextDay_46 rfl rfl rfl ?_
        refine hk_getf dX9_nextDay_47 rfl fl_X9_208 (hm_g200 hkB (by rw [hm_v32 ok2]; omega)) rfl ?_
        refine hk_aload_n dX9_nextDay_50 rfl rfl rfl ?_
        refine hk_getf dX9_nextDay_51 rfl fl_X9_184 (hm_g0 hkB) rfl ?_
        refine hk_icmp_eq (tgt := 60) dX9_nextDay_54 (by decide) rfl (fun z54 => ?_) (fun z54 => ?_)
        · skip
          have h23 : (cs_nd S j).1.1 23 j = S.1 23 j := (congrFun (cs_nd_ne S (by decide) (by decide) (by decide) j) j)
          have h33 : (cs_nd S j).1.1 33 0 = S.1 33 0 + nI 1 := cs_nd_33b S j
          have zdu := z54
          obtain ⟨a, ha, e24⟩ := (h24 j hjn).resolve_left (fun z => hov j hjn z (by rw [← h23, ← h33]; exact z54))
          have e24j : (cs_nd S j).1.1 24 j = nI a := (cs_nd_24g S j (Nat.le_refl _)).trans e24
          have n24 : ¬ (cs_nd S j).1.1 24 j = -1 := (by rw [e24j]; exact cx_ne1 (by omega))
          obtain ⟨e, he5, e26, hlq⟩ := hli j hjn
          have h26 : (cs_nd S j).1.1 26 j = nI e := ((congrFun (cs_nd_ne S (by decide) (by decide) (by decide) j) j).trans e26)
          have hlX : ∀ q, q < 2 + e → ∃ x, x < c ∧ cs_liab (hs_su (cs_nd S j).1 24 j (-1)) j e q = nI x := fun q hq => (by rw [nd_liab (S := S) (fun i hi => (hs_su_ne _ _ _ (by omega)).trans (cs_nd_ne S (by omega) (by omega) (by omega) j))]; exact hlq q hq)
          have hF : ∀ q, q < 2 + e → vN (cs_liab (hs_su (cs_nd S j).1 24 j (-1)) j e q) < c ∧ cs_liab (hs_su (cs_nd S j).1 24 j (-1)) j e q = nI (vN (cs_liab (hs_su (cs_nd S j).1 24 j (-1)) j e q)) := fun q hq => (by obtain ⟨x, x1, x2⟩ := hlX q hq; rw [x2, vN_nI (by omega)]; exact ⟨x1, rfl⟩)
          have okX : hm_ok G (hs_su (cs_nd S j).1 24 j (-1)) (ha_up M2.1 (100 + j) ((cs_nd S j).1.1 24 j), M2.2) A c nc nb := hm_okS ok2 (fun i hi => hs_su_ne _ _ _ (by omega))
          have mF : (ha_up M2.1 (100 + j) ((cs_nd S j).1.1 24 j), M2.2).1 0 = nI 0 := ((ha_up_ne (f := M2.1) (by omega)).trans hM0)
          have nF : (ha_up M2.1 (100 + j) ((cs_nd S j).1.1 24 j), M2.2).1 12 = M.1 12 := ((ha_up_ne (f := M2.1) (by omega)).trans hM12)
          refine hk_aload_n dX9_nextDay_60 rfl rfl rfl ?_
          refine hk_iconst (v := nI 1) dX9_nextDay_61 rfl (by decide) ?_
          refine hk_putf dX9_nextDay_62 rfl (fw_X9_191 rfl) (hm_b3 hkB ok2 hjn n24) rfl rfl (Nat.lt_of_lt_of_eq (by decide : 6 < 7) rfl) ?_
          refine hx_cg (hm_vo (v := (cs_nd S j).1.1 24 j) hkB (hm_v32lt ok2 hjn) n24 rfl) ?_
          have hkX := (hm_wo (G := G) (v := (cs_nd S j).1.1 24 j) hkB (hm_v32lt ok2 hjn) n24 rfl).2
          have hhold : (if (hs_su (cs_nd S j).1 24 j (-1)).1 24 j = -1 then (ha_up M2.1 (100 + j) ((cs_nd S j).1.1 24 j), M2.2).1 (100 + j) else (hs_su (cs_nd S j).1 24 j (-1)).1 24 j) = nI a := (by rw [if_pos (show (hs_su (cs_nd S j).1 24 j (-1)).1 24 j = -1 from if_pos rfl)]; exact ha_up_eq.trans e24j)
          refine hk_aload_n dX9_nextDay_65 rfl rfl rfl ?_
          refine hk_aload_n dX9_nextDay_66 rfl rfl rfl ?_
          refine hk_getf dX9_nextDay_67 rfl fl_X9_194 (hm_g200 hkX (by rw [hm_v32 okX]; omega)) rfl ?_
          refine cx_top hhold ?_
          refine hk_callV dX9_nextDay_70 rfl mv_X9_91 (cm_hasFailed hfl hkX okX (by omega)) rfl rfl (hm_g0 hkX) rfl rfl (by decide) ⟨Nat.zero_le _, Nat.zero_le _⟩ (Nat.le_of_ble_eq_true rfl) (hk_ki fun v h1 q => ?_) hk_nx
          obtain ⟨rfl, rfl⟩ := q
          refine cx_ifb_eq (tgt := 79) dX9_nextDay_73 (by decide) rfl (fun z73 => ?_) (fun z73 => ?_)
          · have f73 : cd_O ((hs_su (cs_nd S j).1 24 j (-1))) a = 0 := Decidable.of_not_not (of_decide_eq_false z73)
            refine hk_new dX9_nextDay_79 rfl nw_X9_13 ⟨by omega, by omega⟩ (fun fl hfl0 => ?_)
            obtain ⟨hk5, e5, x5⟩ := hm_okg (x := .inr (6, [.int 0, .null, .int 0])) hkX hfl0
            refine hx_cg e5 ?_
            refine hk_dup dX9_nextDay_82 rfl rfl ?_
            refine hk_callI dX9_nextDay_83 rfl mi_X9_15 (cj_alinit hfl (hm_gnd hk5 hk_set_eq)) rfl rfl (by decide) ⟨by omega, by omega⟩ (Nat.le_of_ble_eq_true rfl) (hk_kv fun h1 q1 => ?_) hk_nx
            subst q1
            obtain ⟨hk7, e7⟩ := hm_sg (x := .inr (6, [.int 0, .ref (hk_K G 1001), .int (nI 0)])) hk5 (hk_set_eq (a := fl))
            rw [hk_set_set] at hk7 e7
            refine hx_cg e7 ?_
            have gfl : gB fl = none := (ha_none hkX.1 hfl0).2
            have L7 : nd_L G gB _ fl 0 (fun q => vN (cs_liab (hs_su (cs_nd S j).1 24 j (-1)) j e q)) _ _ _ _ := nd_L0 gfl
            have x7 : hm_x gB (hk_set gB fl (.inr (6, [.int 0, .ref (hk_K G 1001), .int (nI 0)]))) := hm_x.nw gfl
            generalize hk_set gB fl (.inr (6, [.int 0, .ref (hk_K G 1001), .int (nI 0)])) = g7 at hk7 L7 x7 ⊢
            have hF8 : ∀ n2, n2 ≤ 2 + e → ∀ q, q < n2 → (fun q => vN (cs_liab (hs_su (cs_nd S j).1 24 j (-1)) j e q)) q < 128 := fun n2 hn q hq => (by have := (hF q (by omega)).1; show vN _ < 128; omega)
            have hF0 := hF 0 (by omega)
            have hF1 := hF 1 (by omega)
            refine hk_astore dX9_nextDay_86 rfl (by decide) rfl ?_
            refine hk_aload dX9_nextDay_88 rfl rfl ?_
            refine hk_aload_n dX9_nextDay_90 rfl rfl rfl ?_
            refine hk_getf dX9_nextDay_91 rfl fl_X9_211 (hm_g200 hk7 (by rw [hm_v32 okX]; omega)) rfl ?_
            refine cx_top (show _ = nI (vN (cs_liab (hs_su (cs_nd S j).1 24 j (-1)) j e 0)) from hF0.2) ?_
            refine hk_callS dX9_nextDay_94 rfl ms_X9_200 (cj_iv (c := vN (cs_liab (hs_su (cs_nd S j).1 24 j (-1)) j e 0)) hfl (by omega)) rfl rfl (by decide) ⟨Nat.zero_le _, Nat.zero_le _⟩ (Nat.le_of_ble_eq_true rfl) (hk_kr fun v h1 q => ?_) hk_nx
            obtain ⟨rfl, rfl⟩ := q
            refine hk_callF dX9_nextDay_97 rfl mf_X9_50 (cj_add hfl (hq_al hk7 L7.2.1) (nd_ob L7 (hF8 _ (by omega))) (Or.inr (Or.inl ⟨_, by omega, rfl⟩))) rfl rfl (hq_al hk7 L7.2.1).1 rfl rfl (by decide) ⟨by omega, by omega⟩ (Nat.le_of_ble_eq_true rfl) (hk_ki fun v1 h1 q1 => ?_) hk_nx
            obtain ⟨rfl, hgr⟩ := q1
            obtain ⟨g8, mc8, ed8, cap8, f8, rfl, hk8, x8, L8⟩ := nd_add hk7 x7 L7 (by omega) hgr
            refine hk_pop dX9_nextDay_102 rfl rfl ?_
            refine hk_aload dX9_nextDay_103 rfl rfl ?_
            refine hk_aload_n dX9_nextDay_105 rfl rfl rfl ?_
            refine hk_getf dX9_nextDay_106 rfl fl_X9_214 (hm_g200 hk8 (by rw [hm_v32 okX]; omega)) rfl ?_
            refine cx_top (show _ = nI (vN (cs_liab (hs_su (cs_nd S j).1 24 j (-1)) j e 1)) from hF1.2) ?_
            refine hk_callS dX9_nextDay_109 rfl ms_X9_200 (cj_iv (c := vN (cs_liab (hs_su (cs_nd S j).1 24 j (-1)) j e 1)) hfl (by omega)) rfl rfl (by decide) ⟨Nat.zero_le _, Nat.zero_le _⟩ (Nat.le_of_ble_eq_true rfl) (hk_kr fun v h1 q => ?_) hk_nx
            obtain ⟨rfl, rfl⟩ := q
            refine hk_callF dX9_nextDay_112 rfl mf_X9_50 (cj_add hfl (hq_al hk8 L8.2.1) (nd_ob L8 (hF8 _ (by omega))) (Or.inr (Or.inl ⟨_, by omega, rfl⟩))) rfl rfl (hq_al hk8 L8.2.1).1 rfl rfl (by decide) ⟨by omega, by omega⟩ (Nat.le_of_ble_eq_true rfl) (hk_ki fun v1 h1 q1 => ?_) hk_nx
            obtain ⟨rfl, hgr⟩ := q1
            obtain ⟨g9, mc9, ed9, cap9, f9, rfl, hk9, x9, L9⟩ := nd_add hk8 x8 L8 (by omega) hgr
            refine hk_pop dX9_nextDay_117 rfl rfl ?_
            refine hk_aload dX9_nextDay_118 rfl rfl ?_
            refine hk_aload_n dX9_nextDay_120 rfl rfl rfl ?_
            obtain ⟨e_, he_, e26b, hrow, hel⟩ := okX.2.2.2.2.2.2.2 j hjn
            have ee : e = e_ := (by have h1 : (hs_su (cs_nd S j).1 24 j (-1)).1 26 j = nI e := h26; rw [h1] at e26b; exact (nI_eq (by omega) (by omega)).mp e26b)
            subst ee
            have hs3 := hm_l3 hk9 okX hjn h26 (by omega)
            have h10 : cap9 = 10 := L9.2.2.2.2.resolve_left (by omega)
            subst h10
            have hed9 := (L9.2.1.2.2.2.resolve_right (by omega)).1
            refine hk_getf dX9_nextDay_121 rfl fl_X9_197 (hm_g200 hk9 (by rw [hm_v32 okX]; omega)) rfl ?_
            rcases hrow with ⟨hr1, hr2, he1⟩ | ⟨he0, hr1⟩
            · have he10 : e ≤ (ha_up M2.1 (100 + j) ((cs_nd S j).1.1 24 j), M2.2).2.2.1 (3 + j) := (by rw [hr2]; omega)
              have hsr2 := hm_r (i := 3 + j) hk9 okX (by omega) hr1
              have hels : ∀ i, i < e → (ha_up M2.1 (100 + j) ((cs_nd S j).1.1 24 j), M2.2).2.1 (3 + j) i = some (hk_K G (3000 + ((fun q => vN (cs_liab (hs_su (cs_nd S j).1 24 j (-1)) j e q)) (2 + i) + 128))) := fun i hi => (by obtain ⟨x, x1, x2, x3⟩ := hel i hi; rw [x3]; have hq : cs_liab (hs_su (cs_nd S j).1 24 j (-1)) j e (2 + i) = nI x := (by unfold cs_liab; rw [if_neg (by omega), if_neg (by omega), show j * 5 + e + 1 - (2 + i) = j * 5 + (e - 1 - i) by omega]; exact x2); show _ = some (hk_K G (3000 + (vN (cs_liab (hs_su (cs_nd S j).1 24 j (-1)) j e (2 + i)) + 128))); rw [hq, vN_nI (by omega)])
              have hobs : ∀ i v, i < e → (ha_up M2.1 (100 + j) ((cs_nd S j).1.1 24 j), M2.2).2.1 (3 + j) i = some v → hk_ob G (hm_h G (hs_su (cs_nd S j).1 24 j (-1)) (ha_up M2.1 (100 + j) ((cs_nd S j).1.1 24 j), M2.2) A g9) v := fun i v hi hv => (by rw [hels i hi] at hv; cases hv; exact Or.inr (Or.inl ⟨_, by have := (hF (2 + i) (by omega)).1; show vN (cs_liab (hs_su (cs_nd S j).1 24 j (-1)) j e (2 + i)) + 128 < 256; omega, rfl⟩))
              refine hk_callF dX9_nextDay_124 rfl mf_X9_217 (cj_aa hfl (hq_al hk9 L9.2.1).1 (hm_gnd hk9 hed9) hs3 hsr2 he1 he10 (by omega) (by omega) (by omega) hobs) rfl rfl (hq_al hk9 L9.2.1).1 rfl rfl (by decide) ⟨by omega, by omega⟩ (Nat.le_of_ble_eq_true rfl) (hk_ki fun v1 h1 q1 => ?_) hk_nx
              obtain ⟨rfl, qq, hqq, rfl⟩ := q1
              obtain ⟨g3, mc3, f3, e3, hkY, x3, L3⟩ := nd_aa1 hk9 x9 L9 hels (by omega) hqq rfl
              refine hx_cg e3 ?_
              refine hk_pop dX9_nextDay_129 rfl rfl ?_
              have hed3 := (L3.2.1.2.2.2.resolve_right (fun z => by have := L3.2.1.2.1; omega)).1
              refine hk_iconst (v := nI 0) dX9_nextDay_130 rfl (by decide) ?_
              refine hk_istore dX9_nextDay_131 rfl (by decide) rfl ?_
              have lp133 : ∀ f i : Nat, i ≤ 2 + e → 2 + e - i < f → cs_fol (hs_su (cs_nd S j).1 24 j (-1)) j e i = none → hk_W G l 9 yX9_nextDay cX9_nextDay 6 (some .int) [] (hk_qi fun rv h1 => ml_Q G (A 0) 0 S c nc nb ((cs_nd S nb).1) (c) (nc) (nb) g (rv = nI (cs_nd S nb).2) h1) hk_no (4 * (nb - (j + 1))) (30 * (nb - (j + 1))) (hm_h G (hs_su (cs_nd S j).1 24 j (-1)) (ha_up M2.1 (100 + j) ((cs_nd S j).1.1 24 j), M2.2) A g3) 133 [some (.ref (A 0)), some (.int (nI (cs_nd S j).2)), some (.ref it), some (.ref (A (200 + j))), some (.ref fl), some (.int (nI i))] [] := by
                intro f
                induction f with
                | zero => intro i hi hf; exact absurd hf (by omega)
                | succ f ih133 =>
                  intro i hi hf hfo
                  refine hk_iload dX9_nextDay_133 rfl rfl ?_
                  refine hk_aload dX9_nextDay_135 rfl rfl ?_
                  refine hk_callF dX9_nextDay_137 rfl mf_X9_56 (cj_size hfl (hm_gnd hkY L3.2.1.1)) rfl rfl (hm_gnd hkY L3.2.1.1) rfl rfl (by decide) ⟨Nat.zero_le _, Nat.zero_le _⟩ (Nat.le_of_ble_eq_true rfl) (hk_ki fun v h1 q => ?_) hk_nx
                  obtain ⟨rfl, rfl⟩ := q
                  refine cx_icmp_ge (tgt := 173) (by omega) (by omega) dX9_nextDay_142 (by decide) rfl (fun z142 => ?_) (fun z142 => ?_)
                  · (rw [show i = 2 + e by omega] at hfo; refine hk_iload dX9_nextDay_173 rfl rfl ?_; refine hk_aload dX9_nextDay_175 rfl rfl ?_; refine hk_callF dX9_nextDay_177 rfl mf_X9_56 (cj_size hfl (hm_gnd hkY L3.2.1.1)) rfl rfl (hm_gnd hkY L3.2.1.1) rfl rfl (by decide) ⟨Nat.zero_le _, Nat.zero_le _⟩ (Nat.le_of_ble_eq_true rfl) (hk_ki fun v h1 q => ?_) hk_nx; obtain ⟨rfl, rfl⟩ := q; refine cx_icmp_eq (tgt := 27) (by omega) (by omega) dX9_nextDay_182 (by decide) rfl (fun z182 => ?_) (fun z182 => absurd (by omega) z182); have e9 : cs_nd S (j + 1) = ((hs_su (cs_nd S j).1 24 j (-1)), (cs_nd S j).2) := (by rw [cs_nd_s, nd_yes zdu h26 he5, set_none e24j (by omega) (cd_O_o f73) hfo]; rfl); have ihx := fun gg => ih27 (j + 1) (nI j) none none none _ gg (by omega) (by omega) mF nF; rw [e9] at ihx; refine hk_loc (lv' := [some (.ref (A 0)), some (.int (nI _)), some (.ref it), none, none, none]) ⟨rfl, rfl, rfl, trivial⟩ ?_; exact hk_bud (by omega) (by omega) (ihx _ okX hkY (xB.tr x3) (x3 _ _ itB)))
                  · skip
                    have hFi := hF i (by omega)
                    refine hk_aload_n dX9_nextDay_145 rfl rfl rfl ?_
                    refine hk_aload dX9_nextDay_146 rfl rfl ?_
                    refine hk_iload dX9_nextDay_148 rfl rfl ?_
                    refine hk_callF dX9_nextDay_150 rfl mf_X9_64 (cj_get hfl (hm_gnd hkY L3.2.1.1) (hm_gnd hkY hed3) (show i < 2 + e by omega) (by omega) (by omega) (L3.2.2.1 i (by omega))) rfl rfl (hm_gnd hkY L3.2.1.1) rfl rfl (by decide) ⟨Nat.zero_le _, Nat.zero_le _⟩ (Nat.le_of_ble_eq_true rfl) (hk_kr fun v h1 q => ?_) hk_nx
                    obtain ⟨rfl, rfl⟩ := q
                    refine hk_castJ dX9_nextDay_155 rfl (fun U H z => (z.2.2.1.2.2.2 (vN (cs_liab (hs_su (cs_nd S j).1 24 j (-1)) j e i) + 128) (by omega)).1) kl_X9_201 ?_
                    refine hk_callJ dX9_nextDay_158 rfl mv_X9_221 (cj_ic (c := vN (cs_liab (hs_su (cs_nd S j).1 24 j (-1)) j e i)) hfl (by omega)) rfl rfl (fun U H z => (z.2.2.1.2.2.2 (vN (cs_liab (hs_su (cs_nd S j).1 24 j (-1)) j e i) + 128) (by omega)).1) (by decide) ⟨Nat.zero_le _, Nat.zero_le _⟩ (Nat.le_of_ble_eq_true rfl) (hk_ki fun v h1 q => ?_) hk_nx
                    obtain ⟨rfl, rfl⟩ := q
                    refine hk_callV dX9_nextDay_161 rfl mv_X9_91 (cm_hasFailed hfl hkY okX (by omega)) rfl rfl (hm_g0 hkY) rfl rfl (by decide) ⟨Nat.zero_le _, Nat.zero_le _⟩ (Nat.le_of_ble_eq_true rfl) (hk_ki fun v h1 q => ?_) hk_nx
                    obtain ⟨rfl, rfl⟩ := q
                    refine cx_ifb_eq (tgt := 173) dX9_nextDay_164 (by decide) rfl (fun z164 => ?_) (fun z164 => ?_)
                    · have f164 : cd_O ((hs_su (cs_nd S j).1 24 j (-1))) (vN (cs_liab (hs_su (cs_nd S j).1 24 j (-1)) j e i)) = 0 := Decidable.of_not_not (of_decide_eq_false z164)
                      refine hk_iload dX9_nextDay_173 rfl rfl ?_
                      refine hk_aload dX9_nextDay_175 rfl rfl ?_
                      refine hk_callF dX9_nextDay_177 rfl mf_X9_56 (cj_size hfl (hm_gnd hkY L3.2.1.1)) rfl rfl (hm_gnd hkY L3.2.1.1) rfl rfl (by decide) ⟨Nat.zero_le _, Nat.zero_le _⟩ (Nat.le_of_ble_eq_true rfl) (hk_ki fun v h1 q => ?_) hk_nx
                      obtain ⟨rfl, rfl⟩ := q
                      refine cx_icmp_eq (tgt := 27) (by omega) (by omega) dX9_nextDay_182 (by decide) rfl (fun z182 => ?_) (fun z182 => ?_)
                      · exact absurd z182 (by omega)
                      · skip
                        refine hk_aload dX9_nextDay_185 rfl rfl ?_
                        refine hk_iload dX9_nextDay_187 rfl rfl ?_
                        refine hk_callF dX9_nextDay_189 rfl mf_X9_64 (cj_get hfl (hm_gnd hkY L3.2.1.1) (hm_gnd hkY hed3) (show i < 2 + e by omega) (by omega) (by omega) (L3.2.2.1 i (by omega))) rfl rfl (hm_gnd hkY L3.2.1.1) rfl rfl (by decide) ⟨Nat.zero_le _, Nat.zero_le _⟩ (Nat.le_of_ble_eq_true rfl) (hk_kr fun v h1 q => ?_) hk_nx
                        obtain ⟨rfl, rfl⟩ := q
                        refine hk_castJ dX9_nextDay_194 rfl (fun U H z => (z.2.2.1.2.2.2 (vN (cs_liab (hs_su (cs_nd S j).1 24 j (-1)) j e i) + 128) (by omega)).1) kl_X9_201 ?_
                        refine hk_callJ dX9_nextDay_197 rfl mv_X9_221 (cj_ic (c := vN (cs_liab (hs_su (cs_nd S j).1 24 j (-1)) j e i)) hfl (by omega)) rfl rfl (fun U H z => (z.2.2.1.2.2.2 (vN (cs_liab (hs_su (cs_nd S j).1 24 j (-1)) j e i) + 128) (by omega)).1) (by decide) ⟨Nat.zero_le _, Nat.zero_le _⟩ (Nat.le_of_ble_eq_true rfl) (hk_ki fun v h1 q => ?_) hk_nx
                        obtain ⟨rfl, rfl⟩ := q
                        refine hk_aload_n dX9_nextDay_200 rfl rfl rfl ?_
                        refine hk_getf dX9_nextDay_201 rfl fl_X9_194 (hm_g200 hkY (by rw [hm_v32 okX]; omega)) rfl ?_
                        refine cx_top hhold ?_
                        refine cx_icmp_ne (tgt := 210) (by omega) (by omega) dX9_nextDay_204 (by decide) rfl (fun z204 => ?_) (fun z204 => ?_)
                        · skip
                          refine hk_aload_n dX9_nextDay_210 rfl rfl rfl ?_
                          refine hk_getf dX9_nextDay_211 rfl fl_X9_35 (hm_g0 hkY) rfl ?_
                          refine hk_aload_n dX9_nextDay_214 rfl rfl rfl ?_
                          refine hk_getf dX9_nextDay_215 rfl fl_X9_194 (hm_g200 hkY (by rw [hm_v32 okX]; omega)) rfl ?_
                          refine cx_top hhold ?_
                          refine hx_aaldI dX9_nextDay_218 rfl (hm_g10 hkY) (show _ < 6 by omega) (by decide) (if_pos (show _ < 6 by omega)) ?_
                          refine hk_aload dX9_nextDay_219 rfl rfl ?_
                          refine hk_iload dX9_nextDay_221 rfl rfl ?_
                          refine hk_callF dX9_nextDay_223 rfl mf_X9_64 (cj_get hfl (hm_gnd hkY L3.2.1.1) (hm_gnd hkY hed3) (show i < 2 + e by omega) (by omega) (by omega) (L3.2.2.1 i (by omega))) rfl rfl (hm_gnd hkY L3.2.1.1) rfl rfl (by decide) ⟨Nat.zero_le _, Nat.zero_le _⟩ (Nat.le_of_ble_eq_true rfl) (hk_kr fun v h1 q => ?_) hk_nx
                          obtain ⟨rfl, rfl⟩ := q
                          refine hk_castJ dX9_nextDay_228 rfl (fun U H z => (z.2.2.1.2.2.2 (vN (cs_liab (hs_su (cs_nd S j).1 24 j (-1)) j e i) + 128) (by omega)).1) kl_X9_201 ?_
                          refine hk_callJ dX9_nextDay_231 rfl mv_X9_221 (cj_ic (c := vN (cs_liab (hs_su (cs_nd S j).1 24 j (-1)) j e i)) hfl (by omega)) rfl rfl (fun U H z => (z.2.2.1.2.2.2 (vN (cs_liab (hs_su (cs_nd S j).1 24 j (-1)) j e i) + 128) (by omega)).1) (by decide) ⟨Nat.zero_le _, Nat.zero_le _⟩ (Nat.le_of_ble_eq_true rfl) (hk_ki fun v h1 q => ?_) hk_nx
                          obtain ⟨rfl, rfl⟩ := q
                          refine hk_dup2 dX9_nextDay_234 rfl rfl rfl ?_
                          refine hx_iald dX9_nextDay_235 rfl (hm_g11 hkY (by omega)) (show _ < 6 by omega) (by decide) ?_
                          refine cx_top (if_pos (by omega)) ?_
                          refine hk_aload_n dX9_nextDay_236 rfl rfl rfl ?_
                          refine hk_getf dX9_nextDay_237 rfl fl_X9_224 (hm_g200 hkY (by rw [hm_v32 okX]; omega)) rfl ?_
                          refine hk_iadd dX9_nextDay_240 rfl ?_
                          refine hx_iast dX9_nextDay_241 rfl (hm_g11 hkY (by omega)) (show _ < 6 by omega) (by decide) ?_
                          refine hx_cg (hm_v19 hkY (by omega) (by omega)) ?_
                          refine hk_iinc dX9_nextDay_242 rfl rfl (nI_1 _) (by decide) rfl ?_
                          have e9 : cs_nd S (j + 1) = (cs_cadd (hs_su (cs_nd S j).1 24 j (-1)) a (vN (cs_liab (hs_su (cs_nd S j).1 24 j (-1)) j e i)) ((cs_nd S j).1.1 22 j), (cs_nd S j).2 + 1) := (by rw [cs_nd_s, nd_yes zdu h26 he5, set_paid e24j (by omega) (cd_O_o f73) (nd_fol2 hfo (by omega) f164) z204]; rfl)
                          have okF := hm_okS (S' := cs_cadd (hs_su (cs_nd S j).1 24 j (-1)) a (vN (cs_liab (hs_su (cs_nd S j).1 24 j (-1)) j e i)) ((cs_nd S j).1.1 22 j)) okX (fun i hi => hs_su_ne _ _ _ (by omega))
                          have hkF := hkY
                          have xF := xB.tr x3
                          have itF := x3 _ _ itB
                          refine hk_goto (tgt := 27) dX9_nextDay_245 (by decide) ?_
                          have ihx := fun gg => ih27 (j + 1) (nI j) none none none _ gg (by omega) (by omega) mF nF
                          rw [e9] at ihx
                          refine hk_loc (lv' := [some (.ref (A 0)), some (.int (nI _)), some (.ref it), none, none, none]) ⟨rfl, rfl, rfl, trivial⟩ ?_
                          exact hk_bud (by omega) (by omega) (ihx _ okF hkF xF itF)
                        · skip
                          have e9 : cs_nd S (j + 1) = ((hs_su (cs_nd S j).1 24 j (-1)), (cs_nd S j).2) := (by rw [cs_nd_s, nd_yes zdu h26 he5, set_same e24j (by omega) (cd_O_o f73) (by rw [nd_fol2 hfo (by omega) f164, z204])]; rfl)
                          have okF := okX
                          have hkF := hkY
                          have xF := xB.tr x3
                          have itF := x3 _ _ itB
                          refine hk_goto (tgt := 27) dX9_nextDay_207 (by decide) ?_
                          have ihx := fun gg => ih27 (j + 1) (nI j) none none none _ gg (by omega) (by omega) mF nF
                          rw [e9] at ihx
                          refine hk_loc (lv' := [some (.ref (A 0)), some (.int (nI _)), some (.ref it), none, none, none]) ⟨rfl, rfl, rfl, trivial⟩ ?_
                          exact hk_bud (by omega) (by omega) (ihx _ okF hkF xF itF)
                    · have f164 : cd_O ((hs_su (cs_nd S j).1 24 j (-1))) (vN (cs_liab (hs_su (cs_nd S j).1 24 j (-1)) j e i)) = 3 := cd_O_3 (of_decide_eq_true z164)
                      refine hk_iinc dX9_nextDay_167 rfl rfl (nI_1 _) (by decide) rfl ?_
                      refine hk_goto (tgt := 133) dX9_nextDay_170 (by decide) ?_
                      exact ih133 (i + 1) (by omega) (by omega) (nd_fol hfo f164)
              refine hk_bud (by omega) (by omega) (lp133 (2 + e + 1) 0 (by omega) (by omega) rfl)
            · skip
              have hsrc : hm_h G (hs_su (cs_nd S j).1 24 j (-1)) (ha_up M2.1 (100 + j) ((cs_nd S j).1.1 24 j), M2.2) A g9 (A (33 + j)) = some (.inr (6, [.int ((ha_up M2.1 (100 + j) ((cs_nd S j).1.1 24 j), M2.2).1 (13 + j)), .ref (hk_K G 1001), .int (nI 0)])) := (by rw [hs3]; unfold hm_ed; rw [if_neg (by rw [hr1]; decide), he0])
              refine hk_callF dX9_nextDay_124 rfl mf_X9_217 (cj_aa0 hfl (hq_al hk9 L9.2.1).1 hsrc) rfl rfl (hq_al hk9 L9.2.1).1 rfl rfl (by decide) ⟨by omega, by omega⟩ (Nat.le_of_ble_eq_true rfl) (hk_ki fun v1 h1 q1 => ?_) hk_nx
              obtain ⟨rfl, qq, hqq, rfl⟩ := q1
              obtain ⟨g3, mc3, e3, hkY, x3, L3⟩ := nd_aa0 hk9 x9 L9 hqq rfl
              rw [show (0 + 1 + 1 : Nat) = 2 + e by omega] at L3
              refine hx_cg e3 ?_
              refine hk_pop dX9_nextDay_129 rfl rfl ?_
              have hed3 := (L3.2.1.2.2.2.resolve_right (fun z => by have := L3.2.1.2.1; omega)).1
              refine hk_iconst (v := nI 0) dX9_nextDay_130 rfl (by decide) ?_
              refine hk_istore dX9_nextDay_131 rfl (by decide) rfl ?_
              have lp133 : ∀ f i : Nat, i ≤ 2 + e → 2 + e - i < f → cs_fol (hs_su (cs_nd S j).1 24 j (-1)) j e i = none → hk_W G l 9 yX9_nextDay cX9_nextDay 6 (some .int) [] (hk_qi fun rv h1 => ml_Q G (A 0) 0 S c nc nb ((cs_nd S nb).1) (c) (nc) (nb) g (rv = nI (cs_nd S nb).2) h1) hk_no (4 * (nb - (j + 1))) (30 * (nb - (j + 1))) (hm_h G (hs_su (cs_nd S j).1 24 j (-1)) (ha_up M2.1 (100 + j) ((cs_nd S j).1.1 24 j), M2.2) A g3) 133 [some (.ref (A 0)), some (.int (nI (cs_nd S j).2)), some (.ref it), some (.ref (A (200 + j))), some (.ref fl), some (.int (nI i))] [] := by
                intro f
                induction f with
                | zero => intro i hi hf; exact absurd hf (by omega)
                | succ f ih133 =>
                  intro i hi hf hfo
                  refine hk_iload dX9_nextDay_133 rfl rfl ?_
                  refine hk_aload dX9_nextDay_135 rfl rfl ?_
                  refine hk_callF dX9_nextDay_137 rfl mf_X9_56 (cj_size hfl (hm_gnd hkY L3.2.1.1)) rfl rfl (hm_gnd hkY L3.2.1.1) rfl rfl (by decide) ⟨Nat.zero_le _, Nat.zero_le _⟩ (Nat.le_of_ble_eq_true rfl) (hk_ki fun v h1 q => ?_) hk_nx
                  obtain ⟨rfl, rfl⟩ := q
                  refine cx_icmp_ge (tgt := 173) (by omega) (by omega) dX9_nextDay_142 (by decide) rfl (fun z142 => ?_) (fun z142 => ?_)
                  · (rw [show i = 2 + e by omega] at hfo; refine hk_iload dX9_nextDay_173 rfl rfl ?_; refine hk_aload dX9_nextDay_175 rfl rfl ?_; refine hk_callF dX9_nextDay_177 rfl mf_X9_56 (cj_size hfl (hm_gnd hkY L3.2.1.1)) rfl rfl (hm_gnd hkY L3.2.1.1) rfl rfl (by decide) ⟨Nat.zero_le _, Nat.zero_le _⟩ (Nat.le_of_ble_eq_true rfl) (hk_ki fun v h1 q => ?_) hk_nx; obtain ⟨rfl, rfl⟩ := q; refine cx_icmp_eq (tgt := 27) (by omega) (by omega) dX9_nextDay_182 (by decide) rfl (fun z182 => ?_) (fun z182 => absurd (by omega) z182); have e9 : cs_nd S (j + 1) = ((hs_su (cs_nd S j).1 24 j (-1)), (cs_nd S j).2) := (by rw [cs_nd_s, nd_yes zdu h26 he5, set_none e24j (by omega) (cd_O_o f73) hfo]; rfl); have ihx := fun gg => ih27 (j + 1) (nI j) none none none _ gg (by omega) (by omega) mF nF; rw [e9] at ihx; refine hk_loc (lv' := [some (.ref (A 0)), some (.int (nI _)), some (.ref it), none, none, none]) ⟨rfl, rfl, rfl, trivial⟩ ?_; exact hk_bud (by omega) (by omega) (ihx _ okX hkY (xB.tr x3) (x3 _ _ itB)))
                  · skip
                    have hFi := hF i (by omega)
                    refine hk_aload_n dX9_nextDay_145 rfl rfl rfl ?_
                    refine hk_aload dX9_nextDay_146 rfl rfl ?_
                    refine hk_iload dX9_nextDay_148 rfl rfl ?_
                    refine hk_callF dX9_nextDay_150 rfl mf_X9_64 (cj_get hfl (hm_gnd hkY L3.2.1.1) (hm_gnd hkY hed3) (show i < 2 + e by omega) (by omega) (by omega) (L3.2.2.1 i (by omega))) rfl rfl (hm_gnd hkY L3.2.1.1) rfl rfl (by decide) ⟨Nat.zero_le _, Nat.zero_le _⟩ (Nat.le_of_ble_eq_true rfl) (hk_kr fun v h1 q => ?_) hk_nx
                    obtain ⟨rfl, rfl⟩ := q
                    refine hk_castJ dX9_nextDay_155 rfl (fun U H z => (z.2.2.1.2.2.2 (vN (cs_liab (hs_su (cs_nd S j).1 24 j (-1)) j e i) + 128) (by omega)).1) kl_X9_201 ?_
                    refine hk_callJ dX9_nextDay_158 rfl mv_X9_221 (cj_ic (c := vN (cs_liab (hs_su (cs_nd S j).1 24 j (-1)) j e i)) hfl (by omega)) rfl rfl (fun U H z => (z.2.2.1.2.2.2 (vN (cs_liab (hs_su (cs_nd S j).1 24 j (-1)) j e i) + 128) (by omega)).1) (by decide) ⟨Nat.zero_le _, Nat.zero_le _⟩ (Nat.le_of_ble_eq_true rfl) (hk_ki fun v h1 q => ?_) hk_nx
                    obtain ⟨rfl, rfl⟩ := q
                    refine hk_callV dX9_nextDay_161 rfl mv_X9_91 (cm_hasFailed hfl hkY okX (by omega)) rfl rfl (hm_g0 hkY) rfl rfl (by decide) ⟨Nat.zero_le _, Nat.zero_le _⟩ (Nat.le_of_ble_eq_true rfl) (hk_ki fun v h1 q => ?_) hk_nx
                    obtain ⟨rfl, rfl⟩ := q
                    refine cx_ifb_eq (tgt := 173) dX9_nextDay_164 (by decide) rfl (fun z164 => ?_) (fun z164 => ?_)
                    · have f164 : cd_O ((hs_su (cs_nd S j).1 24 j (-1))) (vN (cs_liab (hs_su (cs_nd S j).1 24 j (-1)) j e i)) = 0 := Decidable.of_not_not (of_decide_eq_false z164)
                      refine hk_iload dX9_nextDay_173 rfl rfl ?_
                      refine hk_aload dX9_nextDay_175 rfl rfl ?_
                      refine hk_callF dX9_nextDay_177 rfl mf_X9_56 (cj_size hfl (hm_gnd hkY L3.2.1.1)) rfl rfl (hm_gnd hkY L3.2.1.1) rfl rfl (by decide) ⟨Nat.zero_le _, Nat.zero_le _⟩ (Nat.le_of_ble_eq_true rfl) (hk_ki fun v h1 q => ?_) hk_nx
                      obtain ⟨rfl, rfl⟩ := q
                      refine cx_icmp_eq (tgt := 27) (by omega) (by omega) dX9_nextDay_182 (by decide) rfl (fun z182 => ?_) (fun z182 => ?_)
                      · exact absurd z182 (by omega)
                      · skip
                        refine hk_aload dX9_nextDay_185 rfl rfl ?_
                        refine hk_iload dX9_nextDay_187 rfl rfl ?_
                        refine hk_callF dX9_nextDay_189 rfl mf_X9_64 (cj_get hfl (hm_gnd hkY L3.2.1.1) (hm_gnd hkY hed3) (show i < 2 + e by omega) (by omega) (by omega) (L3.2.2.1 i (by omega))) rfl rfl (hm_gnd hkY L3.2.1.1) rfl rfl (by decide) ⟨Nat.zero_le _, Nat.zero_le _⟩ (Nat.le_of_ble_eq_true rfl) (hk_kr fun v h1 q => ?_) hk_nx
                        obtain ⟨rfl, rfl⟩ := q
                        refine hk_castJ dX9_nextDay_194 rfl (fun U H z => (z.2.2.1.2.2.2 (vN (cs_liab (hs_su (cs_nd S j).1 24 j (-1)) j e i) + 128) (by omega)).1) kl_X9_201 ?_
                        refine hk_callJ dX9_nextDay_197 rfl mv_X9_221 (cj_ic (c := vN (cs_liab (hs_su (cs_nd S j).1 24 j (-1)) j e i)) hfl (by omega)) rfl rfl (fun U H z => (z.2.2.1.2.2.2 (vN (cs_liab (hs_su (cs_nd S j).1 24 j (-1)) j e i) + 128) (by omega)).1) (by decide) ⟨Nat.zero_le _, Nat.zero_le _⟩ (Nat.le_of_ble_eq_true rfl) (hk_ki fun v h1 q => ?_) hk_nx
                        obtain ⟨rfl, rfl⟩ := q
                        refine hk_aload_n dX9_nextDay_200 rfl rfl rfl ?_
                        refine hk_getf dX9_nextDay_201 rfl fl_X9_194 (hm_g200 hkY (by rw [hm_v32 okX]; omega)) rfl ?_
                        refine cx_top hhold ?_
                        refine cx_icmp_ne (tgt := 210) (by omega) (by omega) dX9_nextDay_204 (by decide) rfl (fun z204 => ?_) (fun z204 => ?_)
                        · skip
                          refine hk_aload_n dX9_nextDay_210 rfl rfl rfl ?_
                          refine hk_getf dX9_nextDay_211 rfl fl_X9_35 (hm_g0 hkY) rfl ?_
                          refine hk_aload_n dX9_nextDay_214 rfl rfl rfl ?_
                          refine hk_getf dX9_nextDay_215 rfl fl_X9_194 (hm_g200 hkY (by rw [hm_v32 okX]; omega)) rfl ?_
                          refine cx_top hhold ?_
                          refine hx_aaldI dX9_nextDay_218 rfl (hm_g10 hkY) (show _ < 6 by omega) (by decide) (if_pos (show _ < 6 by omega)) ?_
                          refine hk_aload dX9_nextDay_219 rfl rfl ?_
                          refine hk_iload dX9_nextDay_221 rfl rfl ?_
                          refine hk_callF dX9_nextDay_223 rfl mf_X9_64 (cj_get hfl (hm_gnd hkY L3.2.1.1) (hm_gnd hkY hed3) (show i < 2 + e by omega) (by omega) (by omega) (L3.2.2.1 i (by omega))) rfl rfl (hm_gnd hkY L3.2.1.1) rfl rfl (by decide) ⟨Nat.zero_le _, Nat.zero_le _⟩ (Nat.le_of_ble_eq_true rfl) (hk_kr fun v h1 q => ?_) hk_nx
                          obtain ⟨rfl, rfl⟩ := q
                          refine hk_castJ dX9_nextDay_228 rfl (fun U H z => (z.2.2.1.2.2.2 (vN (cs_liab (hs_su (cs_nd S j).1 24 j (-1)) j e i) + 128) (by omega)).1) kl_X9_201 ?_
                          refine hk_callJ dX9_nextDay_231 rfl mv_X9_221 (cj_ic (c := vN (cs_liab (hs_su (cs_nd S j).1 24 j (-1)) j e i)) hfl (by omega)) rfl rfl (fun U H z => (z.2.2.1.2.2.2 (vN (cs_liab (hs_su (cs_nd S j).1 24 j (-1)) j e i) + 128) (by omega)).1) (by decide) ⟨Nat.zero_le _, Nat.zero_le _⟩ (Nat.le_of_ble_eq_true rfl) (hk_ki fun v h1 q => ?_) hk_nx
                          obtain ⟨rfl, rfl⟩ := q
                          refine hk_dup2 dX9_nextDay_234 rfl rfl rfl ?_
                          refine hx_iald dX9_nextDay_235 rfl (hm_g11 hkY (by omega)) (show _ < 6 by omega) (by decide) ?_
                          refine cx_top (if_pos (by omega)) ?_
                          refine hk_aload_n dX9_nextDay_236 rfl rfl rfl ?_
                          refine hk_getf dX9_nextDay_237 rfl fl_X9_224 (hm_g200 hkY (by rw [hm_v32 okX]; omega)) rfl ?_
                          refine hk_iadd dX9_nextDay_240 rfl ?_
                          refine hx_iast dX9_nextDay_241 rfl (hm_g11 hkY (by omega)) (show _ < 6 by omega) (by decide) ?_
                          refine hx_cg (hm_v19 hkY (by omega) (by omega)) ?_
                          refine hk_iinc dX9_nextDay_242 rfl rfl (nI_1 _) (by decide) rfl ?_
                          have e9 : cs_nd S (j + 1) = (cs_cadd (hs_su (cs_nd S j).1 24 j (-1)) a (vN (cs_liab (hs_su (cs_nd S j).1 24 j (-1)) j e i)) ((cs_nd S j).1.1 22 j), (cs_nd S j).2 + 1) := (by rw [cs_nd_s, nd_yes zdu h26 he5, set_paid e24j (by omega) (cd_O_o f73) (nd_fol2 hfo (by omega) f164) z204]; rfl)
                          have okF := hm_okS (S' := cs_cadd (hs_su (cs_nd S j).1 24 j (-1)) a (vN (cs_liab (hs_su (cs_nd S j).1 24 j (-1)) j e i)) ((cs_nd S j).1.1 22 j)) okX (fun i hi => hs_su_ne _ _ _ (by omega))
                          have hkF := hkY
                          have xF := xB.tr x3
                          have itF := x3 _ _ itB
                          refine hk_goto (tgt := 27) dX9_nextDay_245 (by decide) ?_
                          have ihx := fun gg => ih27 (j + 1) (nI j) none none none _ gg (by omega) (by omega) mF nF
                          rw [e9] at ihx
                          refine hk_loc (lv' := [some (.ref (A 0)), some (.int (nI _)), some (.ref it), none, none, none]) ⟨rfl, rfl, rfl, trivial⟩ ?_
                          exact hk_bud (by omega) (by omega) (ihx _ okF hkF xF itF)
                        · skip
                          have e9 : cs_nd S (j + 1) = ((hs_su (cs_nd S j).1 24 j (-1)), (cs_nd S j).2) := (by rw [cs_nd_s, nd_yes zdu h26 he5, set_same e24j (by omega) (cd_O_o f73) (by rw [nd_fol2 hfo (by omega) f164, z204])]; rfl)
                          have okF := okX
                          have hkF := hkY
                          have xF := xB.tr x3
                          have itF := x3 _ _ itB
                          refine hk_goto (tgt := 27) dX9_nextDay_207 (by decide) ?_
                          have ihx := fun gg => ih27 (j + 1) (nI j) none none none _ gg (by omega) (by omega) mF nF
                          rw [e9] at ihx
                          refine hk_loc (lv' := [some (.ref (A 0)), some (.int (nI _)), some (.ref it), none, none, none]) ⟨rfl, rfl, rfl, trivial⟩ ?_
                          exact hk_bud (by omega) (by omega) (ihx _ okF hkF xF itF)
                    · have f164 : cd_O ((hs_su (cs_nd S j).1 24 j (-1))) (vN (cs_liab (hs_su (cs_nd S j).1 24 j (-1)) j e i)) = 3 := cd_O_3 (of_decide_eq_true z164)
                      refine hk_iinc dX9_nextDay_167 rfl rfl (nI_1 _) (by decide) rfl ?_
                      refine hk_goto (tgt := 133) dX9_nextDay_170 (by decide) ?_
                      exact ih133 (i + 1) (by omega) (by omega) (nd_fol hfo f164)
              refine hk_bud (by omega) (by omega) (lp133 (2 + e + 1) 0 (by omega) (by omega) rfl)
          · have f73 : cd_O ((hs_su (cs_nd S j).1 24 j (-1))) a = 3 := cd_O_3 (of_decide_eq_true z73)
            have e9 : cs_nd S (j + 1) = ((hs_su (cs_nd S j).1 24 j (-1)), (cs_nd S j).2) := (by rw [cs_nd_s, nd_yes zdu h26 he5, set_failed e24j (by omega) (cd_O_c f73)]; rfl)
            have okF := okX
            have hkF := hkX
            have xF := xB
            have itF := itB
            refine hk_goto (tgt := 27) dX9_nextDay_76 (by decide) ?_
            have ihx := fun gg => ih27 (j + 1) (nI j) none none none _ gg (by omega) (by omega) mF nF
            rw [e9] at ihx
            refine hk_loc (lv' := [some (.ref (A 0)), some (.int (nI _)), some (.ref it), none, none, none]) ⟨rfl, rfl, rfl, trivial⟩ ?_
            exact hk_bud (by omega) (by omega) (ihx _ okF hkF xF itF)
        · skip
          have e9 : cs_nd S (j + 1) = ((cs_nd S j).1, (cs_nd S j).2) := (by rw [cs_nd_s, nd_no z54])
          have mF := hM0
          have nF := hM12
          have okF := ok2
          have hkF := hkB
          have xF := xB
          have itF := itB
          refine hk_goto (tgt := 27) dX9_nextDay_57 (by decide) ?_
          have ihx := fun gg => ih27 (j + 1) (nI j) none none none _ gg (by omega) (by omega) mF nF
          rw [e9] at ihx
          refine hk_loc (lv' := [some (.ref (A 0)), some (.int (nI _)), some (.ref it), none, none, none]) ⟨rfl, rfl, rfl, trivial⟩ ?_
          exact hk_bud (by omega) (by omega) (ihx _ okF hkF xF itF)
  refine hk_bud (by omega) (by omega) (lp27 (nb + 1) 0 (-1) none none none _ _ (by omega) (by omega) hm_mt0 rfl okz (hm_okg (x := _) hkz hit).1 (hm_okg (x := _) hkz hit).2.2 hk_set_eq)
end CM17

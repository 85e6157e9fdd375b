section CM8
variable {G : hk_G} {l : Launch} {S : hs_S} {c nc nb m : Nat} {thr : Int32} {g h : hk_H}
def hs_al (S : hs_S) (n : Nat) : Nat := cx_it (fun j k => if S.1 14 j ≤ 0 then k else k + 1) 0 n
theorem hs_al_s (S : hs_S) (j : Nat) : hs_al S (j + 1) = if S.1 14 j ≤ 0 then hs_al S j else hs_al S j + 1 := rfl
theorem hs_al_le (S : hs_S) : ∀ n, hs_al S n ≤ n
  | 0 => Nat.le_refl _
  | n + 1 => by
    have := hs_al_le S n
    rw [hs_al_s]
    split <;> omega
def hs_lg (S : hs_S) (n : Nat) : Nat := cx_it (fun j k => if S.1 14 j ≤ 0 then k else (if S.1 10 (vN (S.1 13 j)) ≤ S.1 14 j then k else k + 1)) 0 n
theorem hs_lg_s (S : hs_S) (j : Nat) : hs_lg S (j + 1) = if S.1 14 j ≤ 0 then hs_lg S j else (if S.1 10 (vN (S.1 13 j)) ≤ S.1 14 j then hs_lg S j else hs_lg S j + 1) := rfl
def hs_wt (S : hs_S) (n : Nat) : Int32 := cx_it (fun j v => v + S.1 14 j) (nI 0) n
theorem hs_wt_s (S : hs_S) (j : Nat) : hs_wt S (j + 1) = hs_wt S j + S.1 14 j := rfl
theorem mi_C14 {S : hs_S} {c nc j : Nat} (h : mi_C S c nc) (hc : c ≤ 6) (hj : j < nc) : S.1 14 j ≤ 0 ↔ S.1 15 j = -1 := by
  obtain ⟨m, x, h1, h2, h3, h4, h5⟩ := h j hj
  rw [h4]
  rcases h5 with ⟨h5, h6⟩ | ⟨h5, a, h6, h7⟩
  · rw [h5, h6]
    exact ⟨fun _ => rfl, fun _ => by decide⟩
  · rw [h7]
    constructor
    · intro z
      exact absurd (nI_lt (a := 0) (b := x) (by omega) (by omega)) (Int32.not_lt.mpr z)
    · intro z
      exact absurd z (cx_ne1 (by omega))
theorem hs_al_unm {S : hs_S} {c nc : Nat} (h : mi_C S c nc) (hc : c ≤ 6) : ∀ n, n ≤ nc → hs_al S n = cs_unm S n
  | 0, _ => rfl
  | n + 1, hn => by
    rw [hs_al_s, cs_unm_s, hs_al_unm h hc n (by omega)]
    by_cases z : S.1 15 n = -1
    · rw [if_pos z, if_pos ((mi_C14 h hc (by omega)).mpr z)]
    · rw [if_neg z, if_neg (fun q => z ((mi_C14 h hc (by omega)).mp q))]
theorem cm_lightShare  (hfl : l.stackTraces = false) (hw : hm_Wd G m S c nc nb thr g h) (hC : mi_C S c nc) (hn : ¬ cs_unm S nc = 0 → vf_n32 (FP.fdiv (FP.i2f (nI (hs_lg S nc))) (FP.i2f (nI (hs_al S nc))))) : hk_Ctr G l 9 yX9_lightShare cX9_lightShare 5 (some .float) 1 4 [.ref m] h (hk_qf fun rv h1 => ml_Q G m (ml_tr [5] (cd_U S nc)) S c nc nb (S) (c) (nc) (nb) g (rv = FP.fdiv (FP.i2f (nI (hs_lg S nc))) (FP.i2f (nI (hs_al S nc)))) h1) hk_no := by
  obtain ⟨A, M, rfl, rfl, ok, hk, rfl⟩ := hw
  have hc1 := ok.1.2.1
  have hc := ok.1.2.2
  have hnc := ok.2.1.2
  have hnb := ok.2.2.1.2
  refine hk_enter (by decide) hfl (Nat.le_of_ble_eq_true rfl) rfl ?_
  refine hk_iconst (v := nI 0) dX9_lightShare_0 rfl (by decide) ?_
  refine hk_istore_n dX9_lightShare_1 rfl rfl (by decide) rfl ?_
  refine hk_iconst (v := nI 0) dX9_lightShare_2 rfl (by decide) ?_
  refine hk_istore_n dX9_lightShare_3 rfl rfl (by decide) rfl ?_
  refine hk_aload_n dX9_lightShare_4 rfl rfl rfl ?_
  refine hk_getf dX9_lightShare_5 rfl fl_X9_32 (hm_g0 hk) rfl ?_
  refine hk_callF dX9_lightShare_8 rfl mf_X9_122 (cj_iter hfl (hm_l1 hk ok)) rfl rfl (hm_l1 hk ok) rfl rfl (by decide) ⟨by omega, by omega⟩ (Nat.le_of_ble_eq_true rfl) (hk_kr fun it h1 q1 => ?_) hk_nx
  obtain ⟨hit, rfl⟩ := q1
  have hkI := fun x => (hm_okg (x := x) hk hit).1
  have hxI := fun x => (hm_okg (x := x) hk hit).2.2
  refine hx_cg (hm_okg hk hit).2.1 ?_
  refine hk_astore_n dX9_lightShare_13 rfl rfl (by decide) rfl ?_
  have lp14 : ∀ f j : Nat, ∀ lr : Int32, ∀ lvF : Option Value, j ≤ nc → nc - j < f → hk_W G l 9 yX9_lightShare cX9_lightShare 5 (some .float) [] (hk_qf fun rv h1 => ml_Q G (A 0) (ml_tr [5] (cd_U S nc)) S c nc nb (S) (c) (nc) (nb) g (rv = FP.fdiv (FP.i2f (nI (hs_lg S nc))) (FP.i2f (nI (hs_al S nc)))) h1) hk_no 0 0 (hm_h G (S) M A (hk_set g it (hm_it M A j lr))) 14 [some (.ref (A 0)), some (.int (nI (hs_al S j))), some (.int (nI (hs_lg S j))), some (.ref it), lvF] [] := by
    intro f
    induction f with
    | zero => intro j lr lvF hj hf; exact absurd hf (by omega)
    | succ f ih =>
      intro j lr lvF hj hf
      refine hk_aload_n dX9_lightShare_14 rfl rfl rfl ?_
      refine hk_callF dX9_lightShare_15 rfl mf_X9_126 (cj_hasNext hfl (hm_gnd (hkI _) hk_set_eq) (hm_l1 (hkI _) ok) hj (by omega)) rfl rfl (hm_gnd (hkI _) hk_set_eq) rfl rfl (by decide) ⟨Nat.zero_le _, Nat.zero_le _⟩ (Nat.le_of_ble_eq_true rfl) (hk_ki fun v h1 q => ?_) hk_nx
      obtain ⟨rfl, rfl⟩ := q
      refine cx_ifb_eq (tgt := 87) dX9_lightShare_20 (by decide) rfl (fun z20 => ?_) (fun z20 => ?_)
      · skip
        have ej : j = nc := (by have := of_decide_eq_false z20; omega)
        subst ej
        have hU := hs_al_unm hC hc j (Nat.le_refl _)
        have hle := hs_al_le S j
        refine hk_aload_n dX9_lightShare_87 rfl rfl rfl ?_
        refine hk_iload_n dX9_lightShare_88 rfl rfl rfl ?_
        refine cx_ifn_ne (tgt := 96) (by omega) dX9_lightShare_89 (by decide) rfl (fun z89 => ?_) (fun z89 => ?_)
        · skip
          refine hk_iconst (v := nI 0) dX9_lightShare_96 rfl (by decide) ?_
          refine hk_callV dX9_lightShare_97 rfl mv_X9_80 (cm_isWrong (k := 0) hfl (by decide) (hkI _)) rfl rfl (hm_g0 (hkI _)) rfl rfl (by decide) ⟨Nat.zero_le _, Nat.zero_le _⟩ (Nat.le_of_ble_eq_true rfl) (hk_ki fun v h1 q => ?_) hk_nx
          obtain ⟨rfl, rfl⟩ := q
          try rw [hm_mt_mt]
          refine cx_ifb_eq (tgt := 107) dX9_lightShare_100 (by decide) rfl (fun z100 => ?_) (fun z100 => ?_)
          · skip
            refine hk_iload_n dX9_lightShare_107 rfl rfl rfl ?_
            refine hk_i2f dX9_lightShare_108 rfl ?_
            refine hk_iload_n dX9_lightShare_109 rfl rfl rfl ?_
            refine hk_i2f dX9_lightShare_110 rfl ?_
            refine hk_fdiv dX9_lightShare_111 rfl (hn (by rw [← hU]; exact z89)) ?_
            exact hk_freturn rfl dX9_lightShare_112 (by have ez : cd_U S j = 0 := if_neg (by rw [← hU]; exact z89); exact ⟨_, rfl, _, hxI _, Or.inl ⟨by rw [ez]; rfl, rfl, A, hm_mt M (nI 0), rfl, hm_mt0, ok, hkI _, rfl⟩⟩)
          · exact absurd z100 (by decide)
        · skip
          refine hk_iconst (v := nI 1) dX9_lightShare_92 rfl (by decide) ?_
          refine hk_goto (tgt := 97) dX9_lightShare_93 (by decide) ?_
          refine hk_callV dX9_lightShare_97 rfl mv_X9_80 (cm_isWrong (k := 1) hfl (by decide) (hkI _)) rfl rfl (hm_g0 (hkI _)) rfl rfl (by decide) ⟨Nat.zero_le _, Nat.zero_le _⟩ (Nat.le_of_ble_eq_true rfl) (hk_ki fun v h1 q => ?_) hk_nx
          obtain ⟨rfl, rfl⟩ := q
          try rw [hm_mt_mt]
          refine cx_ifb_eq (tgt := 107) dX9_lightShare_100 (by decide) rfl (fun z100 => ?_) (fun z100 => ?_)
          · exact absurd z100 (by decide)
          · skip
            refine hk_fconst0 dX9_lightShare_103 rfl ?_
            refine hk_goto (tgt := 112) dX9_lightShare_104 (by decide) ?_
            exact hk_freturn rfl dX9_lightShare_112 (by have e : cd_U S j = 5 := if_pos (by rw [← hU]; exact z89); exact ⟨_, rfl, _, hxI _, Or.inr ⟨by rw [e]; decide, A, hm_mt M (nI 1), rfl, by rw [e]; exact hm_mt0, ok, hkI _, rfl⟩⟩)
      · skip
        refine hk_aload_n dX9_lightShare_23 rfl rfl rfl ?_
        have hjn : j < nc := of_decide_eq_true z20
        have hgj := hm_c1g (j := j) ok hjn
        refine hk_callF dX9_lightShare_24 rfl mf_X9_132 (cj_next hfl (hm_gnd (hkI _) hk_set_eq) (hm_l1 (hkI _) ok) (hm_r (i := 1) (hkI _) ok (by omega) hgj.1) hjn (by rw [← hm_n1 ok]; exact (hm_cap ok hgj.1).1) (Nat.lt_of_le_of_lt (hm_cap ok hgj.1).2.2 (by decide)) hgj.2) rfl rfl (hm_gnd (hkI _) hk_set_eq) rfl rfl (by decide) ⟨Nat.zero_le _, Nat.zero_le _⟩ (Nat.le_of_ble_eq_true rfl) (hk_kr fun v h1 q => ?_) hk_nx
        obtain ⟨rfl, rfl⟩ := q
        refine hx_cg (hm_sgI (hkI _)) ?_
        refine hk_castO dX9_lightShare_29 rfl (hm_coi (hkI _) ok (by omega)) rfl kl_X9_94 ?_
        refine hk_astore dX9_lightShare_32 rfl (by decide) rfl ?_
        obtain ⟨m3, x3, hm3, hx3, e13, e14, z3⟩ := hC j hjn
        have vm3 : vN (S.1 13 j) = m3 := by rw [e13]; exact vN_nI (by omega)
        refine hk_iload_n dX9_lightShare_34 rfl rfl rfl ?_
        refine hk_aload dX9_lightShare_35 rfl rfl ?_
        refine hk_getf dX9_lightShare_37 rfl fl_X9_103 (hm_coi (hkI _) ok (by omega)) rfl ?_
        refine hk_if_le (tgt := 47) dX9_lightShare_40 (by decide) rfl (fun z40 => ?_) (fun z40 => ?_)
        · skip
          refine hk_iconst (v := nI 0) dX9_lightShare_47 rfl (by decide) ?_
          refine hk_iadd dX9_lightShare_48 rfl ?_
          refine cx_top (nI_add _ _) ?_
          refine hk_istore_n dX9_lightShare_49 rfl rfl (by decide) rfl ?_
          refine hk_iload_n dX9_lightShare_50 rfl rfl rfl ?_
          refine hk_aload dX9_lightShare_51 rfl rfl ?_
          refine hk_getf dX9_lightShare_53 rfl fl_X9_103 (hm_coi (hkI _) ok (by omega)) rfl ?_
          refine hk_if_le (tgt := 81) dX9_lightShare_56 (by decide) rfl (fun z56 => ?_) (fun z56 => ?_)
          · skip
            refine hk_iconst (v := nI 0) dX9_lightShare_81 rfl (by decide) ?_
            refine hk_iadd dX9_lightShare_82 rfl ?_
            refine cx_top (nI_add _ _) ?_
            refine hk_istore_n dX9_lightShare_83 rfl rfl (by decide) rfl ?_
            refine hk_goto (tgt := 14) dX9_lightShare_84 (by decide) ?_
            first | rw [show nI (hs_al S j + 1) = nI (hs_al S (j + 1)) from by rw [hs_al_s, if_neg z40]] | rw [show nI (hs_al S j + 0) = nI (hs_al S (j + 1)) from by rw [hs_al_s, if_pos z40]; rfl]
            first | rw [show nI (hs_lg S j + 0) = nI (hs_lg S (j + 1)) from by rw [hs_lg_s, if_pos z56]; rfl] | rw [show nI (hs_lg S j + 0) = nI (hs_lg S (j + 1)) from by rw [hs_lg_s, if_neg z56, vm3, if_pos z74]; rfl] | rw [show nI (hs_lg S j + 1) = nI (hs_lg S (j + 1)) from by rw [hs_lg_s, if_neg z56, vm3, if_neg z74]]
            exact ih (j + 1) (nI j) _ (by omega) (by omega)
          · exact absurd z40 z56
        · skip
          refine hk_iconst (v := nI 1) dX9_lightShare_43 rfl (by decide) ?_
          refine hk_goto (tgt := 48) dX9_lightShare_44 (by decide) ?_
          refine hk_iadd dX9_lightShare_48 rfl ?_
          refine cx_top (nI_add _ _) ?_
          refine hk_istore_n dX9_lightShare_49 rfl rfl (by decide) rfl ?_
          refine hk_iload_n dX9_lightShare_50 rfl rfl rfl ?_
          refine hk_aload dX9_lightShare_51 rfl rfl ?_
          refine hk_getf dX9_lightShare_53 rfl fl_X9_103 (hm_coi (hkI _) ok (by omega)) rfl ?_
          refine hk_if_le (tgt := 81) dX9_lightShare_56 (by decide) rfl (fun z56 => ?_) (fun z56 => ?_)
          · exact absurd z56 z40
          · skip
            refine hk_aload dX9_lightShare_59 rfl rfl ?_
            refine hk_getf dX9_lightShare_61 rfl fl_X9_103 (hm_coi (hkI _) ok (by omega)) rfl ?_
            refine hk_aload_n dX9_lightShare_64 rfl rfl rfl ?_
            refine hk_getf dX9_lightShare_65 rfl fl_X9_24 (hm_g0 (hkI _)) rfl ?_
            refine hk_aload dX9_lightShare_68 rfl rfl ?_
            refine hk_getf dX9_lightShare_70 rfl fl_X9_115 (hm_coi (hkI _) ok (by omega)) rfl ?_
            refine cx_top e13 ?_
            refine hx_iald dX9_lightShare_73 rfl (hm_g2 (hkI _)) (show _ < 2 by omega) (by decide) ?_
            refine hk_icmp_ge (tgt := 81) dX9_lightShare_74 (by decide) rfl (fun z74 => ?_) (fun z74 => ?_)
            · skip
              refine hk_iconst (v := nI 0) dX9_lightShare_81 rfl (by decide) ?_
              refine hk_iadd dX9_lightShare_82 rfl ?_
              refine cx_top (nI_add _ _) ?_
              refine hk_istore_n dX9_lightShare_83 rfl rfl (by decide) rfl ?_
              refine hk_goto (tgt := 14) dX9_lightShare_84 (by decide) ?_
              first | rw [show nI (hs_al S j + 1) = nI (hs_al S (j + 1)) from by rw [hs_al_s, if_neg z40]] | rw [show nI (hs_al S j + 0) = nI (hs_al S (j + 1)) from by rw [hs_al_s, if_pos z40]; rfl]
              first | rw [show nI (hs_lg S j + 0) = nI (hs_lg S (j + 1)) from by rw [hs_lg_s, if_pos z56]; rfl] | rw [show nI (hs_lg S j + 0) = nI (hs_lg S (j + 1)) from by rw [hs_lg_s, if_neg z56, vm3, if_pos z74]; rfl] | rw [show nI (hs_lg S j + 1) = nI (hs_lg S (j + 1)) from by rw [hs_lg_s, if_neg z56, vm3, if_neg z74]]
              exact ih (j + 1) (nI j) _ (by omega) (by omega)
            · skip
              refine hk_iconst (v := nI 1) dX9_lightShare_77 rfl (by decide) ?_
              refine hk_goto (tgt := 82) dX9_lightShare_78 (by decide) ?_
              refine hk_iadd dX9_lightShare_82 rfl ?_
              refine cx_top (nI_add _ _) ?_
              refine hk_istore_n dX9_lightShare_83 rfl rfl (by decide) rfl ?_
              refine hk_goto (tgt := 14) dX9_lightShare_84 (by decide) ?_
              first | rw [show nI (hs_al S j + 1) = nI (hs_al S (j + 1)) from by rw [hs_al_s, if_neg z40]] | rw [show nI (hs_al S j + 0) = nI (hs_al S (j + 1)) from by rw [hs_al_s, if_pos z40]; rfl]
              first | rw [show nI (hs_lg S j + 0) = nI (hs_lg S (j + 1)) from by rw [hs_lg_s, if_pos z56]; rfl] | rw [show nI (hs_lg S j + 0) = nI (hs_lg S (j + 1)) from by rw [hs_lg_s, if_neg z56, vm3, if_pos z74]; rfl] | rw [show nI (hs_lg S j + 1) = nI (hs_lg S (j + 1)) from by rw [hs_lg_s, if_neg z56, vm3, if_neg z74]]
              exact ih (j + 1) (nI j) _ (by omega) (by omega)
  exact lp14 (nc + 1) 0 (-1) _ (by omega) (by omega)
theorem cm_meanWeight  (hfl : l.stackTraces = false) (hw : hm_Wd G m S c nc nb thr g h) (hC : mi_C S c nc) (hn : ¬ cs_unm S nc = 0 → vf_n64 (FP.ddiv (FP.i2d (hs_wt S nc)) (FP.i2d (nI (hs_al S nc))))) : hk_Ctr G l 9 yX9_meanWeight cX9_meanWeight 5 (some .double) 1 4 [.ref m] h (hk_qd fun rv h1 => ml_Q G m (ml_tr [5] (cd_U S nc)) S c nc nb (S) (c) (nc) (nb) g (rv = FP.ddiv (FP.i2d (hs_wt S nc)) (FP.i2d (nI (hs_al S nc)))) h1) hk_no := by
  obtain ⟨A, M, rfl, rfl, ok, hk, rfl⟩ := hw
  have hc1 := ok.1.2.1
  have hc := ok.1.2.2
  have hnc := ok.2.1.2
  have hnb := ok.2.2.1.2
  refine hk_enter (by decide) hfl (Nat.le_of_ble_eq_true rfl) rfl ?_
  refine hk_iconst (v := nI 0) dX9_meanWeight_0 rfl (by decide) ?_
  refine hk_istore_n dX9_meanWeight_1 rfl rfl (by decide) rfl ?_
  refine hk_iconst (v := nI 0) dX9_meanWeight_2 rfl (by decide) ?_
  refine hk_istore_n dX9_meanWeight_3 rfl rfl (by decide) rfl ?_
  refine hk_aload_n dX9_meanWeight_4 rfl rfl rfl ?_
  refine hk_getf dX9_meanWeight_5 rfl fl_X9_32 (hm_g0 hk) rfl ?_
  refine hk_callF dX9_meanWeight_8 rfl mf_X9_122 (cj_iter hfl (hm_l1 hk ok)) rfl rfl (hm_l1 hk ok) rfl rfl (by decide) ⟨by omega, by omega⟩ (Nat.le_of_ble_eq_true rfl) (hk_kr fun it h1 q1 => ?_) hk_nx
  obtain ⟨hit, rfl⟩ := q1
  have hkI := fun x => (hm_okg (x := x) hk hit).1
  have hxI := fun x => (hm_okg (x := x) hk hit).2.2
  refine hx_cg (hm_okg hk hit).2.1 ?_
  refine hk_astore_n dX9_meanWeight_13 rfl rfl (by decide) rfl ?_
  have lp14 : ∀ f j : Nat, ∀ lr : Int32, ∀ lvF : Option Value, j ≤ nc → nc - j < f → hk_W G l 9 yX9_meanWeight cX9_meanWeight 5 (some .double) [] (hk_qd fun rv h1 => ml_Q G (A 0) (ml_tr [5] (cd_U S nc)) S c nc nb (S) (c) (nc) (nb) g (rv = FP.ddiv (FP.i2d (hs_wt S nc)) (FP.i2d (nI (hs_al S nc)))) h1) hk_no 0 0 (hm_h G (S) M A (hk_set g it (hm_it M A j lr))) 14 [some (.ref (A 0)), some (.int (nI (hs_al S j))), some (.int (hs_wt S j)), some (.ref it), lvF] [] := by
    intro f
    induction f with
    | zero => intro j lr lvF hj hf; exact absurd hf (by omega)
    | succ f ih =>
      intro j lr lvF hj hf
      refine hk_aload_n dX9_meanWeight_14 rfl rfl rfl ?_
      refine hk_callF dX9_meanWeight_15 rfl mf_X9_126 (cj_hasNext hfl (hm_gnd (hkI _) hk_set_eq) (hm_l1 (hkI _) ok) hj (by omega)) rfl rfl (hm_gnd (hkI _) hk_set_eq) rfl rfl (by decide) ⟨Nat.zero_le _, Nat.zero_le _⟩ (Nat.le_of_ble_eq_true rfl) (hk_ki fun v h1 q => ?_) hk_nx
      obtain ⟨rfl, rfl⟩ := q
      refine cx_ifb_eq (tgt := 61) dX9_meanWeight_20 (by decide) rfl (fun z20 => ?_) (fun z20 => ?_)
      · skip
        have ej : j = nc := (by have := of_decide_eq_false z20; omega)
        subst ej
        have hU := hs_al_unm hC hc j (Nat.le_refl _)
        have hle := hs_al_le S j
        refine hk_aload_n dX9_meanWeight_61 rfl rfl rfl ?_
        refine hk_iload_n dX9_meanWeight_62 rfl rfl rfl ?_
        refine cx_ifn_ne (tgt := 70) (by omega) dX9_meanWeight_63 (by decide) rfl (fun z63 => ?_) (fun z63 => ?_)
        · skip
          refine hk_iconst (v := nI 0) dX9_meanWeight_70 rfl (by decide) ?_
          refine hk_callV dX9_meanWeight_71 rfl mv_X9_80 (cm_isWrong (k := 0) hfl (by decide) (hkI _)) rfl rfl (hm_g0 (hkI _)) rfl rfl (by decide) ⟨Nat.zero_le _, Nat.zero_le _⟩ (Nat.le_of_ble_eq_true rfl) (hk_ki fun v h1 q => ?_) hk_nx
          obtain ⟨rfl, rfl⟩ := q
          try rw [hm_mt_mt]
          refine cx_ifb_eq (tgt := 81) dX9_meanWeight_74 (by decide) rfl (fun z74 => ?_) (fun z74 => ?_)
          · skip
            refine hk_iload_n dX9_meanWeight_81 rfl rfl rfl ?_
            refine hk_i2d dX9_meanWeight_82 rfl ?_
            refine hk_iload_n dX9_meanWeight_83 rfl rfl rfl ?_
            refine hk_i2d dX9_meanWeight_84 rfl ?_
            refine hk_ddiv dX9_meanWeight_85 rfl (hn (by rw [← hU]; exact z63)) ?_
            exact hk_dreturn rfl dX9_meanWeight_86 (by have ez : cd_U S j = 0 := if_neg (by rw [← hU]; exact z63); exact ⟨_, rfl, _, hxI _, Or.inl ⟨by rw [ez]; rfl, rfl, A, hm_mt M (nI 0), rfl, hm_mt0, ok, hkI _, rfl⟩⟩)
          · exact absurd z74 (by decide)
        · skip
          refine hk_iconst (v := nI 1) dX9_meanWeight_66 rfl (by decide) ?_
          refine hk_goto (tgt := 71) dX9_meanWeight_67 (by decide) ?_
          refine hk_callV dX9_meanWeight_71 rfl mv_X9_80 (cm_isWrong (k := 1) hfl (by decide) (hkI _)) rfl rfl (hm_g0 (hkI _)) rfl rfl (by decide) ⟨Nat.zero_le _, Nat.zero_le _⟩ (Nat.le_of_ble_eq_true rfl) (hk_ki fun v h1 q => ?_) hk_nx
          obtain ⟨rfl, rfl⟩ := q
          try rw [hm_mt_mt]
          refine cx_ifb_eq (tgt := 81) dX9_meanWeight_74 (by decide) rfl (fun z74 => ?_) (fun z74 => ?_)
          · exact absurd z74 (by decide)
          · skip
            refine hk_dconst0 dX9_meanWeight_77 rfl ?_
            refine hk_goto (tgt := 86) dX9_meanWeight_78 (by decide) ?_
            exact hk_dreturn rfl dX9_meanWeight_86 (by have e : cd_U S j = 5 := if_pos (by rw [← hU]; exact z63); exact ⟨_, rfl, _, hxI _, Or.inr ⟨by rw [e]; decide, A, hm_mt M (nI 1), rfl, by rw [e]; exact hm_mt0, ok, hkI _, rfl⟩⟩)
      · skip
        refine hk_aload_n dX9_meanWeight_23 rfl rfl rfl ?_
        have hjn : j < nc := of_decide_eq_true z20
        have hgj := hm_c1g (j := j) ok hjn
        refine hk_callF dX9_meanWeight_24 rfl mf_X9_132 (cj_next hfl (hm_gnd (hkI _) hk_set_eq) (hm_l1 (hkI _) ok) (hm_r (i := 1) (hkI _) ok (by omega) hgj.1) hjn (by rw [← hm_n1 ok]; exact (hm_cap ok hgj.1).1) (Nat.lt_of_le_of_lt (hm_cap ok hgj.1).2.2 (by decide)) hgj.2) rfl rfl (hm_gnd (hkI _) hk_set_eq) rfl rfl (by decide) ⟨Nat.zero_le _, Nat.zero_le _⟩ (Nat.le_of_ble_eq_true rfl) (hk_kr fun v h1 q => ?_) hk_nx
        obtain ⟨rfl, rfl⟩ := q
        refine hx_cg (hm_sgI (hkI _)) ?_
        refine hk_castO dX9_meanWeight_29 rfl (hm_coi (hkI _) ok (by omega)) rfl kl_X9_94 ?_
        refine hk_astore dX9_meanWeight_32 rfl (by decide) rfl ?_
        obtain ⟨m3, x3, hm3, hx3, e13, e14, z3⟩ := hC j hjn
        have vm3 : vN (S.1 13 j) = m3 := by rw [e13]; exact vN_nI (by omega)
        refine hk_iload_n dX9_meanWeight_34 rfl rfl rfl ?_
        refine hk_aload dX9_meanWeight_35 rfl rfl ?_
        refine hk_getf dX9_meanWeight_37 rfl fl_X9_103 (hm_coi (hkI _) ok (by omega)) rfl ?_
        refine hk_if_le (tgt := 47) dX9_meanWeight_40 (by decide) rfl (fun z40 => ?_) (fun z40 => ?_)
        · skip
          refine hk_iconst (v := nI 0) dX9_meanWeight_47 rfl (by decide) ?_
          refine hk_iadd dX9_meanWeight_48 rfl ?_
          refine cx_top (nI_add _ _) ?_
          refine hk_istore_n dX9_meanWeight_49 rfl rfl (by decide) rfl ?_
          refine hk_iload_n dX9_meanWeight_50 rfl rfl rfl ?_
          refine hk_aload dX9_meanWeight_51 rfl rfl ?_
          refine hk_getf dX9_meanWeight_53 rfl fl_X9_103 (hm_coi (hkI _) ok (by omega)) rfl ?_
          refine hk_iadd dX9_meanWeight_56 rfl ?_
          refine hk_istore_n dX9_meanWeight_57 rfl rfl (by decide) rfl ?_
          refine hk_goto (tgt := 14) dX9_meanWeight_58 (by decide) ?_
          first | rw [show nI (hs_al S j + 1) = nI (hs_al S (j + 1)) from by rw [hs_al_s, if_neg z40]] | rw [show nI (hs_al S j + 0) = nI (hs_al S (j + 1)) from by rw [hs_al_s, if_pos z40]; rfl]
          exact ih (j + 1) (nI j) _ (by omega) (by omega)
        · skip
          refine hk_iconst (v := nI 1) dX9_meanWeight_43 rfl (by decide) ?_
          refine hk_goto (tgt := 48) dX9_meanWeight_44 (by decide) ?_
          refine hk_iadd dX9_meanWeight_48 rfl ?_
          refine cx_top (nI_add _ _) ?_
          refine hk_istore_n dX9_meanWeight_49 rfl rfl (by decide) rfl ?_
          refine hk_iload_n dX9_meanWeight_50 rfl rfl rfl ?_
          refine hk_aload dX9_meanWeight_51 rfl rfl ?_
          refine hk_getf dX9_meanWeight_53 rfl fl_X9_103 (hm_coi (hkI _) ok (by omega)) rfl ?_
          refine hk_iadd dX9_meanWeight_56 rfl ?_
          refine hk_istore_n dX9_meanWeight_57 rfl rfl (by decide) rfl ?_
          refine hk_goto (tgt := 14) dX9_meanWeight_58 (by decide) ?_
          first | rw [show nI (hs_al S j + 1) = nI (hs_al S (j + 1)) from by rw [hs_al_s, if_neg z40]] | rw [show nI (hs_al S j + 0) = nI (hs_al S (j + 1)) from by rw [hs_al_s, if_pos z40]; rfl]
          exact ih (j + 1) (nI j) _ (by omega) (by omega)
  exact lp14 (nc + 1) 0 (-1) _ (by omega) (by omega)
def hs_rcs (a m j : Nat) (S : hs_S) : hs_S := if cs_isL S a m j = true then hs_su (hs_su (cs_oadd S a m (S.1 14 j)) 14 j (nI 0)) 15 j (-1) else S
def hs_rcl (a m : Nat) (S : hs_S) (n : Nat) : hs_S := cx_it (hs_rcs a m) S n
theorem hs_rcl_s (a m : Nat) (S : hs_S) (j : Nat) : hs_rcl a m S (j + 1) = hs_rcs a m j (hs_rcl a m S j) := rfl
theorem hs_rcl_ne {a m : Nat} {S : hs_S} {i : Nat} (h : i ≠ 12 ∧ i ≠ 14 ∧ i ≠ 15) : ∀ n, (hs_rcl a m S n).1 i = S.1 i
  | 0 => rfl
  | n + 1 => by
    rw [hs_rcl_s]
    unfold hs_rcs
    split
    · unfold cs_oadd
      rw [hs_su_ne _ _ _ h.2.2, hs_su_ne _ _ _ h.2.1, hs_su_ne _ _ _ h.1]
      exact hs_rcl_ne h n
    · exact hs_rcl_ne h n
theorem hm_okS {G : hk_G} {S S' : hs_S} {M : hm_M} {A : Nat → Nat} {c nc nb : Nat} (ok : hm_ok G S M A c nc nb) (h : ∀ i, i = 7 ∨ i = 8 ∨ i = 25 ∨ i = 26 ∨ i = 30 ∨ i = 31 ∨ i = 32 → S'.1 i = S.1 i) : hm_ok G S' M A c nc nb := by
  have h7 := h 7 (by decide)
  have h8 := h 8 (by decide)
  have h25 := h 25 (by decide)
  have h26 := h 26 (by decide)
  have h30 := h 30 (by decide)
  have h31 := h 31 (by decide)
  have h32 := h 32 (by decide)
  unfold hm_ok hm_n hm_k at ok ⊢
  rw [h7, h8, h25, h26, h30, h31, h32]
  exact ok
theorem hm_hkS {S S' : hs_S} {M : hm_M} {A : Nat → Nat} {g : hk_H} (h : ∀ i, i = 7 ∨ i = 8 ∨ i = 25 ∨ i = 26 ∨ i = 30 ∨ i = 31 ∨ i = 32 → S'.1 i = S.1 i) (hk : ha_ok (hm_D S M) A g) : ha_ok (hm_D S' M) A g := by
  have e : hm_D S' M = hm_D S M := by
    funext i
    unfold hm_D
    rw [h 31 (by decide), h 32 (by decide)]
  rw [e]
  exact hk
def hs_rk (S : hs_S) (a m nc : Nat) : Nat := min (vN ((hs_rcl a m S nc).1 12 (a * 2 + m)) / vN (S.1 10 m)) (90 - nc)
theorem bm_of {y : Nat} (h : y < 2 ^ 31) : ((y : Int)).bmod (2 ^ 32) = (y : Int) := Int.bmod_eq_of_le (by omega) (by omega)
theorem nI_div {x z : Nat} (hx : x < 2 ^ 31) (hz : z < 2 ^ 31) : nI x / nI z = nI (x / z) := by
  have h1 : x / z < 2 ^ 31 := Nat.lt_of_le_of_lt (Nat.div_le_self x z) hx
  apply Int32.toInt.inj
  rw [Int32.toInt_div, nI_toInt hx, nI_toInt hz, nI_toInt h1, ← Int.ofNat_tdiv]
  exact bm_of h1
theorem cs_min_nI {x z : Nat} (hx : x < 2 ^ 31) (hz : z < 2 ^ 31) : cs_min (nI x) (nI z) = nI (min x z) := by
  unfold cs_min
  by_cases q : z < x
  · rw [if_pos (nI_lt q hx), Nat.min_eq_right (by omega)]
  · rw [if_neg (nI_nlt (by omega) hz), Nat.min_eq_left (by omega)]
theorem cm_recoin {v mt : Int32} (hfl : l.stackTraces = false) (hw : hm_Wd G m S c nc nb thr g h) (h16 : ∀ j, nc ≤ j → S.1 16 j = 0) (hO : ∀ a m, a < 6 → m < 2 → ∃ x : Nat, x < 2 ^ 31 ∧ (hs_rcl a m S nc).1 12 (a * 2 + m) = nI x) (hF : ∀ m, m < 2 → ∃ w : Nat, 1 ≤ w ∧ w ≤ 9 ∧ S.1 10 m = nI w) : hk_Ctr G l 9 yX9_recoin cX9_recoin 6 (some .int) 181 7434 [.ref m, .int v, .int mt] h (hk_qi fun rv h1 => ml_Q G m (ml_tr [1, 2, 3] (cd_recoin S c v mt)) S c nc nb (cs_mn (vN v) (cs_m mt) nc (hs_rcl (vN v) (cs_m mt) S nc) (hs_rk S (vN v) (cs_m mt) nc)) (c) (nc + hs_rk S (vN v) (cs_m mt) nc) (nb) g (rv = nI (hs_rk S (vN v) (cs_m mt) nc)) h1) hk_no := by
  obtain ⟨A, M, rfl, rfl, ok, hk, rfl⟩ := hw
  have hc1 := ok.1.2.1
  have hc := ok.1.2.2
  have hnc := ok.2.1.2
  have hnb := ok.2.2.1.2
  refine hk_enter (by decide) hfl (Nat.le_of_ble_eq_true rfl) rfl ?_
  refine hk_aload_n dX9_recoin_0 rfl rfl rfl ?_
  refine hk_aload_n dX9_recoin_1 rfl rfl rfl ?_
  refine hk_iload_n dX9_recoin_2 rfl rfl rfl ?_
  refine hk_callV dX9_recoin_3 rfl mv_X9_84 (cm_isHouse hfl hk ok) rfl rfl (hm_g0 hk) rfl rfl (by decide) ⟨Nat.zero_le _, Nat.zero_le _⟩ (Nat.le_of_ble_eq_true rfl) (hk_ki fun v h1 q => ?_) hk_nx
  obtain ⟨rfl, rfl⟩ := q
  refine cx_ifb_ne (tgt := 13) dX9_recoin_6 (by decide) rfl (fun z6 => ?_) (fun z6 => ?_)
  · have f6 : cd_H c v = 0 := of_decide_eq_true z6
    obtain ⟨a, ha, rfl⟩ := cd_H_of (by omega) f6
    have vaa : vN (nI a) = a := vN_nI (by omega)
    refine hk_iload_n dX9_recoin_13 rfl rfl rfl ?_
    refine hk_callS dX9_recoin_14 rfl ms_X9_87 (cm_isMetal hfl) rfl rfl (by decide) ⟨Nat.zero_le _, Nat.zero_le _⟩ (Nat.le_of_ble_eq_true rfl) (hk_ki fun v h1 q => ?_) hk_nx
    obtain ⟨rfl, rfl⟩ := q
    refine cx_ifb_ne (tgt := 24) dX9_recoin_17 (by decide) rfl (fun z17 => ?_) (fun z17 => ?_)
    · have f17 : cd_M mt = 0 := of_decide_eq_true z17
      refine hk_aload_n dX9_recoin_24 rfl rfl rfl ?_
      refine hk_iload_n dX9_recoin_25 rfl rfl rfl ?_
      refine hk_callV dX9_recoin_26 rfl mv_X9_91 (cm_hasFailed hfl hk ok (by omega)) rfl rfl (hm_g0 hk) rfl rfl (by decide) ⟨Nat.zero_le _, Nat.zero_le _⟩ (Nat.le_of_ble_eq_true rfl) (hk_ki fun v h1 q => ?_) hk_nx
      obtain ⟨rfl, rfl⟩ := q
      refine cx_ifb_eq (tgt := 36) dX9_recoin_29 (by decide) rfl (fun z29 => ?_) (fun z29 => ?_)
      · have f29 : cd_O S a = 0 := Decidable.of_not_not (of_decide_eq_false z29)
        refine hk_iconst (v := nI 0) dX9_recoin_36 rfl (by decide) ?_
        refine hk_callV dX9_recoin_37 rfl mv_X9_80 (cm_isWrong (k := 0) hfl (by decide) hk) rfl rfl (hm_g0 hk) rfl rfl (by decide) ⟨Nat.zero_le _, Nat.zero_le _⟩ (Nat.le_of_ble_eq_true rfl) (hk_ki fun v h1 q => ?_) hk_nx
        obtain ⟨rfl, rfl⟩ := q
        try rw [hm_mt_mt]
        refine cx_ifb_eq (tgt := 45) dX9_recoin_40 (by decide) rfl (fun z40 => ?_) (fun z40 => ?_)
        · skip
          obtain ⟨M1, hM1, e01, ok1, hk1⟩ : ∃ M1 : hm_M, M1 = hm_mt M (nI 0) ∧ M1.1 0 = nI 0 ∧ hm_ok G S M1 A c nc nb ∧ ha_ok (hm_D S M1) A g := ⟨_, rfl, hm_mt0, ok, hk⟩
          rw [← hM1]
          have hm := cs_m_lt mt
          refine hk_ldcS rfl dX9_recoin_45 rfl ?_
          refine hk_iload_n dX9_recoin_47 rfl rfl rfl ?_
          refine hk_callJ dX9_recoin_48 rfl mv_X9_74 (cj_io hfl) rfl rfl (fun U H z => z.2.2.2.1.2.2.1) (by decide) ⟨Nat.zero_le _, Nat.zero_le _⟩ (Nat.le_of_ble_eq_true rfl) (hk_ki fun v h1 q => ?_) hk_nx
          obtain ⟨rfl, rfl⟩ := q
          refine cx_top (cs_ixm f17) ?_
          refine hk_istore_n dX9_recoin_51 rfl rfl (by decide) rfl ?_
          refine hk_aload_n dX9_recoin_52 rfl rfl rfl ?_
          refine hk_getf dX9_recoin_53 rfl fl_X9_32 (hm_g0 hk1) rfl ?_
          refine hk_callF dX9_recoin_56 rfl mf_X9_122 (cj_iter hfl (hm_l1 hk1 ok1)) rfl rfl (hm_l1 hk1 ok1) rfl rfl (by decide) ⟨by omega, by omega⟩ (Nat.le_of_ble_eq_true rfl) (hk_kr fun it h1 q1 => ?_) hk_nx
          obtain ⟨hit, rfl⟩ := q1
          have hkI := fun x => (hm_okg (x := x) hk1 hit).1
          have hxI := fun x => (hm_okg (x := x) hk1 hit).2.2
          refine hx_cg (hm_okg hk1 hit).2.1 ?_
          refine hk_astore dX9_recoin_61 rfl (by decide) rfl ?_
          have lp63 : ∀ f j : Nat, ∀ lr : Int32, ∀ lvF : Option Value, j ≤ nc → nc - j < f → hk_W G l 9 yX9_recoin cX9_recoin 6 (some .int) [] (hk_qi fun rv h1 => ml_Q G (A 0) (ml_tr [1, 2, 3] (cd_recoin S c (nI a) mt)) S c nc nb (cs_mn (vN (nI a)) (cs_m mt) nc (hs_rcl (vN (nI a)) (cs_m mt) S nc) (hs_rk S (vN (nI a)) (cs_m mt) nc)) (c) (nc + hs_rk S (vN (nI a)) (cs_m mt) nc) (nb) g (rv = nI (hs_rk S (vN (nI a)) (cs_m mt) nc)) h1) hk_no 180 7430 (hm_h G (hs_rcl a (cs_m mt) S j) M1 A (hk_set g it (hm_it M1 A j lr))) 63 [some (.ref (A 0)), some (.int (nI a)), some (.int mt), some (.int (nI (cs_m mt))), some (.ref it), lvF] [] := by
            intro f
            induction f with
            | zero => intro j lr lvF hj hf; exact absurd hf (by omega)
            | succ f ih =>
              intro j lr lvF hj hf
              have ok0 := ok1
              have hkI0 := hkI
              have okS : ∀ i, i = 7 ∨ i = 8 ∨ i = 25 ∨ i = 26 ∨ i = 30 ∨ i = 31 ∨ i = 32 → (hs_rcl a (cs_m mt) S j).1 i = S.1 i := fun i hi => hs_rcl_ne (by omega) j
              have ok1 := hm_okS ok0 okS
              have hkI := fun x => hm_hkS okS (hkI0 x)
              refine hk_aload dX9_recoin_63 rfl rfl ?_
              refine hk_callF dX9_recoin_65 rfl mf_X9_126 (cj_hasNext hfl (hm_gnd (hkI _) hk_set_eq) (hm_l1 (hkI _) ok1) hj (by omega)) rfl rfl (hm_gnd (hkI _) hk_set_eq) rfl rfl (by decide) ⟨Nat.zero_le _, Nat.zero_le _⟩ (Nat.le_of_ble_eq_true rfl) (hk_ki fun v h1 q => ?_) hk_nx
              obtain ⟨rfl, rfl⟩ := q
              refine cx_ifb_eq (tgt := 145) dX9_recoin_70 (by decide) rfl (fun z70 => ?_) (fun z70 => ?_)
              · skip
                have ej : j = nc := (by have := of_decide_eq_false z70; omega)
                subst ej
                obtain ⟨x1, hx1, ex1⟩ := hO a (cs_m mt) (by omega) hm
                obtain ⟨w1, hw1, hw2, ew1⟩ := hF (cs_m mt) hm
                have h10 : (hs_rcl a (cs_m mt) S j).1 10 (cs_m mt) = nI w1 := by rw [hs_rcl_ne (by decide)]; exact ew1
                have hrk : hs_rk S a (cs_m mt) j = min (x1 / w1) (90 - j) := by unfold hs_rk; rw [ex1, ew1, vN_nI hx1, vN_nI (by omega)]
                have hdv : x1 / w1 ≤ x1 := Nat.div_le_self _ _
                have hmn : min (x1 / w1) (90 - j) ≤ 90 - j := Nat.min_le_right _ _
                refine hk_aload_n dX9_recoin_145 rfl rfl rfl ?_
                refine hk_getf dX9_recoin_146 rfl fl_X9_29 (hm_g0 (hkI _)) rfl ?_
                refine hk_iload_n dX9_recoin_149 rfl rfl rfl ?_
                refine hx_aaldI dX9_recoin_150 rfl (hm_g3 (hkI _)) (show _ < 6 by omega) (by decide) (if_pos (show _ < 6 by omega)) ?_
                refine hk_iload_n dX9_recoin_151 rfl rfl rfl ?_
                refine hx_iald dX9_recoin_152 rfl (hm_g4 (hkI _) (by omega)) (show _ < 2 by omega) (by decide) ?_
                refine cx_top (if_pos (by omega)) ?_
                refine cx_top ex1 ?_
                refine hk_aload_n dX9_recoin_153 rfl rfl rfl ?_
                refine hk_getf dX9_recoin_154 rfl fl_X9_24 (hm_g0 (hkI _)) rfl ?_
                refine hk_iload_n dX9_recoin_157 rfl rfl rfl ?_
                refine hx_iald dX9_recoin_158 rfl (hm_g2 (hkI _)) (show _ < 2 by omega) (by decide) ?_
                refine cx_top h10 ?_
                refine hk_idiv dX9_recoin_159 rfl (nI_ne0 (by omega) (by omega)) ?_
                refine cx_top (nI_div hx1 (by omega)) ?_
                refine hk_bipush (v := nI 90) dX9_recoin_160 rfl (by decide) ?_
                refine hk_aload_n dX9_recoin_162 rfl rfl rfl ?_
                refine hk_getf dX9_recoin_163 rfl fl_X9_32 (hm_g0 (hkI _)) rfl ?_
                refine hk_callF dX9_recoin_166 rfl mf_X9_56 (cj_size hfl (hm_l1 (hkI _) ok1)) rfl rfl (hm_l1 (hkI _) ok1) rfl rfl (by decide) ⟨Nat.zero_le _, Nat.zero_le _⟩ (Nat.le_of_ble_eq_true rfl) (hk_ki fun v h1 q => ?_) hk_nx
                obtain ⟨rfl, rfl⟩ := q
                refine hk_isub dX9_recoin_171 rfl ?_
                refine cx_top (cx_nsub (by omega)) ?_
                refine cx_mmin dX9_recoin_172 rfl ms_X9_136 (by decide) (Nat.le_of_ble_eq_true rfl) ?_
                refine cx_top (cs_min_nI (by omega) (by omega)) ?_
                refine hk_istore dX9_recoin_175 rfl (by decide) rfl ?_
                refine hk_aload_n dX9_recoin_177 rfl rfl rfl ?_
                refine hk_iload_n dX9_recoin_178 rfl rfl rfl ?_
                refine hk_iload_n dX9_recoin_179 rfl rfl rfl ?_
                refine hk_iload dX9_recoin_180 rfl rfl ?_
                have hb1 := hm_bd_le (j + min (x1 / w1) (90 - j)) (90 - (j + min (x1 / w1) (90 - j)))
                rw [show j + min (x1 / w1) (90 - j) + (90 - (j + min (x1 / w1) (90 - j))) = 90 by omega, hm_bd_90] at hb1
                refine hk_callV dX9_recoin_182 rfl mv_X9_99 (cm_mints (k := min (x1 / w1) (90 - j)) hfl (hkI _) ok1 (by omega) hm (by omega) (fun i hi => by rw [hs_rcl_ne (by decide)]; exact h16 i hi)) rfl rfl (hm_g0 (hkI _)) rfl rfl (by decide) ⟨by omega, by omega⟩ (Nat.le_of_ble_eq_true rfl) (hk_kv fun h1 q1 => ?_) hk_nx
                obtain ⟨A2, M2, g2, a1, a2, a3, a4, rfl, a6⟩ := q1
                refine hk_iload dX9_recoin_185 rfl rfl ?_
                exact hk_ireturn rfl (rfl) dX9_recoin_187 (by have ez : cd_recoin S c (nI a) mt = 0 := (by simp [cd_recoin, cs_sq, f6, vaa, f17, f29]); simp only [vaa, hrk]; (try simp only [vaa]); exact ⟨_, rfl, g2, (hxI _).tr a6, Or.inl ⟨by rw [ez]; rfl, rfl, A2, M2, a1, a2.trans e01, a3, a4, rfl⟩⟩)
              · skip
                refine hk_aload dX9_recoin_73 rfl rfl ?_
                have hjn : j < nc := of_decide_eq_true z70
                have hgj := hm_c1g (j := j) ok1 hjn
                refine hk_callF dX9_recoin_75 rfl mf_X9_132 (cj_next hfl (hm_gnd (hkI _) hk_set_eq) (hm_l1 (hkI _) ok1) (hm_r (i := 1) (hkI _) ok1 (by omega) hgj.1) hjn (by rw [← hm_n1 ok1]; exact (hm_cap ok1 hgj.1).1) (Nat.lt_of_le_of_lt (hm_cap ok1 hgj.1).2.2 (by decide)) hgj.2) rfl rfl (hm_gnd (hkI _) hk_set_eq) rfl rfl (by decide) ⟨Nat.zero_le _, Nat.zero_le _⟩ (Nat.le_of_ble_eq_true rfl) (hk_kr fun v h1 q => ?_) hk_nx
                obtain ⟨rfl, rfl⟩ := q
                refine hx_cg (hm_sgI (hkI _)) ?_
                refine hk_castO dX9_recoin_80 rfl (hm_coi (hkI _) ok1 (by omega)) rfl kl_X9_94 ?_
                refine hk_astore dX9_recoin_83 rfl (by decide) rfl ?_
                refine hk_aload dX9_recoin_85 rfl rfl ?_
                refine hk_getf dX9_recoin_87 rfl fl_X9_112 (hm_coi (hkI _) ok1 (by omega)) rfl ?_
                refine hk_iload_n dX9_recoin_90 rfl rfl rfl ?_
                refine hk_icmp_ne (tgt := 63) dX9_recoin_91 (by decide) rfl (fun z91 => ?_) (fun z91 => ?_)
                · skip
                  first | (rw [show hs_rcl a (cs_m mt) S j = hs_rcl a (cs_m mt) S (j + 1) from by rw [hs_rcl_s]; unfold hs_rcs cs_isL; rw [if_neg z91]; rfl]; exact ih (j + 1) (nI j) _ (by omega) (by omega)) | (rw [show hs_rcl a (cs_m mt) S j = hs_rcl a (cs_m mt) S (j + 1) from by rw [hs_rcl_s]; unfold hs_rcs cs_isL; rw [if_pos z91, if_neg z100]; rfl]; exact ih (j + 1) (nI j) _ (by omega) (by omega)) | (rw [show hs_rcl a (cs_m mt) S j = hs_rcl a (cs_m mt) S (j + 1) from by rw [hs_rcl_s]; unfold hs_rcs cs_isL; rw [if_pos z91, if_pos z100, if_neg z108]; rfl]; exact ih (j + 1) (nI j) _ (by omega) (by omega)) | (refine cx_cg (congrArg (fun S0 => hm_h G S0 M1 A _) (show _ = hs_rcl a (cs_m mt) S (j + 1) from by rw [hs_rcl_s]; unfold hs_rcs cs_isL; rw [if_pos z91, if_pos z100, if_pos z108]; rfl)) rfl ?_; exact ih (j + 1) (nI j) _ (by omega) (by omega))
                · skip
                  refine hk_aload dX9_recoin_94 rfl rfl ?_
                  refine hk_getf dX9_recoin_96 rfl fl_X9_115 (hm_coi (hkI _) ok1 (by omega)) rfl ?_
                  refine hk_iload_n dX9_recoin_99 rfl rfl rfl ?_
                  refine hk_icmp_ne (tgt := 63) dX9_recoin_100 (by decide) rfl (fun z100 => ?_) (fun z100 => ?_)
                  · skip
                    first | (rw [show hs_rcl a (cs_m mt) S j = hs_rcl a (cs_m mt) S (j + 1) from by rw [hs_rcl_s]; unfold hs_rcs cs_isL; rw [if_neg z91]; rfl]; exact ih (j + 1) (nI j) _ (by omega) (by omega)) | (rw [show hs_rcl a (cs_m mt) S j = hs_rcl a (cs_m mt) S (j + 1) from by rw [hs_rcl_s]; unfold hs_rcs cs_isL; rw [if_pos z91, if_neg z100]; rfl]; exact ih (j + 1) (nI j) _ (by omega) (by omega)) | (rw [show hs_rcl a (cs_m mt) S j = hs_rcl a (cs_m mt) S (j + 1) from by rw [hs_rcl_s]; unfold hs_rcs cs_isL; rw [if_pos z91, if_pos z100, if_neg z108]; rfl]; exact ih (j + 1) (nI j) _ (by omega) (by omega)) | (refine cx_cg (congrArg (fun S0 => hm_h G S0 M1 A _) (show _ = hs_rcl a (cs_m mt) S (j + 1) from by rw [hs_rcl_s]; unfold hs_rcs cs_isL; rw [if_pos z91, if_pos z100, if_pos z108]; rfl)) rfl ?_; exact ih (j + 1) (nI j) _ (by omega) (by omega))
                  · skip
                    refine hk_aload dX9_recoin_103 rfl rfl ?_
                    refine hk_getf dX9_recoin_105 rfl fl_X9_118 (hm_coi (hkI _) ok1 (by omega)) rfl ?_
                    refine hk_if_eq (tgt := 114) dX9_recoin_108 (by decide) rfl (fun z108 => ?_) (fun z108 => ?_)
                    · skip
                      refine hk_aload_n dX9_recoin_114 rfl rfl rfl ?_
                      refine hk_getf dX9_recoin_115 rfl fl_X9_29 (hm_g0 (hkI _)) rfl ?_
                      refine hk_iload_n dX9_recoin_118 rfl rfl rfl ?_
                      refine hx_aaldI dX9_recoin_119 rfl (hm_g3 (hkI _)) (show _ < 6 by omega) (by decide) (if_pos (show _ < 6 by omega)) ?_
                      refine hk_iload_n dX9_recoin_120 rfl rfl rfl ?_
                      refine hk_dup2 dX9_recoin_121 rfl rfl rfl ?_
                      refine hx_iald dX9_recoin_122 rfl (hm_g4 (hkI _) (by omega)) (show _ < 2 by omega) (by decide) ?_
                      refine cx_top (if_pos (by omega)) ?_
                      refine hk_aload dX9_recoin_123 rfl rfl ?_
                      refine hk_getf dX9_recoin_125 rfl fl_X9_103 (hm_coi (hkI _) ok1 (by omega)) rfl ?_
                      refine hk_iadd dX9_recoin_128 rfl ?_
                      refine hx_iast dX9_recoin_129 rfl (hm_g4 (hkI _) (by omega)) (show _ < 2 by omega) (by decide) ?_
                      refine hx_cg (hm_v12 (hkI _) (by omega) (by omega)) ?_
                      refine hk_aload dX9_recoin_130 rfl rfl ?_
                      refine hk_iconst (v := nI 0) dX9_recoin_132 rfl (by decide) ?_
                      refine hk_putf dX9_recoin_133 rfl (fw_X9_103 rfl) (hm_coi (hkI _) ok1 (by omega)) rfl (rfl) (Nat.lt_of_lt_of_eq (by decide : 2 < 6) rfl) ?_
                      refine hx_cg (hm_v14c (hkI _) (hm_v31lt ok1 (by omega)) (hm_v31le ok1)) ?_
                      refine hk_aload dX9_recoin_136 rfl rfl ?_
                      refine hk_iconst (v := -1) dX9_recoin_138 rfl (by decide) ?_
                      refine hk_putf dX9_recoin_139 rfl (fw_X9_112 rfl) (hm_coi (hkI _) ok1 (by omega)) rfl (rfl) (Nat.lt_of_lt_of_eq (by decide : 3 < 6) rfl) ?_
                      refine hx_cg (hm_v15c (hkI _) (hm_v31lt ok1 (by omega)) (hm_v31le ok1)) ?_
                      refine hk_goto (tgt := 63) dX9_recoin_142 (by decide) ?_
                      first | (rw [show hs_rcl a (cs_m mt) S j = hs_rcl a (cs_m mt) S (j + 1) from by rw [hs_rcl_s]; unfold hs_rcs cs_isL; rw [if_neg z91]; rfl]; exact ih (j + 1) (nI j) _ (by omega) (by omega)) | (rw [show hs_rcl a (cs_m mt) S j = hs_rcl a (cs_m mt) S (j + 1) from by rw [hs_rcl_s]; unfold hs_rcs cs_isL; rw [if_pos z91, if_neg z100]; rfl]; exact ih (j + 1) (nI j) _ (by omega) (by omega)) | (rw [show hs_rcl a (cs_m mt) S j = hs_rcl a (cs_m mt) S (j + 1) from by rw [hs_rcl_s]; unfold hs_rcs cs_isL; rw [if_pos z91, if_pos z100, if_neg z108]; rfl]; exact ih (j + 1) (nI j) _ (by omega) (by omega)) | (refine cx_cg (congrArg (fun S0 => hm_h G S0 M1 A _) (show _ = hs_rcl a (cs_m mt) S (j + 1) from by rw [hs_rcl_s]; unfold hs_rcs cs_isL; rw [if_pos z91, if_pos z100, if_pos z108]; rfl)) rfl ?_; exact ih (j + 1) (nI j) _ (by omega) (by omega))
                    · skip
                      refine hk_goto (tgt := 63) dX9_recoin_111 (by decide) ?_
                      first | (rw [show hs_rcl a (cs_m mt) S j = hs_rcl a (cs_m mt) S (j + 1) from by rw [hs_rcl_s]; unfold hs_rcs cs_isL; rw [if_neg z91]; rfl]; exact ih (j + 1) (nI j) _ (by omega) (by omega)) | (rw [show hs_rcl a (cs_m mt) S j = hs_rcl a (cs_m mt) S (j + 1) from by rw [hs_rcl_s]; unfold hs_rcs cs_isL; rw [if_pos z91, if_neg z100]; rfl]; exact ih (j + 1) (nI j) _ (by omega) (by omega)) | (rw [show hs_rcl a (cs_m mt) S j = hs_rcl a (cs_m mt) S (j + 1) from by rw [hs_rcl_s]; unfold hs_rcs cs_isL; rw [if_pos z91, if_pos z100, if_neg z108]; rfl]; exact ih (j + 1) (nI j) _ (by omega) (by omega)) | (refine cx_cg (congrArg (fun S0 => hm_h G S0 M1 A _) (show _ = hs_rcl a (cs_m mt) S (j + 1) from by rw [hs_rcl_s]; unfold hs_rcs cs_isL; rw [if_pos z91, if_pos z100, if_pos z108]; rfl)) rfl ?_; exact ih (j + 1) (nI j) _ (by omega) (by omega))
          exact lp63 (nc + 1) 0 (-1) _ (by omega) (by omega)
        · exact absurd z40 (by decide)
      · have f29 : cd_O S a = 3 := cd_O_3 (of_decide_eq_true z29)
        refine hk_iconst (v := nI 3) dX9_recoin_32 rfl (by decide) ?_
        refine hk_goto (tgt := 37) dX9_recoin_33 (by decide) ?_
        refine hk_callV dX9_recoin_37 rfl mv_X9_80 (cm_isWrong (k := 3) hfl (by decide) hk) rfl rfl (hm_g0 hk) rfl rfl (by decide) ⟨Nat.zero_le _, Nat.zero_le _⟩ (Nat.le_of_ble_eq_true rfl) (hk_ki fun v h1 q => ?_) hk_nx
        obtain ⟨rfl, rfl⟩ := q
        try rw [hm_mt_mt]
        refine cx_ifb_eq (tgt := 45) dX9_recoin_40 (by decide) rfl (fun z40 => ?_) (fun z40 => ?_)
        · exact absurd z40 (by decide)
        · skip
          refine hk_iconst (v := nI 0) dX9_recoin_43 rfl (by decide) ?_
          exact hk_ireturn rfl (rfl) dX9_recoin_44 (by have e : cd_recoin S c (nI a) mt = 3 := (by simp [cd_recoin, cs_sq, f6, vaa, f17, f29]); exact ⟨_, rfl, g, hm_x.rf, Or.inr ⟨by rw [e]; decide, A, hm_mt M (nI 3), rfl, by rw [e]; exact hm_mt0, ok, hk, rfl⟩⟩)
    · have f17 : cd_M mt = 2 := cd_M_2 (of_decide_eq_false z17)
      refine hk_iconst (v := nI 2) dX9_recoin_20 rfl (by decide) ?_
      refine hk_goto (tgt := 37) dX9_recoin_21 (by decide) ?_
      refine hk_callV dX9_recoin_37 rfl mv_X9_80 (cm_isWrong (k := 2) hfl (by decide) hk) rfl rfl (hm_g0 hk) rfl rfl (by decide) ⟨Nat.zero_le _, Nat.zero_le _⟩ (Nat.le_of_ble_eq_true rfl) (hk_ki fun v h1 q => ?_) hk_nx
      obtain ⟨rfl, rfl⟩ := q
      try rw [hm_mt_mt]
      refine cx_ifb_eq (tgt := 45) dX9_recoin_40 (by decide) rfl (fun z40 => ?_) (fun z40 => ?_)
      · exact absurd z40 (by decide)
      · skip
        refine hk_iconst (v := nI 0) dX9_recoin_43 rfl (by decide) ?_
        exact hk_ireturn rfl (rfl) dX9_recoin_44 (by have e : cd_recoin S c (nI a) mt = 2 := (by simp [cd_recoin, cs_sq, f6, vaa, f17]); exact ⟨_, rfl, g, hm_x.rf, Or.inr ⟨by rw [e]; decide, A, hm_mt M (nI 2), rfl, by rw [e]; exact hm_mt0, ok, hk, rfl⟩⟩)
  · have f6 : cd_H c v = 1 := cd_H_1 (of_decide_eq_false z6)
    refine hk_iconst (v := nI 1) dX9_recoin_9 rfl (by decide) ?_
    refine hk_goto (tgt := 37) dX9_recoin_10 (by decide) ?_
    refine hk_callV dX9_recoin_37 rfl mv_X9_80 (cm_isWrong (k := 1) hfl (by decide) hk) rfl rfl (hm_g0 hk) rfl rfl (by decide) ⟨Nat.zero_le _, Nat.zero_le _⟩ (Nat.le_of_ble_eq_true rfl) (hk_ki fun v h1 q => ?_) hk_nx
    obtain ⟨rfl, rfl⟩ := q
    try rw [hm_mt_mt]
    refine cx_ifb_eq (tgt := 45) dX9_recoin_40 (by decide) rfl (fun z40 => ?_) (fun z40 => ?_)
    · exact absurd z40 (by decide)
    · skip
      refine hk_iconst (v := nI 0) dX9_recoin_43 rfl (by decide) ?_
      exact hk_ireturn rfl (rfl) dX9_recoin_44 (by have e : cd_recoin S c v mt = 1 := (by simp [cd_recoin, cs_sq, f6]); exact ⟨_, rfl, g, hm_x.rf, Or.inr ⟨by rw [e]; decide, A, hm_mt M (nI 1), rfl, by rw [e]; exact hm_mt0, ok, hk, rfl⟩⟩)
end CM8

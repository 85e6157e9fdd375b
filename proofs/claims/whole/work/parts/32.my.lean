section CM12
variable {G : hk_G} {l : Launch} {S : hs_S} {M : hm_M} {A : Nat → Nat} {c nc nb : Nat} {g h : hk_H}
theorem hv_ahd (hC : mi_C S c nc) {j b : Nat} (hj : j < nc) (hb : b < nc) : cs_ahd S j b = (if S.1 14 b < S.1 14 j then true else (if S.1 14 j = S.1 14 b then (if S.1 13 b ≤ S.1 13 j then false else true) else false)) := by
  obtain ⟨m, x, h1, h2, h3, h4, _⟩ := hC j hj
  obtain ⟨m2, x2, k1, k2, k3, k4, _⟩ := hC b hb
  unfold cs_ahd
  rw [h3, h4, k3, k4]
  by_cases e : x = x2
  · subst e
    rw [if_pos rfl, if_neg (nI_nlt (Nat.le_refl _) (by omega)), if_pos rfl]
    have hm : ∀ m, m < 2 → ∀ m2, m2 < 2 → (if nI m = 0 then (if nI m2 = nI 1 then true else false) else false) = (if nI m2 ≤ nI m then false else true) := by decide
    exact hm m h1 m2 k1
  · rw [if_neg (fun q => e ((nI_eq (by omega) (by omega)).mp q)), if_neg (fun q => e ((nI_eq (by omega) (by omega)).mp q))]
    by_cases q : x ≤ x2
    · rw [if_pos (nI_le q (by omega)), if_neg (nI_nlt q (by omega))]
    · rw [if_neg (nI_ge (by omega) (by omega)), if_pos (nI_lt (by omega) (by omega))]
theorem cs_hvs_n {S : hs_S} {a j : Nat} : cs_hvs S a j none = if S.1 15 j = nI a then some j else none := by
  unfold cs_hvs
  rfl
theorem cs_hvs_s {S : hs_S} {a j b : Nat} : cs_hvs S a j (some b) = if S.1 15 j = nI a then (if cs_ahd S j b = true then some j else some b) else some b := by
  unfold cs_hvs
  rfl
theorem cm_heaviest {a : Nat} (hfl : l.stackTraces = false) (hk : ha_ok (hm_D S M) A g) (ok : hm_ok G S M A c nc nb) (hC : mi_C S c nc) (ha : a < 6) : hk_Ctr G l 3 yX9_heaviest cX9_heaviest 6 (some (.object "HarbourmintModel$Coin")) 1 4 [.ref (A 0), .int (nI a)] (hm_h G S M A g) (hk_qo fun rv h1 => rv = (cs_heavy S a nc).map (fun b => A (100 + b)) ∧ ∃ g3 : hk_H, hm_x g g3 ∧ ha_ok (hm_D S M) A g3 ∧ h1 = hm_h G S M A g3) hk_no := by
  have hnc := ok.2.1.2
  refine hk_enter (by decide) hfl (Nat.le_of_ble_eq_true rfl) rfl ?_
  refine hk_null dX9_heaviest_0 rfl ?_
  refine hk_astore_nN dX9_heaviest_1 rfl rfl (by decide) rfl ?_
  refine hk_aload_n dX9_heaviest_2 rfl rfl rfl ?_
  refine hk_getf dX9_heaviest_3 rfl fl_X9_32 (hm_g0 hk) rfl ?_
  refine hk_callF dX9_heaviest_6 rfl mf_X9_122 (cj_iter hfl (hm_l1 hk ok)) rfl rfl (hm_l1 hk ok) rfl rfl (by decide) ⟨by omega, by omega⟩ (Nat.le_of_ble_eq_true rfl) (hk_kr fun it h1 q1 => ?_) hk_nx
  obtain ⟨hit, rfl⟩ := q1
  have hkI := fun x => (hm_okg (x := x) hk hit).1
  have hxI := fun x => (hm_okg (x := x) hk hit).2.2
  refine hx_cg (hm_okg hk hit).2.1 ?_
  refine hk_astore_n dX9_heaviest_11 rfl rfl (by decide) rfl ?_
  have lp12 : ∀ f j : Nat, ∀ lr : Int32, ∀ lvE lvF : Option Value, j ≤ nc → nc - j < f → hk_W G l 3 yX9_heaviest cX9_heaviest 6 (some (.object "HarbourmintModel$Coin")) [] (hk_qo fun rv h1 => rv = (cs_heavy S a nc).map (fun b => A (100 + b)) ∧ ∃ g3 : hk_H, hm_x g g3 ∧ ha_ok (hm_D S M) A g3 ∧ h1 = hm_h G S M A g3) hk_no 0 0 (hm_h G S M A (hk_set g it (hm_it M A j lr))) 12 [some (.ref (A 0)), some (.int (nI a)), some (va_rf ((cs_heavy S a j).map (fun b => A (100 + b)))), some (.ref it), lvE, lvF] [] := by
    intro f
    induction f with
    | zero => intro j lr lvE lvF hj hf; exact absurd hf (by omega)
    | succ f ih =>
      intro j lr lvE lvF hj hf
      rcases hb : cs_heavy S a j with _ | b
      · skip
        refine hk_aload_n dX9_heaviest_12 rfl rfl rfl ?_
        refine hk_callF dX9_heaviest_13 rfl mf_X9_126 (cj_hasNext hfl (hm_gnd (hkI _) hk_set_eq) (hm_l1 (hkI _) ok) hj (by omega)) rfl rfl (hm_gnd (hkI _) hk_set_eq) rfl rfl (by decide) ⟨Nat.zero_le _, Nat.zero_le _⟩ (Nat.le_of_ble_eq_true rfl) (hk_ki fun v h1 q => ?_) hk_nx
        obtain ⟨rfl, rfl⟩ := q
        refine cx_ifb_eq (tgt := 99) dX9_heaviest_18 (by decide) rfl (fun z18 => ?_) (fun z18 => ?_)
        · skip
          refine hk_aload_nN dX9_heaviest_99 rfl rfl rfl ?_
          exact hk_areturn rfl (Or.inl ⟨_, rfl⟩) ((by first | exact Or.inl rfl | exact Or.inr ⟨_, rfl⟩)) dX9_heaviest_100 (by have ej : j = nc := (by have := of_decide_eq_false z18; omega); rw [ej] at hb; first | exact ⟨none, rfl, by rw [hb]; rfl, _, hxI _, hkI _, rfl⟩ | exact ⟨some (A (100 + b)), rfl, by rw [hb]; rfl, _, hxI _, hkI _, rfl⟩)
        · skip
          refine hk_aload_n dX9_heaviest_21 rfl rfl rfl ?_
          have hjn : j < nc := of_decide_eq_true z18
          have hgj := hm_c1g (j := j) ok hjn
          refine hk_callF dX9_heaviest_22 rfl mf_X9_132 (cj_next hfl (hm_gnd (hkI _) hk_set_eq) (hm_l1 (hkI _) ok) (hm_r (i := 1) (hkI _) ok (by omega) hgj.1) hjn (by rw [← hm_n1 ok]; exact (hm_cap ok hgj.1).1) (Nat.lt_of_le_of_lt (hm_cap ok hgj.1).2.2 (by decide)) hgj.2) rfl rfl (hm_gnd (hkI _) hk_set_eq) rfl rfl (by decide) ⟨Nat.zero_le _, Nat.zero_le _⟩ (Nat.le_of_ble_eq_true rfl) (hk_kr fun v h1 q => ?_) hk_nx
          obtain ⟨rfl, rfl⟩ := q
          refine hx_cg (hm_sgI (hkI _)) ?_
          refine hk_castO dX9_heaviest_27 rfl (hm_coi (hkI _) ok (by omega)) rfl kl_X9_94 ?_
          refine hk_astore dX9_heaviest_30 rfl (by decide) rfl ?_
          refine hk_aload_nN dX9_heaviest_32 rfl rfl rfl ?_
          refine hk_ifnull_t (tgt := 72) dX9_heaviest_33 (by decide) ?_
          refine hk_iconst (v := nI 1) dX9_heaviest_72 rfl (by decide) ?_
          refine hk_goto (tgt := 77) dX9_heaviest_73 (by decide) ?_
          refine hk_istore dX9_heaviest_77 rfl (by decide) rfl ?_
          refine hk_aload dX9_heaviest_79 rfl rfl ?_
          refine hk_getf dX9_heaviest_81 rfl fl_X9_112 (hm_coi (hkI _) ok (by omega)) rfl ?_
          refine hk_iload_n dX9_heaviest_84 rfl rfl rfl ?_
          refine hk_icmp_ne (tgt := 96) dX9_heaviest_85 (by decide) rfl (fun z85 => ?_) (fun z85 => ?_)
          · skip
            refine hk_goto (tgt := 12) dX9_heaviest_96 (by decide) ?_
            have ihx := fun lvX lvY => ih (j + 1) (nI j) lvX lvY (by omega) (by omega)
            first | (have e1 : cs_heavy S a (j + 1) = some j := (by rw [cs_heavy_s, hb, cs_hvs_n, if_pos z85]); rw [e1] at ihx; exact ihx _ _) | (have e1 : cs_heavy S a (j + 1) = none := (by rw [cs_heavy_s, hb, cs_hvs_n, if_neg z85]); rw [e1] at ihx; exact ihx _ _) | (have e1 : cs_heavy S a (j + 1) = some j := (by rw [cs_heavy_s, hb, cs_hvs_s, if_pos z85, hv_ahd hC hjn (by omega), if_pos z45, if_pos rfl]); rw [e1] at ihx; exact ihx _ _) | (have e1 : cs_heavy S a (j + 1) = some b := (by rw [cs_heavy_s, hb, cs_hvs_s, if_pos z85, hv_ahd hC hjn (by omega), if_neg z45, if_neg z57, if_neg (by decide)]); rw [e1] at ihx; exact ihx _ _) | (have e1 : cs_heavy S a (j + 1) = some b := (by rw [cs_heavy_s, hb, cs_hvs_s, if_pos z85, hv_ahd hC hjn (by omega), if_neg z45, if_pos z57, if_pos z69, if_neg (by decide)]); rw [e1] at ihx; exact ihx _ _) | (have e1 : cs_heavy S a (j + 1) = some j := (by rw [cs_heavy_s, hb, cs_hvs_s, if_pos z85, hv_ahd hC hjn (by omega), if_neg z45, if_pos z57, if_neg z69, if_pos rfl]); rw [e1] at ihx; exact ihx _ _) | (have e1 : cs_heavy S a (j + 1) = some b := (by rw [cs_heavy_s, hb, cs_hvs_s, if_neg z85]); rw [e1] at ihx; exact ihx _ _)
          · skip
            refine hk_iload dX9_heaviest_88 rfl rfl ?_
            refine cx_ifn_eq (tgt := 96) (by omega) dX9_heaviest_90 (by decide) rfl (fun z90 => ?_) (fun z90 => ?_)
            · exact absurd z90 (by decide)
            · skip
              refine hk_aload dX9_heaviest_93 rfl rfl ?_
              refine hk_astore_n dX9_heaviest_95 rfl rfl (by decide) rfl ?_
              refine hk_goto (tgt := 12) dX9_heaviest_96 (by decide) ?_
              have ihx := fun lvX lvY => ih (j + 1) (nI j) lvX lvY (by omega) (by omega)
              first | (have e1 : cs_heavy S a (j + 1) = some j := (by rw [cs_heavy_s, hb, cs_hvs_n, if_pos z85]); rw [e1] at ihx; exact ihx _ _) | (have e1 : cs_heavy S a (j + 1) = none := (by rw [cs_heavy_s, hb, cs_hvs_n, if_neg z85]); rw [e1] at ihx; exact ihx _ _) | (have e1 : cs_heavy S a (j + 1) = some j := (by rw [cs_heavy_s, hb, cs_hvs_s, if_pos z85, hv_ahd hC hjn (by omega), if_pos z45, if_pos rfl]); rw [e1] at ihx; exact ihx _ _) | (have e1 : cs_heavy S a (j + 1) = some b := (by rw [cs_heavy_s, hb, cs_hvs_s, if_pos z85, hv_ahd hC hjn (by omega), if_neg z45, if_neg z57, if_neg (by decide)]); rw [e1] at ihx; exact ihx _ _) | (have e1 : cs_heavy S a (j + 1) = some b := (by rw [cs_heavy_s, hb, cs_hvs_s, if_pos z85, hv_ahd hC hjn (by omega), if_neg z45, if_pos z57, if_pos z69, if_neg (by decide)]); rw [e1] at ihx; exact ihx _ _) | (have e1 : cs_heavy S a (j + 1) = some j := (by rw [cs_heavy_s, hb, cs_hvs_s, if_pos z85, hv_ahd hC hjn (by omega), if_neg z45, if_pos z57, if_neg z69, if_pos rfl]); rw [e1] at ihx; exact ihx _ _) | (have e1 : cs_heavy S a (j + 1) = some b := (by rw [cs_heavy_s, hb, cs_hvs_s, if_neg z85]); rw [e1] at ihx; exact ihx _ _)
      · have hbj := (cs_heavy_lt hb).1
        refine hk_aload_n dX9_heaviest_12 rfl rfl rfl ?_
        refine hk_callF dX9_heaviest_13 rfl mf_X9_126 (cj_hasNext hfl (hm_gnd (hkI _) hk_set_eq) (hm_l1 (hkI _) ok) hj (by omega)) rfl rfl (hm_gnd (hkI _) hk_set_eq) rfl rfl (by decide) ⟨Nat.zero_le _, Nat.zero_le _⟩ (Nat.le_of_ble_eq_true rfl) (hk_ki fun v h1 q => ?_) hk_nx
        obtain ⟨rfl, rfl⟩ := q
        refine cx_ifb_eq (tgt := 99) dX9_heaviest_18 (by decide) rfl (fun z18 => ?_) (fun z18 => ?_)
        · skip
          refine hk_aload_n dX9_heaviest_99 rfl rfl rfl ?_
          exact hk_areturn rfl (Or.inl ⟨_, rfl⟩) ((by first | exact Or.inl rfl | exact Or.inr ⟨_, rfl⟩)) dX9_heaviest_100 (by have ej : j = nc := (by have := of_decide_eq_false z18; omega); rw [ej] at hb; first | exact ⟨none, rfl, by rw [hb]; rfl, _, hxI _, hkI _, rfl⟩ | exact ⟨some (A (100 + b)), rfl, by rw [hb]; rfl, _, hxI _, hkI _, rfl⟩)
        · skip
          refine hk_aload_n dX9_heaviest_21 rfl rfl rfl ?_
          have hjn : j < nc := of_decide_eq_true z18
          have hgj := hm_c1g (j := j) ok hjn
          refine hk_callF dX9_heaviest_22 rfl mf_X9_132 (cj_next hfl (hm_gnd (hkI _) hk_set_eq) (hm_l1 (hkI _) ok) (hm_r (i := 1) (hkI _) ok (by omega) hgj.1) hjn (by rw [← hm_n1 ok]; exact (hm_cap ok hgj.1).1) (Nat.lt_of_le_of_lt (hm_cap ok hgj.1).2.2 (by decide)) hgj.2) rfl rfl (hm_gnd (hkI _) hk_set_eq) rfl rfl (by decide) ⟨Nat.zero_le _, Nat.zero_le _⟩ (Nat.le_of_ble_eq_true rfl) (hk_kr fun v h1 q => ?_) hk_nx
          obtain ⟨rfl, rfl⟩ := q
          refine hx_cg (hm_sgI (hkI _)) ?_
          refine hk_castO dX9_heaviest_27 rfl (hm_coi (hkI _) ok (by omega)) rfl kl_X9_94 ?_
          refine hk_astore dX9_heaviest_30 rfl (by decide) rfl ?_
          refine hk_aload_n dX9_heaviest_32 rfl rfl rfl ?_
          refine hk_ifnull_f dX9_heaviest_33 rfl ?_
          refine hk_aload dX9_heaviest_36 rfl rfl ?_
          refine hk_getf dX9_heaviest_38 rfl fl_X9_103 (hm_coi (hkI _) ok (by omega)) rfl ?_
          refine hk_aload_n dX9_heaviest_41 rfl rfl rfl ?_
          refine hk_getf dX9_heaviest_42 rfl fl_X9_103 (hm_coi (hkI _) ok (by omega)) rfl ?_
          refine hk_icmp_gt (tgt := 72) dX9_heaviest_45 (by decide) rfl (fun z45 => ?_) (fun z45 => ?_)
          · skip
            refine hk_iconst (v := nI 1) dX9_heaviest_72 rfl (by decide) ?_
            refine hk_goto (tgt := 77) dX9_heaviest_73 (by decide) ?_
            refine hk_istore dX9_heaviest_77 rfl (by decide) rfl ?_
            refine hk_aload dX9_heaviest_79 rfl rfl ?_
            refine hk_getf dX9_heaviest_81 rfl fl_X9_112 (hm_coi (hkI _) ok (by omega)) rfl ?_
            refine hk_iload_n dX9_heaviest_84 rfl rfl rfl ?_
            refine hk_icmp_ne (tgt := 96) dX9_heaviest_85 (by decide) rfl (fun z85 => ?_) (fun z85 => ?_)
            · skip
              refine hk_goto (tgt := 12) dX9_heaviest_96 (by decide) ?_
              have ihx := fun lvX lvY => ih (j + 1) (nI j) lvX lvY (by omega) (by omega)
              first | (have e1 : cs_heavy S a (j + 1) = some j := (by rw [cs_heavy_s, hb, cs_hvs_n, if_pos z85]); rw [e1] at ihx; exact ihx _ _) | (have e1 : cs_heavy S a (j + 1) = none := (by rw [cs_heavy_s, hb, cs_hvs_n, if_neg z85]); rw [e1] at ihx; exact ihx _ _) | (have e1 : cs_heavy S a (j + 1) = some j := (by rw [cs_heavy_s, hb, cs_hvs_s, if_pos z85, hv_ahd hC hjn (by omega), if_pos z45, if_pos rfl]); rw [e1] at ihx; exact ihx _ _) | (have e1 : cs_heavy S a (j + 1) = some b := (by rw [cs_heavy_s, hb, cs_hvs_s, if_pos z85, hv_ahd hC hjn (by omega), if_neg z45, if_neg z57, if_neg (by decide)]); rw [e1] at ihx; exact ihx _ _) | (have e1 : cs_heavy S a (j + 1) = some b := (by rw [cs_heavy_s, hb, cs_hvs_s, if_pos z85, hv_ahd hC hjn (by omega), if_neg z45, if_pos z57, if_pos z69, if_neg (by decide)]); rw [e1] at ihx; exact ihx _ _) | (have e1 : cs_heavy S a (j + 1) = some j := (by rw [cs_heavy_s, hb, cs_hvs_s, if_pos z85, hv_ahd hC hjn (by omega), if_neg z45, if_pos z57, if_neg z69, if_pos rfl]); rw [e1] at ihx; exact ihx _ _) | (have e1 : cs_heavy S a (j + 1) = some b := (by rw [cs_heavy_s, hb, cs_hvs_s, if_neg z85]); rw [e1] at ihx; exact ihx _ _)
            · skip
              refine hk_iload dX9_heaviest_88 rfl rfl ?_
              refine cx_ifn_eq (tgt := 96) (by omega) dX9_heaviest_90 (by decide) rfl (fun z90 => ?_) (fun z90 => ?_)
              · exact absurd z90 (by decide)
              · skip
                refine hk_aload dX9_heaviest_93 rfl rfl ?_
                refine hk_astore_n dX9_heaviest_95 rfl rfl (by decide) rfl ?_
                refine hk_goto (tgt := 12) dX9_heaviest_96 (by decide) ?_
                have ihx := fun lvX lvY => ih (j + 1) (nI j) lvX lvY (by omega) (by omega)
                first | (have e1 : cs_heavy S a (j + 1) = some j := (by rw [cs_heavy_s, hb, cs_hvs_n, if_pos z85]); rw [e1] at ihx; exact ihx _ _) | (have e1 : cs_heavy S a (j + 1) = none := (by rw [cs_heavy_s, hb, cs_hvs_n, if_neg z85]); rw [e1] at ihx; exact ihx _ _) | (have e1 : cs_heavy S a (j + 1) = some j := (by rw [cs_heavy_s, hb, cs_hvs_s, if_pos z85, hv_ahd hC hjn (by omega), if_pos z45, if_pos rfl]); rw [e1] at ihx; exact ihx _ _) | (have e1 : cs_heavy S a (j + 1) = some b := (by rw [cs_heavy_s, hb, cs_hvs_s, if_pos z85, hv_ahd hC hjn (by omega), if_neg z45, if_neg z57, if_neg (by decide)]); rw [e1] at ihx; exact ihx _ _) | (have e1 : cs_heavy S a (j + 1) = some b := (by rw [cs_heavy_s, hb, cs_hvs_s, if_pos z85, hv_ahd hC hjn (by omega), if_neg z45, if_pos z57, if_pos z69, if_neg (by decide)]); rw [e1] at ihx; exact ihx _ _) | (have e1 : cs_heavy S a (j + 1) = some j := (by rw [cs_heavy_s, hb, cs_hvs_s, if_pos z85, hv_ahd hC hjn (by omega), if_neg z45, if_pos z57, if_neg z69, if_pos rfl]); rw [e1] at ihx; exact ihx _ _) | (have e1 : cs_heavy S a (j + 1) = some b := (by rw [cs_heavy_s, hb, cs_hvs_s, if_neg z85]); rw [e1] at ihx; exact ihx _ _)
          · skip
            refine hk_aload dX9_heaviest_48 rfl rfl ?_
            refine hk_getf dX9_heaviest_50 rfl fl_X9_103 (hm_coi (hkI _) ok (by omega)) rfl ?_
            refine hk_aload_n dX9_heaviest_53 rfl rfl rfl ?_
            refine hk_getf dX9_heaviest_54 rfl fl_X9_103 (hm_coi (hkI _) ok (by omega)) rfl ?_
            refine hk_icmp_ne (tgt := 76) dX9_heaviest_57 (by decide) rfl (fun z57 => ?_) (fun z57 => ?_)
            · skip
              refine hk_iconst (v := nI 0) dX9_heaviest_76 rfl (by decide) ?_
              refine hk_istore dX9_heaviest_77 rfl (by decide) rfl ?_
              refine hk_aload dX9_heaviest_79 rfl rfl ?_
              refine hk_getf dX9_heaviest_81 rfl fl_X9_112 (hm_coi (hkI _) ok (by omega)) rfl ?_
              refine hk_iload_n dX9_heaviest_84 rfl rfl rfl ?_
              refine hk_icmp_ne (tgt := 96) dX9_heaviest_85 (by decide) rfl (fun z85 => ?_) (fun z85 => ?_)
              · skip
                refine hk_goto (tgt := 12) dX9_heaviest_96 (by decide) ?_
                have ihx := fun lvX lvY => ih (j + 1) (nI j) lvX lvY (by omega) (by omega)
                first | (have e1 : cs_heavy S a (j + 1) = some j := (by rw [cs_heavy_s, hb, cs_hvs_n, if_pos z85]); rw [e1] at ihx; exact ihx _ _) | (have e1 : cs_heavy S a (j + 1) = none := (by rw [cs_heavy_s, hb, cs_hvs_n, if_neg z85]); rw [e1] at ihx; exact ihx _ _) | (have e1 : cs_heavy S a (j + 1) = some j := (by rw [cs_heavy_s, hb, cs_hvs_s, if_pos z85, hv_ahd hC hjn (by omega), if_pos z45, if_pos rfl]); rw [e1] at ihx; exact ihx _ _) | (have e1 : cs_heavy S a (j + 1) = some b := (by rw [cs_heavy_s, hb, cs_hvs_s, if_pos z85, hv_ahd hC hjn (by omega), if_neg z45, if_neg z57, if_neg (by decide)]); rw [e1] at ihx; exact ihx _ _) | (have e1 : cs_heavy S a (j + 1) = some b := (by rw [cs_heavy_s, hb, cs_hvs_s, if_pos z85, hv_ahd hC hjn (by omega), if_neg z45, if_pos z57, if_pos z69, if_neg (by decide)]); rw [e1] at ihx; exact ihx _ _) | (have e1 : cs_heavy S a (j + 1) = some j := (by rw [cs_heavy_s, hb, cs_hvs_s, if_pos z85, hv_ahd hC hjn (by omega), if_neg z45, if_pos z57, if_neg z69, if_pos rfl]); rw [e1] at ihx; exact ihx _ _) | (have e1 : cs_heavy S a (j + 1) = some b := (by rw [cs_heavy_s, hb, cs_hvs_s, if_neg z85]); rw [e1] at ihx; exact ihx _ _)
              · skip
                refine hk_iload dX9_heaviest_88 rfl rfl ?_
                refine cx_ifn_eq (tgt := 96) (by omega) dX9_heaviest_90 (by decide) rfl (fun z90 => ?_) (fun z90 => ?_)
                · skip
                  refine hk_goto (tgt := 12) dX9_heaviest_96 (by decide) ?_
                  have ihx := fun lvX lvY => ih (j + 1) (nI j) lvX lvY (by omega) (by omega)
                  first | (have e1 : cs_heavy S a (j + 1) = some j := (by rw [cs_heavy_s, hb, cs_hvs_n, if_pos z85]); rw [e1] at ihx; exact ihx _ _) | (have e1 : cs_heavy S a (j + 1) = none := (by rw [cs_heavy_s, hb, cs_hvs_n, if_neg z85]); rw [e1] at ihx; exact ihx _ _) | (have e1 : cs_heavy S a (j + 1) = some j := (by rw [cs_heavy_s, hb, cs_hvs_s, if_pos z85, hv_ahd hC hjn (by omega), if_pos z45, if_pos rfl]); rw [e1] at ihx; exact ihx _ _) | (have e1 : cs_heavy S a (j + 1) = some b := (by rw [cs_heavy_s, hb, cs_hvs_s, if_pos z85, hv_ahd hC hjn (by omega), if_neg z45, if_neg z57, if_neg (by decide)]); rw [e1] at ihx; exact ihx _ _) | (have e1 : cs_heavy S a (j + 1) = some b := (by rw [cs_heavy_s, hb, cs_hvs_s, if_pos z85, hv_ahd hC hjn (by omega), if_neg z45, if_pos z57, if_pos z69, if_neg (by decide)]); rw [e1] at ihx; exact ihx _ _) | (have e1 : cs_heavy S a (j + 1) = some j := (by rw [cs_heavy_s, hb, cs_hvs_s, if_pos z85, hv_ahd hC hjn (by omega), if_neg z45, if_pos z57, if_neg z69, if_pos rfl]); rw [e1] at ihx; exact ihx _ _) | (have e1 : cs_heavy S a (j + 1) = some b := (by rw [cs_heavy_s, hb, cs_hvs_s, if_neg z85]); rw [e1] at ihx; exact ihx _ _)
                · exact absurd z90 (by decide)
            · skip
              refine hk_aload dX9_heaviest_60 rfl rfl ?_
              refine hk_getf dX9_heaviest_62 rfl fl_X9_115 (hm_coi (hkI _) ok (by omega)) rfl ?_
              refine hk_aload_n dX9_heaviest_65 rfl rfl rfl ?_
              refine hk_getf dX9_heaviest_66 rfl fl_X9_115 (hm_coi (hkI _) ok (by omega)) rfl ?_
              refine hk_icmp_ge (tgt := 76) dX9_heaviest_69 (by decide) rfl (fun z69 => ?_) (fun z69 => ?_)
              · skip
                refine hk_iconst (v := nI 0) dX9_heaviest_76 rfl (by decide) ?_
                refine hk_istore dX9_heaviest_77 rfl (by decide) rfl ?_
                refine hk_aload dX9_heaviest_79 rfl rfl ?_
                refine hk_getf dX9_heaviest_81 rfl fl_X9_112 (hm_coi (hkI _) ok (by omega)) rfl ?_
                refine hk_iload_n dX9_heaviest_84 rfl rfl rfl ?_
                refine hk_icmp_ne (tgt := 96) dX9_heaviest_85 (by decide) rfl (fun z85 => ?_) (fun z85 => ?_)
                · skip
                  refine hk_goto (tgt := 12) dX9_heaviest_96 (by decide) ?_
                  have ihx := fun lvX lvY => ih (j + 1) (nI j) lvX lvY (by omega) (by omega)
                  first | (have e1 : cs_heavy S a (j + 1) = some j := (by rw [cs_heavy_s, hb, cs_hvs_n, if_pos z85]); rw [e1] at ihx; exact ihx _ _) | (have e1 : cs_heavy S a (j + 1) = none := (by rw [cs_heavy_s, hb, cs_hvs_n, if_neg z85]); rw [e1] at ihx; exact ihx _ _) | (have e1 : cs_heavy S a (j + 1) = some j := (by rw [cs_heavy_s, hb, cs_hvs_s, if_pos z85, hv_ahd hC hjn (by omega), if_pos z45, if_pos rfl]); rw [e1] at ihx; exact ihx _ _) | (have e1 : cs_heavy S a (j + 1) = some b := (by rw [cs_heavy_s, hb, cs_hvs_s, if_pos z85, hv_ahd hC hjn (by omega), if_neg z45, if_neg z57, if_neg (by decide)]); rw [e1] at ihx; exact ihx _ _) | (have e1 : cs_heavy S a (j + 1) = some b := (by rw [cs_heavy_s, hb, cs_hvs_s, if_pos z85, hv_ahd hC hjn (by omega), if_neg z45, if_pos z57, if_pos z69, if_neg (by decide)]); rw [e1] at ihx; exact ihx _ _) | (have e1 : cs_heavy S a (j + 1) = some j := (by rw [cs_heavy_s, hb, cs_hvs_s, if_pos z85, hv_ahd hC hjn (by omega), if_neg z45, if_pos z57, if_neg z69, if_pos rfl]); rw [e1] at ihx; exact ihx _ _) | (have e1 : cs_heavy S a (j + 1) = some b := (by rw [cs_heavy_s, hb, cs_hvs_s, if_neg z85]); rw [e1] at ihx; exact ihx _ _)
                · skip
                  refine hk_iload dX9_heaviest_88 rfl rfl ?_
                  refine cx_ifn_eq (tgt := 96) (by omega) dX9_heaviest_90 (by decide) rfl (fun z90 => ?_) (fun z90 => ?_)
                  · skip
                    refine hk_goto (tgt := 12) dX9_heaviest_96 (by decide) ?_
                    have ihx := fun lvX lvY => ih (j + 1) (nI j) lvX lvY (by omega) (by omega)
                    first | (have e1 : cs_heavy S a (j + 1) = some j := (by rw [cs_heavy_s, hb, cs_hvs_n, if_pos z85]); rw [e1] at ihx; exact ihx _ _) | (have e1 : cs_heavy S a (j + 1) = none := (by rw [cs_heavy_s, hb, cs_hvs_n, if_neg z85]); rw [e1] at ihx; exact ihx _ _) | (have e1 : cs_heavy S a (j + 1) = some j := (by rw [cs_heavy_s, hb, cs_hvs_s, if_pos z85, hv_ahd hC hjn (by omega), if_pos z45, if_pos rfl]); rw [e1] at ihx; exact ihx _ _) | (have e1 : cs_heavy S a (j + 1) = some b := (by rw [cs_heavy_s, hb, cs_hvs_s, if_pos z85, hv_ahd hC hjn (by omega), if_neg z45, if_neg z57, if_neg (by decide)]); rw [e1] at ihx; exact ihx _ _) | (have e1 : cs_heavy S a (j + 1) = some b := (by rw [cs_heavy_s, hb, cs_hvs_s, if_pos z85, hv_ahd hC hjn (by omega), if_neg z45, if_pos z57, if_pos z69, if_neg (by decide)]); rw [e1] at ihx; exact ihx _ _) | (have e1 : cs_heavy S a (j + 1) = some j := (by rw [cs_heavy_s, hb, cs_hvs_s, if_pos z85, hv_ahd hC hjn (by omega), if_neg z45, if_pos z57, if_neg z69, if_pos rfl]); rw [e1] at ihx; exact ihx _ _) | (have e1 : cs_heavy S a (j + 1) = some b := (by rw [cs_heavy_s, hb, cs_hvs_s, if_neg z85]); rw [e1] at ihx; exact ihx _ _)
                  · exact absurd z90 (by decide)
              · skip
                refine hk_iconst (v := nI 1) dX9_heaviest_72 rfl (by decide) ?_
                refine hk_goto (tgt := 77) dX9_heaviest_73 (by decide) ?_
                refine hk_istore dX9_heaviest_77 rfl (by decide) rfl ?_
                refine hk_aload dX9_heaviest_79 rfl rfl ?_
                refine hk_getf dX9_heaviest_81 rfl fl_X9_112 (hm_coi (hkI _) ok (by omega)) rfl ?_
                refine hk_iload_n dX9_heaviest_84 rfl rfl rfl ?_
                refine hk_icmp_ne (tgt := 96) dX9_heaviest_85 (by decide) rfl (fun z85 => ?_) (fun z85 => ?_)
                · skip
                  refine hk_goto (tgt := 12) dX9_heaviest_96 (by decide) ?_
                  have ihx := fun lvX lvY => ih (j + 1) (nI j) lvX lvY (by omega) (by omega)
                  first | (have e1 : cs_heavy S a (j + 1) = some j := (by rw [cs_heavy_s, hb, cs_hvs_n, if_pos z85]); rw [e1] at ihx; exact ihx _ _) | (have e1 : cs_heavy S a (j + 1) = none := (by rw [cs_heavy_s, hb, cs_hvs_n, if_neg z85]); rw [e1] at ihx; exact ihx _ _) | (have e1 : cs_heavy S a (j + 1) = some j := (by rw [cs_heavy_s, hb, cs_hvs_s, if_pos z85, hv_ahd hC hjn (by omega), if_pos z45, if_pos rfl]); rw [e1] at ihx; exact ihx _ _) | (have e1 : cs_heavy S a (j + 1) = some b := (by rw [cs_heavy_s, hb, cs_hvs_s, if_pos z85, hv_ahd hC hjn (by omega), if_neg z45, if_neg z57, if_neg (by decide)]); rw [e1] at ihx; exact ihx _ _) | (have e1 : cs_heavy S a (j + 1) = some b := (by rw [cs_heavy_s, hb, cs_hvs_s, if_pos z85, hv_ahd hC hjn (by omega), if_neg z45, if_pos z57, if_pos z69, if_neg (by decide)]); rw [e1] at ihx; exact ihx _ _) | (have e1 : cs_heavy S a (j + 1) = some j := (by rw [cs_heavy_s, hb, cs_hvs_s, if_pos z85, hv_ahd hC hjn (by omega), if_neg z45, if_pos z57, if_neg z69, if_pos rfl]); rw [e1] at ihx; exact ihx _ _) | (have e1 : cs_heavy S a (j + 1) = some b := (by rw [cs_heavy_s, hb, cs_hvs_s, if_neg z85]); rw [e1] at ihx; exact ihx _ _)
                · skip
                  refine hk_iload dX9_heaviest_88 rfl rfl ?_
                  refine cx_ifn_eq (tgt := 96) (by omega) dX9_heaviest_90 (by decide) rfl (fun z90 => ?_) (fun z90 => ?_)
                  · exact absurd z90 (by decide)
                  · skip
                    refine hk_aload dX9_heaviest_93 rfl rfl ?_
                    refine hk_astore_n dX9_heaviest_95 rfl rfl (by decide) rfl ?_
                    refine hk_goto (tgt := 12) dX9_heaviest_96 (by decide) ?_
                    have ihx := fun lvX lvY => ih (j + 1) (nI j) lvX lvY (by omega) (by omega)
                    first | (have e1 : cs_heavy S a (j + 1) = some j := (by rw [cs_heavy_s, hb, cs_hvs_n, if_pos z85]); rw [e1] at ihx; exact ihx _ _) | (have e1 : cs_heavy S a (j + 1) = none := (by rw [cs_heavy_s, hb, cs_hvs_n, if_neg z85]); rw [e1] at ihx; exact ihx _ _) | (have e1 : cs_heavy S a (j + 1) = some j := (by rw [cs_heavy_s, hb, cs_hvs_s, if_pos z85, hv_ahd hC hjn (by omega), if_pos z45, if_pos rfl]); rw [e1] at ihx; exact ihx _ _) | (have e1 : cs_heavy S a (j + 1) = some b := (by rw [cs_heavy_s, hb, cs_hvs_s, if_pos z85, hv_ahd hC hjn (by omega), if_neg z45, if_neg z57, if_neg (by decide)]); rw [e1] at ihx; exact ihx _ _) | (have e1 : cs_heavy S a (j + 1) = some b := (by rw [cs_heavy_s, hb, cs_hvs_s, if_pos z85, hv_ahd hC hjn (by omega), if_neg z45, if_pos z57, if_pos z69, if_neg (by decide)]); rw [e1] at ihx; exact ihx _ _) | (have e1 : cs_heavy S a (j + 1) = some j := (by rw [cs_heavy_s, hb, cs_hvs_s, if_pos z85, hv_ahd hC hjn (by omega), if_neg z45, if_pos z57, if_neg z69, if_pos rfl]); rw [e1] at ihx; exact ihx _ _) | (have e1 : cs_heavy S a (j + 1) = some b := (by rw [cs_heavy_s, hb, cs_hvs_s, if_neg z85]); rw [e1] at ihx; exact ihx _ _)
  exact lp12 (nc + 1) 0 (-1) none none (by omega) (by omega)
theorem cs_gc_inv {S : hs_S} {a : Nat} : ∀ n, ((cs_gc S a n).1 = none → (cs_gc S a n).2 = nI 0) ∧ (∀ b, (cs_gc S a n).1 = some b → (cs_gc S a n).2 = S.1 19 (b * 6 + a) ∧ nI 0 < (cs_gc S a n).2)
  | 0 => ⟨fun _ => rfl, fun b h => by cases h⟩
  | n + 1 => by
    obtain ⟨h1, h2⟩ := cs_gc_inv (S := S) (a := a) n
    rw [cs_gc_s]
    unfold cs_gcs
    split
    · exact ⟨h1, h2⟩
    · rename_i hle
      refine ⟨fun h => (by cases h), fun b h => ?_⟩
      cases h
      refine ⟨rfl, ?_⟩
      cases hq : (cs_gc S a n).1 with
      | none => rw [h1 hq] at hle; exact Int32.not_le.mp hle
      | some b => exact Int32.lt_trans (h2 b hq).2 (Int32.not_le.mp hle)
theorem cs_gcs_up {S : hs_S} {a j : Nat} {q : Option Nat × Int32} (h : ¬ S.1 19 (j * 6 + a) ≤ q.2) : cs_gcs S a j q = (some j, S.1 19 (j * 6 + a)) := if_neg h
theorem cs_gcs_st {S : hs_S} {a j : Nat} {q : Option Nat × Int32} (h : S.1 19 (j * 6 + a) ≤ q.2) : cs_gcs S a j q = q := if_pos h
theorem cm_greatest {a : Nat} (hfl : l.stackTraces = false) (hk : ha_ok (hm_D S M) A g) (ok : hm_ok G S M A c nc nb) (ha : a < 6) : hk_Ctr G l 3 yX9_greatest cX9_greatest 4 (some .int) 0 0 [.ref (A 0), .int (nI a)] (hm_h G S M A g) (hk_qi fun rv h1 => rv = cs_o (cs_gc S a c).1 ∧ h1 = hm_h G S M A g) hk_no := by
  have hc := ok.1.2.2
  refine hk_enter (by decide) hfl (Nat.le_of_ble_eq_true rfl) rfl ?_
  refine hk_iconst (v := -1) dX9_greatest_0 rfl (by decide) ?_
  refine hk_istore_n dX9_greatest_1 rfl rfl (by decide) rfl ?_
  refine hk_iconst (v := nI 0) dX9_greatest_2 rfl (by decide) ?_
  refine hk_istore_n dX9_greatest_3 rfl rfl (by decide) rfl ?_
  have lp4 : ∀ f j : Nat, j ≤ c → c - j < f → hk_W G l 3 yX9_greatest cX9_greatest 4 (some .int) [] (hk_qi fun rv h1 => rv = cs_o (cs_gc S a c).1 ∧ h1 = hm_h G S M A g) hk_no 0 0 (hm_h G S M A g) 4 [some (.ref (A 0)), some (.int (nI a)), some (.int (cs_o (cs_gc S a j).1)), some (.int (nI j))] [] := by
    intro f
    induction f with
    | zero => intro j hj hf; exact absurd hf (by omega)
    | succ f ih =>
      intro j hj hf
      obtain ⟨hi1, hi2⟩ := cs_gc_inv (S := S) (a := a) j
      rcases hb : (cs_gc S a j).1 with _ | b
      · skip
        refine hk_iload_n dX9_greatest_4 rfl rfl rfl ?_
        refine hk_aload_n dX9_greatest_5 rfl rfl rfl ?_
        refine hk_getf dX9_greatest_6 rfl fl_X9_16 (hm_g0 hk) rfl ?_
        refine hk_callF dX9_greatest_9 rfl mf_X9_56 (cj_size hfl (hm_l0 hk ok)) rfl rfl (hm_l0 hk ok) rfl rfl (by decide) ⟨Nat.zero_le _, Nat.zero_le _⟩ (Nat.le_of_ble_eq_true rfl) (hk_ki fun v h1 q => ?_) hk_nx
        obtain ⟨rfl, rfl⟩ := q
        refine cx_icmp_ge (tgt := 60) (by omega) (by omega) dX9_greatest_14 (by decide) rfl (fun z14 => ?_) (fun z14 => ?_)
        · skip
          refine hk_iload_n dX9_greatest_60 rfl rfl rfl ?_
          exact hk_ireturn rfl (rfl) dX9_greatest_61 (by have ej : j = c := (by omega); rw [ej] at hb; exact ⟨_, rfl, by rw [hb], rfl⟩)
        · skip
          refine hk_aload_n dX9_greatest_17 rfl rfl rfl ?_
          refine hk_getf dX9_greatest_18 rfl fl_X9_35 (hm_g0 hk) rfl ?_
          refine hk_iload_n dX9_greatest_21 rfl rfl rfl ?_
          refine hx_aaldI dX9_greatest_22 rfl (hm_g10 hk) (show _ < 6 by omega) (by decide) (if_pos (show _ < 6 by omega)) ?_
          refine hk_iload_n dX9_greatest_23 rfl rfl rfl ?_
          refine hx_iald dX9_greatest_24 rfl (hm_g11 hk (by omega)) (show _ < 6 by omega) (by decide) ?_
          refine cx_top (if_pos (by omega)) ?_
          refine hk_if_le (tgt := 54) dX9_greatest_25 (by decide) rfl (fun z25 => ?_) (fun z25 => ?_)
          · skip
            refine hk_iinc dX9_greatest_54 rfl rfl (nI_1 _) (by decide) rfl ?_
            refine hk_goto (tgt := 4) dX9_greatest_57 (by decide) ?_
            have ihx := ih (j + 1) (by omega) (by omega)
            first | (have e1 : (cs_gc S a (j + 1)).1 = some j := (by rw [cs_gc_s, cs_gcs_up (by rw [hi1 hb]; exact z25)]); rw [e1] at ihx; exact ihx) | (have e1 : (cs_gc S a (j + 1)).1 = none := (by rw [cs_gc_s, cs_gcs_st (by rw [hi1 hb]; exact z25)]; exact hb); rw [e1] at ihx; exact ihx) | (have e1 : (cs_gc S a (j + 1)).1 = some j := (by rw [cs_gc_s, cs_gcs_up (by rw [(hi2 b hb).1]; exact z49)]); rw [e1] at ihx; exact ihx) | (have e1 : (cs_gc S a (j + 1)).1 = some b := (by rw [cs_gc_s, cs_gcs_st (by rw [(hi2 b hb).1]; exact z49)]; exact hb); rw [e1] at ihx; exact ihx) | (have e1 : (cs_gc S a (j + 1)).1 = some b := (by rw [cs_gc_s, cs_gcs_st (Int32.le_trans z25 (Int32.le_of_lt (hi2 b hb).2))]; exact hb); rw [e1] at ihx; exact ihx)
          · skip
            refine hk_iload_n dX9_greatest_28 rfl rfl rfl ?_
            refine hk_iconst (v := -1) dX9_greatest_29 rfl (by decide) ?_
            refine hk_icmp_eq (tgt := 52) dX9_greatest_30 (by decide) rfl (fun z30 => ?_) (fun z30 => ?_)
            · skip
              refine hk_iload_n dX9_greatest_52 rfl rfl rfl ?_
              refine hk_istore_n dX9_greatest_53 rfl rfl (by decide) rfl ?_
              refine hk_iinc dX9_greatest_54 rfl rfl (nI_1 _) (by decide) rfl ?_
              refine hk_goto (tgt := 4) dX9_greatest_57 (by decide) ?_
              have ihx := ih (j + 1) (by omega) (by omega)
              first | (have e1 : (cs_gc S a (j + 1)).1 = some j := (by rw [cs_gc_s, cs_gcs_up (by rw [hi1 hb]; exact z25)]); rw [e1] at ihx; exact ihx) | (have e1 : (cs_gc S a (j + 1)).1 = none := (by rw [cs_gc_s, cs_gcs_st (by rw [hi1 hb]; exact z25)]; exact hb); rw [e1] at ihx; exact ihx) | (have e1 : (cs_gc S a (j + 1)).1 = some j := (by rw [cs_gc_s, cs_gcs_up (by rw [(hi2 b hb).1]; exact z49)]); rw [e1] at ihx; exact ihx) | (have e1 : (cs_gc S a (j + 1)).1 = some b := (by rw [cs_gc_s, cs_gcs_st (by rw [(hi2 b hb).1]; exact z49)]; exact hb); rw [e1] at ihx; exact ihx) | (have e1 : (cs_gc S a (j + 1)).1 = some b := (by rw [cs_gc_s, cs_gcs_st (Int32.le_trans z25 (Int32.le_of_lt (hi2 b hb).2))]; exact hb); rw [e1] at ihx; exact ihx)
            · exact absurd rfl z30
      · have hbj := cs_gc_lt hb
        refine hk_iload_n dX9_greatest_4 rfl rfl rfl ?_
        refine hk_aload_n dX9_greatest_5 rfl rfl rfl ?_
        refine hk_getf dX9_greatest_6 rfl fl_X9_16 (hm_g0 hk) rfl ?_
        refine hk_callF dX9_greatest_9 rfl mf_X9_56 (cj_size hfl (hm_l0 hk ok)) rfl rfl (hm_l0 hk ok) rfl rfl (by decide) ⟨Nat.zero_le _, Nat.zero_le _⟩ (Nat.le_of_ble_eq_true rfl) (hk_ki fun v h1 q => ?_) hk_nx
        obtain ⟨rfl, rfl⟩ := q
        refine cx_icmp_ge (tgt := 60) (by omega) (by omega) dX9_greatest_14 (by decide) rfl (fun z14 => ?_) (fun z14 => ?_)
        · skip
          refine hk_iload_n dX9_greatest_60 rfl rfl rfl ?_
          exact hk_ireturn rfl (rfl) dX9_greatest_61 (by have ej : j = c := (by omega); rw [ej] at hb; exact ⟨_, rfl, by rw [hb], rfl⟩)
        · skip
          refine hk_aload_n dX9_greatest_17 rfl rfl rfl ?_
          refine hk_getf dX9_greatest_18 rfl fl_X9_35 (hm_g0 hk) rfl ?_
          refine hk_iload_n dX9_greatest_21 rfl rfl rfl ?_
          refine hx_aaldI dX9_greatest_22 rfl (hm_g10 hk) (show _ < 6 by omega) (by decide) (if_pos (show _ < 6 by omega)) ?_
          refine hk_iload_n dX9_greatest_23 rfl rfl rfl ?_
          refine hx_iald dX9_greatest_24 rfl (hm_g11 hk (by omega)) (show _ < 6 by omega) (by decide) ?_
          refine cx_top (if_pos (by omega)) ?_
          refine hk_if_le (tgt := 54) dX9_greatest_25 (by decide) rfl (fun z25 => ?_) (fun z25 => ?_)
          · skip
            refine hk_iinc dX9_greatest_54 rfl rfl (nI_1 _) (by decide) rfl ?_
            refine hk_goto (tgt := 4) dX9_greatest_57 (by decide) ?_
            have ihx := ih (j + 1) (by omega) (by omega)
            first | (have e1 : (cs_gc S a (j + 1)).1 = some j := (by rw [cs_gc_s, cs_gcs_up (by rw [hi1 hb]; exact z25)]); rw [e1] at ihx; exact ihx) | (have e1 : (cs_gc S a (j + 1)).1 = none := (by rw [cs_gc_s, cs_gcs_st (by rw [hi1 hb]; exact z25)]; exact hb); rw [e1] at ihx; exact ihx) | (have e1 : (cs_gc S a (j + 1)).1 = some j := (by rw [cs_gc_s, cs_gcs_up (by rw [(hi2 b hb).1]; exact z49)]); rw [e1] at ihx; exact ihx) | (have e1 : (cs_gc S a (j + 1)).1 = some b := (by rw [cs_gc_s, cs_gcs_st (by rw [(hi2 b hb).1]; exact z49)]; exact hb); rw [e1] at ihx; exact ihx) | (have e1 : (cs_gc S a (j + 1)).1 = some b := (by rw [cs_gc_s, cs_gcs_st (Int32.le_trans z25 (Int32.le_of_lt (hi2 b hb).2))]; exact hb); rw [e1] at ihx; exact ihx)
          · skip
            refine hk_iload_n dX9_greatest_28 rfl rfl rfl ?_
            refine cx_top (show cs_o (some b) = nI b from rfl) ?_
            refine hk_iconst (v := -1) dX9_greatest_29 rfl (by decide) ?_
            refine hk_icmp_eq (tgt := 52) dX9_greatest_30 (by decide) rfl (fun z30 => ?_) (fun z30 => ?_)
            · exact absurd z30 (cx_ne1 (by omega))
            · skip
              refine hk_aload_n dX9_greatest_33 rfl rfl rfl ?_
              refine hk_getf dX9_greatest_34 rfl fl_X9_35 (hm_g0 hk) rfl ?_
              refine hk_iload_n dX9_greatest_37 rfl rfl rfl ?_
              refine hx_aaldI dX9_greatest_38 rfl (hm_g10 hk) (show _ < 6 by omega) (by decide) (if_pos (show _ < 6 by omega)) ?_
              refine hk_iload_n dX9_greatest_39 rfl rfl rfl ?_
              refine hx_iald dX9_greatest_40 rfl (hm_g11 hk (by omega)) (show _ < 6 by omega) (by decide) ?_
              refine cx_top (if_pos (by omega)) ?_
              refine hk_aload_n dX9_greatest_41 rfl rfl rfl ?_
              refine hk_getf dX9_greatest_42 rfl fl_X9_35 (hm_g0 hk) rfl ?_
              refine hk_iload_n dX9_greatest_45 rfl rfl rfl ?_
              refine cx_top (show cs_o (some b) = nI b from rfl) ?_
              refine hx_aaldI dX9_greatest_46 rfl (hm_g10 hk) (show _ < 6 by omega) (by decide) (if_pos (show _ < 6 by omega)) ?_
              refine hk_iload_n dX9_greatest_47 rfl rfl rfl ?_
              refine hx_iald dX9_greatest_48 rfl (hm_g11 hk (by omega)) (show _ < 6 by omega) (by decide) ?_
              refine cx_top (if_pos (by omega)) ?_
              refine hk_icmp_le (tgt := 54) dX9_greatest_49 (by decide) rfl (fun z49 => ?_) (fun z49 => ?_)
              · skip
                refine hk_iinc dX9_greatest_54 rfl rfl (nI_1 _) (by decide) rfl ?_
                refine hk_goto (tgt := 4) dX9_greatest_57 (by decide) ?_
                have ihx := ih (j + 1) (by omega) (by omega)
                first | (have e1 : (cs_gc S a (j + 1)).1 = some j := (by rw [cs_gc_s, cs_gcs_up (by rw [hi1 hb]; exact z25)]); rw [e1] at ihx; exact ihx) | (have e1 : (cs_gc S a (j + 1)).1 = none := (by rw [cs_gc_s, cs_gcs_st (by rw [hi1 hb]; exact z25)]; exact hb); rw [e1] at ihx; exact ihx) | (have e1 : (cs_gc S a (j + 1)).1 = some j := (by rw [cs_gc_s, cs_gcs_up (by rw [(hi2 b hb).1]; exact z49)]); rw [e1] at ihx; exact ihx) | (have e1 : (cs_gc S a (j + 1)).1 = some b := (by rw [cs_gc_s, cs_gcs_st (by rw [(hi2 b hb).1]; exact z49)]; exact hb); rw [e1] at ihx; exact ihx) | (have e1 : (cs_gc S a (j + 1)).1 = some b := (by rw [cs_gc_s, cs_gcs_st (Int32.le_trans z25 (Int32.le_of_lt (hi2 b hb).2))]; exact hb); rw [e1] at ihx; exact ihx)
              · skip
                refine hk_iload_n dX9_greatest_52 rfl rfl rfl ?_
                refine hk_istore_n dX9_greatest_53 rfl rfl (by decide) rfl ?_
                refine hk_iinc dX9_greatest_54 rfl rfl (nI_1 _) (by decide) rfl ?_
                refine hk_goto (tgt := 4) dX9_greatest_57 (by decide) ?_
                have ihx := ih (j + 1) (by omega) (by omega)
                first | (have e1 : (cs_gc S a (j + 1)).1 = some j := (by rw [cs_gc_s, cs_gcs_up (by rw [hi1 hb]; exact z25)]); rw [e1] at ihx; exact ihx) | (have e1 : (cs_gc S a (j + 1)).1 = none := (by rw [cs_gc_s, cs_gcs_st (by rw [hi1 hb]; exact z25)]; exact hb); rw [e1] at ihx; exact ihx) | (have e1 : (cs_gc S a (j + 1)).1 = some j := (by rw [cs_gc_s, cs_gcs_up (by rw [(hi2 b hb).1]; exact z49)]); rw [e1] at ihx; exact ihx) | (have e1 : (cs_gc S a (j + 1)).1 = some b := (by rw [cs_gc_s, cs_gcs_st (by rw [(hi2 b hb).1]; exact z49)]; exact hb); rw [e1] at ihx; exact ihx) | (have e1 : (cs_gc S a (j + 1)).1 = some b := (by rw [cs_gc_s, cs_gcs_st (Int32.le_trans z25 (Int32.le_of_lt (hi2 b hb).2))]; exact hb); rw [e1] at ihx; exact ihx)
  exact lp4 (c + 1) 0 (by omega) (by omega)
end CM12

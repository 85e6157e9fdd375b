section CM10
variable {G : hk_G} {l : Launch} {S : hs_S} {M : hm_M} {A : Nat → Nat} {c nc nb : Nat} {g h : hk_H}
def hs_gvs (t : Int32) (L : List Nat) (i : Nat) (p : hs_S × Int32) : hs_S × Int32 := (cs_give p.1 (L.getD i 0) t, p.2 + p.1.1 14 (L.getD i 0))
def hs_gv (t : Int32) (L : List Nat) (S : hs_S) (n : Nat) : hs_S × Int32 := cx_it (hs_gvs t L) (S, nI 0) n
theorem hs_gv_s (t : Int32) (L : List Nat) (S : hs_S) (i : Nat) : hs_gv t L S (i + 1) = hs_gvs t L i (hs_gv t L S i) := rfl
theorem hs_gv_ne {t : Int32} {L : List Nat} {S : hs_S} {i : Nat} (h : i ≠ 15 ∧ i ≠ 16 ∧ i ≠ 17 ∧ i ≠ 18) : ∀ n, (hs_gv t L S n).1.1 i = S.1 i
  | 0 => rfl
  | n + 1 => by
    rw [hs_gv_s]
    unfold hs_gvs
    rw [cs_give_ne _ _ _ h.1 h.2.1 h.2.2.1 h.2.2.2]
    exact hs_gv_ne h n
theorem cm_gives {fl : Nat} {t : Int32} {L : List Nat} {g2 : hk_H} (hfl : l.stackTraces = false) (hk : ha_ok (hm_D S M) A g2) (ok : hm_ok G S M A c nc nb) (hG : hf_G G A g g2 fl L) (hL : ∀ x ∈ L, x < nc) (hl9 : L.length ≤ 90) : hk_Ctr G l 3 yX9_gives cX9_gives 5 (some .int) 1 4 [.ref fl, .int t] (hm_h G S M A g2) (hk_qi fun rv h1 => rv = (hs_gv t L S L.length).2 ∧ ∃ g3 : hk_H, hm_x g g3 ∧ ha_ok (hm_D (hs_gv t L S L.length).1 M) A g3 ∧ h1 = hm_h G (hs_gv t L S L.length).1 M A g3) hk_no := by
  have hnc := ok.2.1.2
  obtain ⟨hx3, gfl3, mc, ed, cap, f9, hal, hff, hed⟩ := id hG
  have hal0 : hk_al G (hm_h G S M A g2) fl mc ed L.length cap f9 := hf_al hk hal
  refine hk_enter (by decide) hfl (Nat.le_of_ble_eq_true rfl) rfl ?_
  refine hk_iconst (v := nI 0) dX9_gives_0 rfl (by decide) ?_
  refine hk_istore_n dX9_gives_1 rfl rfl (by decide) rfl ?_
  refine hk_aload_n dX9_gives_2 rfl rfl rfl ?_
  refine hk_callF dX9_gives_3 rfl mf_X9_122 (cj_iter hfl hal0.1) rfl rfl hal0.1 rfl rfl (by decide) ⟨by omega, by omega⟩ (Nat.le_of_ble_eq_true rfl) (hk_kr fun it h1 q1 => ?_) hk_nx
  obtain ⟨hit, rfl⟩ := q1
  have hkI0 := fun x => (hm_okg (x := x) hk hit).1
  have hit0 : g2 it = none := (ha_none hk.1 hit).2
  refine hx_cg (hm_okg hk hit).2.1 ?_
  refine hk_astore_n dX9_gives_8 rfl rfl (by decide) rfl ?_
  have lp9 : ∀ f i : Nat, ∀ (lr : Int32) (lvF : Option Value), i ≤ L.length → L.length - i < f → hk_W G l 3 yX9_gives cX9_gives 5 (some .int) [] (hk_qi fun rv h1 => rv = (hs_gv t L S L.length).2 ∧ ∃ g3 : hk_H, hm_x g g3 ∧ ha_ok (hm_D (hs_gv t L S L.length).1 M) A g3 ∧ h1 = hm_h G (hs_gv t L S L.length).1 M A g3) hk_no 0 0 (hm_h G (hs_gv t L S i).1 M A (hk_set g2 it (.inr (5, [.int (nI i), .int lr, .int mc, .ref fl])))) 9 [some (.ref fl), some (.int t), some (.int (hs_gv t L S i).2), some (.ref it), lvF] [] := by
    intro f
    induction f with
    | zero => intro i lr lvF hi hf; exact absurd hf (by omega)
    | succ f ih =>
      intro i lr lvF hi hf
      have okS : ∀ i2, i2 = 7 ∨ i2 = 8 ∨ i2 = 25 ∨ i2 = 26 ∨ i2 = 30 ∨ i2 = 31 ∨ i2 = 32 → (hs_gv t L S i).1.1 i2 = S.1 i2 := fun i2 hi2 => hs_gv_ne (by omega) i
      have ok := hm_okS ok okS
      have hkI := fun x => hm_hkS okS (hkI0 x)
      have hal2 := fun x => hf_al (E := hm_E G (hs_gv t L S i).1 M A) (hkI x) (hf_alS hal hit0)
      refine hk_aload_n dX9_gives_9 rfl rfl rfl ?_
      refine hk_callF dX9_gives_10 rfl mf_X9_126 (cj_hasNext hfl (hm_gnd (hkI _) hk_set_eq) (hal2 _).1 hi (by omega)) rfl rfl (hm_gnd (hkI _) hk_set_eq) rfl rfl (by decide) ⟨Nat.zero_le _, Nat.zero_le _⟩ (Nat.le_of_ble_eq_true rfl) (hk_ki fun v h1 q => ?_) hk_nx
      obtain ⟨rfl, rfl⟩ := q
      refine cx_ifb_eq (tgt := 46) dX9_gives_15 (by decide) rfl (fun z15 => ?_) (fun z15 => ?_)
      · skip
        have ei : i = L.length := (by have := of_decide_eq_false z15; omega)
        refine hk_iload_n dX9_gives_46 rfl rfl rfl ?_
        exact hk_ireturn rfl (rfl) dX9_gives_47 (by rw [ei] at hkI ⊢; exact ⟨_, rfl, rfl, _, hx3.tr (hm_x.nw hit0), hkI _, rfl⟩)
      · skip
        refine hk_aload_n dX9_gives_18 rfl rfl rfl ?_
        have hin : i < L.length := of_decide_eq_true z15
        have hcj := hf_gd hL hin
        have hed2 := fun x => ((hal2 x).2.2.2.resolve_right (fun q => by have := (hal2 x).2.1; omega)).1
        refine hk_callF dX9_gives_19 rfl mf_X9_132 (cj_next hfl (hm_gnd (hkI _) hk_set_eq) (hal2 _).1 (hed2 _) hin (hal2 ((.inr (5, [.int (nI i), .int lr, .int mc, .ref fl])))).2.1 (Nat.lt_of_le_of_lt (hal2 ((.inr (5, [.int (nI i), .int lr, .int mc, .ref fl])))).2.2.1 (by decide)) (hff i hin)) rfl rfl (hm_gnd (hkI _) hk_set_eq) rfl rfl (by decide) ⟨Nat.zero_le _, Nat.zero_le _⟩ (Nat.le_of_ble_eq_true rfl) (hk_kr fun v h1 q => ?_) hk_nx
        obtain ⟨rfl, rfl⟩ := q
        refine hx_cg (hm_sgI (hkI _)) ?_
        refine hk_castO dX9_gives_24 rfl (hm_coi (hkI _) ok (by omega)) rfl kl_X9_94 ?_
        refine hk_astore dX9_gives_27 rfl (by decide) rfl ?_
        refine hk_iload_n dX9_gives_29 rfl rfl rfl ?_
        refine hk_aload dX9_gives_30 rfl rfl ?_
        refine hk_getf dX9_gives_32 rfl fl_X9_103 (hm_coi (hkI _) ok (by omega)) rfl ?_
        refine hk_iadd dX9_gives_35 rfl ?_
        refine hk_istore_n dX9_gives_36 rfl rfl (by decide) rfl ?_
        refine hk_aload dX9_gives_37 rfl rfl ?_
        refine hk_iload_n dX9_gives_39 rfl rfl rfl ?_
        refine hk_callV dX9_gives_40 rfl mv_X9_142 (cm_goes hfl (hkI _) ok hcj) rfl rfl (hm_coi (hkI _) ok hcj) rfl rfl (by decide) ⟨Nat.zero_le _, Nat.zero_le _⟩ (Nat.le_of_ble_eq_true rfl) (hk_kv fun h1 q => ?_) hk_nx
        subst q
        refine hk_goto (tgt := 9) dX9_gives_43 (by decide) ?_
        exact ih (i + 1) (nI i) _ (by omega) (by omega)
  exact lp9 (L.length + 1) 0 (-1) _ (by omega) (by omega)
theorem cs_sq_as (a b c : Nat) : cs_sq (cs_sq a b) c = cs_sq a (cs_sq b c) := by
  unfold cs_sq
  by_cases h : a = 0
  · rw [if_pos h, if_pos h]
  · rw [if_neg h, if_neg h, if_neg h]
theorem cs_sq_z {a b : Nat} : cs_sq a b = 0 ↔ a = 0 ∧ b = 0 := by
  unfold cs_sq
  by_cases h : a = 0
  · rw [if_pos h]; exact ⟨fun q => ⟨h, q⟩, fun q => q.2⟩
  · rw [if_neg h]; exact ⟨fun q => absurd q h, fun q => absurd q.1 h⟩
theorem cs_sq_le {a b k : Nat} (ha : a ≤ k) (hb : b ≤ k) : cs_sq a b ≤ k := by
  unfold cs_sq
  split <;> assumption
def cd_ng (S : hs_S) (c bk : Nat) (v t mt q : Int32) : Nat := cs_sq (cd_H c v) (cs_sq (cd_H c t) (cs_sq (cd_M mt) (cs_sq (cd_R q 90) (cs_sq (cd_D v t) (cs_sq (if bk = 0 then 0 else cd_B S (vN t)) (cs_sq (cd_O S (vN v)) (cd_O S (vN t))))))))
theorem cd_ng_le {S : hs_S} {c bk : Nat} {v t mt q : Int32} : cd_ng S c bk v t mt q ≤ 3 := by
  unfold cd_ng
  refine cs_sq_le ?_ (cs_sq_le ?_ (cs_sq_le ?_ (cs_sq_le ?_ (cs_sq_le ?_ (cs_sq_le ?_ (cs_sq_le ?_ ?_))))))
  · unfold cd_H; split <;> (try split) <;> omega
  · unfold cd_H; split <;> (try split) <;> omega
  · unfold cd_M; split <;> (try split) <;> omega
  · unfold cd_R; split <;> (try split) <;> omega
  · unfold cd_D; split <;> omega
  · split
    · omega
    · unfold cd_B; split <;> omega
  · unfold cd_O; split <;> omega
  · unfold cd_O; split <;> omega
theorem cm_ng0 {v t mt q : Int32} (hfl : l.stackTraces = false) (hk : ha_ok (hm_D S M) A g) (ok : hm_ok G S M A c nc nb) : hk_Ctr G l 8 yX9_isNoGiving cX9_isNoGiving 7 (some .boolean) 0 0 [.ref (A 0), .int v, .int t, .int mt, .int q, .int (nI 0)] (hm_h G S M A g) (hk_qi fun rv h1 => rv = cx_b (decide (0 < cd_ng S c 0 v t mt q)) ∧ h1 = hm_h G S (hm_mt M (nI (cd_ng S c 0 v t mt q))) A g) hk_no := by
  have hc1 := ok.1.2.1
  have hc := ok.1.2.2
  have hnc := ok.2.1.2
  have hnb := ok.2.2.1.2
  refine hk_enter (by decide) hfl (Nat.le_of_ble_eq_true rfl) rfl ?_
  refine hk_aload_n dX9_isNoGiving_0 rfl rfl rfl ?_
  refine hk_aload_n dX9_isNoGiving_1 rfl rfl rfl ?_
  refine hk_iload_n dX9_isNoGiving_2 rfl rfl rfl ?_
  refine hk_callV dX9_isNoGiving_3 rfl mv_X9_84 (cm_isHouse hfl hk ok) rfl rfl (hm_g0 hk) rfl rfl (by decide) ⟨Nat.zero_le _, Nat.zero_le _⟩ (Nat.le_of_ble_eq_true rfl) (hk_ki fun v h1 q => ?_) hk_nx
  obtain ⟨rfl, rfl⟩ := q
  refine cx_ifb_eq (tgt := 21) dX9_isNoGiving_6 (by decide) rfl (fun z6 => ?_) (fun z6 => ?_)
  · have f6 : cd_H c v = 1 := cd_H_1 (of_decide_eq_false z6)
    refine hk_iconst (v := nI 1) dX9_isNoGiving_21 rfl (by decide) ?_
    refine hk_callV dX9_isNoGiving_22 rfl mv_X9_80 (cm_isWrong (k := 1) hfl (by decide) hk) rfl rfl (hm_g0 hk) rfl rfl (by decide) ⟨Nat.zero_le _, Nat.zero_le _⟩ (Nat.le_of_ble_eq_true rfl) (hk_ki fun v h1 q => ?_) hk_nx
    obtain ⟨rfl, rfl⟩ := q
    try rw [hm_mt_mt]
    refine cx_ifb_eq (tgt := 30) dX9_isNoGiving_25 (by decide) rfl (fun z25 => ?_) (fun z25 => ?_)
    · exact absurd z25 (by decide)
    · skip
      refine hk_iconst (v := nI 1) dX9_isNoGiving_28 rfl (by decide) ?_
      exact hk_ireturn rfl (by decide) dX9_isNoGiving_29 (by have e : cd_ng S c 0 v t mt q = 1 := (by first | (simp [cd_ng, cs_sq, f6]; done) | (rcases cd_O_or S a with o0 | o0 <;> rcases cd_O_or S b2 with o1 | o1 <;> simp [cd_ng, cs_sq, f6, o0, o1])); rw [e]; exact ⟨_, rfl, rfl, rfl⟩)
  · have f6 : cd_H c v = 0 := of_decide_eq_true z6
    obtain ⟨a, ha, rfl⟩ := cd_H_of (by omega) f6
    have vaa : vN (nI a) = a := vN_nI (by omega)
    refine hk_aload_n dX9_isNoGiving_9 rfl rfl rfl ?_
    refine hk_iload_n dX9_isNoGiving_10 rfl rfl rfl ?_
    refine hk_callV dX9_isNoGiving_11 rfl mv_X9_84 (cm_isHouse hfl hk ok) rfl rfl (hm_g0 hk) rfl rfl (by decide) ⟨Nat.zero_le _, Nat.zero_le _⟩ (Nat.le_of_ble_eq_true rfl) (hk_ki fun v h1 q => ?_) hk_nx
    obtain ⟨rfl, rfl⟩ := q
    refine cx_ifb_eq (tgt := 21) dX9_isNoGiving_14 (by decide) rfl (fun z14 => ?_) (fun z14 => ?_)
    · have f14 : cd_H c t = 1 := cd_H_1 (of_decide_eq_false z14)
      refine hk_iconst (v := nI 1) dX9_isNoGiving_21 rfl (by decide) ?_
      refine hk_callV dX9_isNoGiving_22 rfl mv_X9_80 (cm_isWrong (k := 1) hfl (by decide) hk) rfl rfl (hm_g0 hk) rfl rfl (by decide) ⟨Nat.zero_le _, Nat.zero_le _⟩ (Nat.le_of_ble_eq_true rfl) (hk_ki fun v h1 q => ?_) hk_nx
      obtain ⟨rfl, rfl⟩ := q
      try rw [hm_mt_mt]
      refine cx_ifb_eq (tgt := 30) dX9_isNoGiving_25 (by decide) rfl (fun z25 => ?_) (fun z25 => ?_)
      · exact absurd z25 (by decide)
      · skip
        refine hk_iconst (v := nI 1) dX9_isNoGiving_28 rfl (by decide) ?_
        exact hk_ireturn rfl (by decide) dX9_isNoGiving_29 (by have e : cd_ng S c 0 (nI a) t mt q = 1 := (by first | (simp [cd_ng, cs_sq, f6, vaa, f14]; done) | (rcases cd_O_or S a with o0 | o0 <;> rcases cd_O_or S b2 with o1 | o1 <;> simp [cd_ng, cs_sq, f6, vaa, f14, o0, o1])); rw [e]; exact ⟨_, rfl, rfl, rfl⟩)
    · have f14 : cd_H c t = 0 := of_decide_eq_true z14
      obtain ⟨b2, hb2, rfl⟩ := cd_H_of (by omega) f14
      have vab2 : vN (nI b2) = b2 := vN_nI (by omega)
      refine hk_iconst (v := nI 0) dX9_isNoGiving_17 rfl (by decide) ?_
      refine hk_goto (tgt := 22) dX9_isNoGiving_18 (by decide) ?_
      refine hk_callV dX9_isNoGiving_22 rfl mv_X9_80 (cm_isWrong (k := 0) hfl (by decide) hk) rfl rfl (hm_g0 hk) rfl rfl (by decide) ⟨Nat.zero_le _, Nat.zero_le _⟩ (Nat.le_of_ble_eq_true rfl) (hk_ki fun v h1 q => ?_) hk_nx
      obtain ⟨rfl, rfl⟩ := q
      try rw [hm_mt_mt]
      refine cx_ifb_eq (tgt := 30) dX9_isNoGiving_25 (by decide) rfl (fun z25 => ?_) (fun z25 => ?_)
      · skip
        refine hk_iload dX9_isNoGiving_30 rfl rfl ?_
        refine cx_ifn_eq (tgt := 76) (by omega) dX9_isNoGiving_32 (by decide) rfl (fun z32 => ?_) (fun z32 => ?_)
        · skip
          refine hk_iconst (v := nI 0) dX9_isNoGiving_76 rfl (by decide) ?_
          refine hk_istore dX9_isNoGiving_77 rfl (by decide) rfl ?_
          refine hk_aload_n dX9_isNoGiving_79 rfl rfl rfl ?_
          refine hk_iload_n dX9_isNoGiving_80 rfl rfl rfl ?_
          refine hk_callS dX9_isNoGiving_81 rfl ms_X9_87 (cm_isMetal hfl) rfl rfl (by decide) ⟨Nat.zero_le _, Nat.zero_le _⟩ (Nat.le_of_ble_eq_true rfl) (hk_ki fun v h1 q => ?_) hk_nx
          obtain ⟨rfl, rfl⟩ := q
          refine cx_ifb_eq (tgt := 108) dX9_isNoGiving_84 (by decide) rfl (fun z84 => ?_) (fun z84 => ?_)
          · have f84 : cd_M mt = 2 := cd_M_2 (of_decide_eq_false z84)
            refine hk_iconst (v := nI 2) dX9_isNoGiving_108 rfl (by decide) ?_
            refine hk_goto (tgt := 133) dX9_isNoGiving_109 (by decide) ?_
            refine hk_callV dX9_isNoGiving_133 rfl mv_X9_80 (cm_isWrong (k := 2) hfl (by decide) hk) rfl rfl (hm_g0 hk) rfl rfl (by decide) ⟨Nat.zero_le _, Nat.zero_le _⟩ (Nat.le_of_ble_eq_true rfl) (hk_ki fun v h1 q => ?_) hk_nx
            obtain ⟨rfl, rfl⟩ := q
            try rw [hm_mt_mt]
            exact hk_ireturn rfl (cx_b_nar _) dX9_isNoGiving_136 (by have e : cd_ng S c 0 (nI a) (nI b2) mt q = 2 := (by first | (simp [cd_ng, cs_sq, f6, vaa, f14, vab2, f84]; done) | (rcases cd_O_or S a with o0 | o0 <;> rcases cd_O_or S b2 with o1 | o1 <;> simp [cd_ng, cs_sq, f6, vaa, f14, vab2, f84, o0, o1])); rw [e]; exact ⟨_, rfl, rfl, rfl⟩)
          · have f84 : cd_M mt = 0 := of_decide_eq_true z84
            refine hk_iload dX9_isNoGiving_87 rfl rfl ?_
            refine hk_iconst (v := nI 1) dX9_isNoGiving_89 rfl (by decide) ?_
            refine hk_bipush (v := nI 90) dX9_isNoGiving_90 rfl (by decide) ?_
            refine hk_callS dX9_isNoGiving_92 rfl ms_X9_60 (cm_isBetween hfl) rfl rfl (by decide) ⟨Nat.zero_le _, Nat.zero_le _⟩ (Nat.le_of_ble_eq_true rfl) (hk_ki fun v h1 q => ?_) hk_nx
            obtain ⟨rfl, rfl⟩ := q
            refine cx_top (congrArg cx_b (cs_bwR _ _)) ?_
            refine cx_ifb_eq (tgt := 108) dX9_isNoGiving_95 (by decide) rfl (fun z95 => ?_) (fun z95 => ?_)
            · have f95 : cd_R q 90 = 2 := cd_R_2 (of_decide_eq_false z95)
              refine hk_iconst (v := nI 2) dX9_isNoGiving_108 rfl (by decide) ?_
              refine hk_goto (tgt := 133) dX9_isNoGiving_109 (by decide) ?_
              refine hk_callV dX9_isNoGiving_133 rfl mv_X9_80 (cm_isWrong (k := 2) hfl (by decide) hk) rfl rfl (hm_g0 hk) rfl rfl (by decide) ⟨Nat.zero_le _, Nat.zero_le _⟩ (Nat.le_of_ble_eq_true rfl) (hk_ki fun v h1 q => ?_) hk_nx
              obtain ⟨rfl, rfl⟩ := q
              try rw [hm_mt_mt]
              exact hk_ireturn rfl (cx_b_nar _) dX9_isNoGiving_136 (by have e : cd_ng S c 0 (nI a) (nI b2) mt q = 2 := (by first | (simp [cd_ng, cs_sq, f6, vaa, f14, vab2, f84, f95]; done) | (rcases cd_O_or S a with o0 | o0 <;> rcases cd_O_or S b2 with o1 | o1 <;> simp [cd_ng, cs_sq, f6, vaa, f14, vab2, f84, f95, o0, o1])); rw [e]; exact ⟨_, rfl, rfl, rfl⟩)
            · have f95 : cd_R q 90 = 0 := of_decide_eq_true z95
              refine hk_iload_n dX9_isNoGiving_98 rfl rfl rfl ?_
              refine hk_iload_n dX9_isNoGiving_99 rfl rfl rfl ?_
              refine cx_icmp_eq (tgt := 108) (by omega) (by omega) dX9_isNoGiving_100 (by decide) rfl (fun z100 => ?_) (fun z100 => ?_)
              · skip
                have f100 : cd_D (nI a) (nI b2) = 2 := cd_D_eq z100
                refine hk_iconst (v := nI 2) dX9_isNoGiving_108 rfl (by decide) ?_
                refine hk_goto (tgt := 133) dX9_isNoGiving_109 (by decide) ?_
                refine hk_callV dX9_isNoGiving_133 rfl mv_X9_80 (cm_isWrong (k := 2) hfl (by decide) hk) rfl rfl (hm_g0 hk) rfl rfl (by decide) ⟨Nat.zero_le _, Nat.zero_le _⟩ (Nat.le_of_ble_eq_true rfl) (hk_ki fun v h1 q => ?_) hk_nx
                obtain ⟨rfl, rfl⟩ := q
                try rw [hm_mt_mt]
                exact hk_ireturn rfl (cx_b_nar _) dX9_isNoGiving_136 (by have e : cd_ng S c 0 (nI a) (nI b2) mt q = 2 := (by first | (simp [cd_ng, cs_sq, f6, vaa, f14, vab2, f84, f95, f100]; done) | (rcases cd_O_or S a with o0 | o0 <;> rcases cd_O_or S b2 with o1 | o1 <;> simp [cd_ng, cs_sq, f6, vaa, f14, vab2, f84, f95, f100, o0, o1])); rw [e]; exact ⟨_, rfl, rfl, rfl⟩)
              · skip
                have f100 : cd_D (nI a) (nI b2) = 0 := cd_D_ne z100
                refine hk_iload dX9_isNoGiving_103 rfl rfl ?_
                refine cx_ifn_eq (tgt := 112) (by omega) dX9_isNoGiving_105 (by decide) rfl (fun z105 => ?_) (fun z105 => ?_)
                · skip
                  refine hk_aload_n dX9_isNoGiving_112 rfl rfl rfl ?_
                  refine hk_iload_n dX9_isNoGiving_113 rfl rfl rfl ?_
                  refine hk_callV dX9_isNoGiving_114 rfl mv_X9_91 (cm_hasFailed hfl hk ok (by omega)) rfl rfl (hm_g0 hk) rfl rfl (by decide) ⟨Nat.zero_le _, Nat.zero_le _⟩ (Nat.le_of_ble_eq_true rfl) (hk_ki fun v h1 q => ?_) hk_nx
                  obtain ⟨rfl, rfl⟩ := q
                  refine cx_ifb_ne (tgt := 128) dX9_isNoGiving_117 (by decide) rfl (fun z117 => ?_) (fun z117 => ?_)
                  · have f117 : cd_O S a = 3 := cd_O_3 (of_decide_eq_true z117)
                    refine hk_iconst (v := nI 3) dX9_isNoGiving_128 rfl (by decide) ?_
                    refine hk_goto (tgt := 133) dX9_isNoGiving_129 (by decide) ?_
                    refine hk_callV dX9_isNoGiving_133 rfl mv_X9_80 (cm_isWrong (k := 3) hfl (by decide) hk) rfl rfl (hm_g0 hk) rfl rfl (by decide) ⟨Nat.zero_le _, Nat.zero_le _⟩ (Nat.le_of_ble_eq_true rfl) (hk_ki fun v h1 q => ?_) hk_nx
                    obtain ⟨rfl, rfl⟩ := q
                    try rw [hm_mt_mt]
                    exact hk_ireturn rfl (cx_b_nar _) dX9_isNoGiving_136 (by have e : cd_ng S c 0 (nI a) (nI b2) mt q = 3 := (by first | (simp [cd_ng, cs_sq, f6, vaa, f14, vab2, f84, f95, f100, f117]; done) | (rcases cd_O_or S a with o0 | o0 <;> rcases cd_O_or S b2 with o1 | o1 <;> simp [cd_ng, cs_sq, f6, vaa, f14, vab2, f84, f95, f100, f117, o0, o1])); rw [e]; exact ⟨_, rfl, rfl, rfl⟩)
                  · have f117 : cd_O S a = 0 := Decidable.of_not_not (of_decide_eq_false z117)
                    refine hk_aload_n dX9_isNoGiving_120 rfl rfl rfl ?_
                    refine hk_iload_n dX9_isNoGiving_121 rfl rfl rfl ?_
                    refine hk_callV dX9_isNoGiving_122 rfl mv_X9_91 (cm_hasFailed hfl hk ok (by omega)) rfl rfl (hm_g0 hk) rfl rfl (by decide) ⟨Nat.zero_le _, Nat.zero_le _⟩ (Nat.le_of_ble_eq_true rfl) (hk_ki fun v h1 q => ?_) hk_nx
                    obtain ⟨rfl, rfl⟩ := q
                    refine cx_ifb_eq (tgt := 132) dX9_isNoGiving_125 (by decide) rfl (fun z125 => ?_) (fun z125 => ?_)
                    · have f125 : cd_O S b2 = 0 := Decidable.of_not_not (of_decide_eq_false z125)
                      refine hk_iconst (v := nI 0) dX9_isNoGiving_132 rfl (by decide) ?_
                      refine hk_callV dX9_isNoGiving_133 rfl mv_X9_80 (cm_isWrong (k := 0) hfl (by decide) hk) rfl rfl (hm_g0 hk) rfl rfl (by decide) ⟨Nat.zero_le _, Nat.zero_le _⟩ (Nat.le_of_ble_eq_true rfl) (hk_ki fun v h1 q => ?_) hk_nx
                      obtain ⟨rfl, rfl⟩ := q
                      try rw [hm_mt_mt]
                      exact hk_ireturn rfl (cx_b_nar _) dX9_isNoGiving_136 (by have e : cd_ng S c 0 (nI a) (nI b2) mt q = 0 := (by first | (simp [cd_ng, cs_sq, f6, vaa, f14, vab2, f84, f95, f100, f117, f125]; done) | (rcases cd_O_or S a with o0 | o0 <;> rcases cd_O_or S b2 with o1 | o1 <;> simp [cd_ng, cs_sq, f6, vaa, f14, vab2, f84, f95, f100, f117, f125, o0, o1])); rw [e]; exact ⟨_, rfl, rfl, rfl⟩)
                    · have f125 : cd_O S b2 = 3 := cd_O_3 (of_decide_eq_true z125)
                      refine hk_iconst (v := nI 3) dX9_isNoGiving_128 rfl (by decide) ?_
                      refine hk_goto (tgt := 133) dX9_isNoGiving_129 (by decide) ?_
                      refine hk_callV dX9_isNoGiving_133 rfl mv_X9_80 (cm_isWrong (k := 3) hfl (by decide) hk) rfl rfl (hm_g0 hk) rfl rfl (by decide) ⟨Nat.zero_le _, Nat.zero_le _⟩ (Nat.le_of_ble_eq_true rfl) (hk_ki fun v h1 q => ?_) hk_nx
                      obtain ⟨rfl, rfl⟩ := q
                      try rw [hm_mt_mt]
                      exact hk_ireturn rfl (cx_b_nar _) dX9_isNoGiving_136 (by have e : cd_ng S c 0 (nI a) (nI b2) mt q = 3 := (by first | (simp [cd_ng, cs_sq, f6, vaa, f14, vab2, f84, f95, f100, f117, f125]; done) | (rcases cd_O_or S a with o0 | o0 <;> rcases cd_O_or S b2 with o1 | o1 <;> simp [cd_ng, cs_sq, f6, vaa, f14, vab2, f84, f95, f100, f117, f125, o0, o1])); rw [e]; exact ⟨_, rfl, rfl, rfl⟩)
                · exact absurd z105 (by decide)
        · exact absurd z32 (by decide)
      · exact absurd z25 (by decide)
theorem cm_ng1 {v t mt q : Int32} (hfl : l.stackTraces = false) (hk : ha_ok (hm_D S M) A g) (ok : hm_ok G S M A c nc nb) : hk_Ctr G l 8 yX9_isNoGiving cX9_isNoGiving 7 (some .boolean) 0 0 [.ref (A 0), .int v, .int t, .int mt, .int q, .int (nI 1)] (hm_h G S M A g) (hk_qi fun rv h1 => rv = cx_b (decide (0 < cd_ng S c 1 v t mt q)) ∧ h1 = hm_h G S (hm_mt M (nI (cd_ng S c 1 v t mt q))) A g) hk_no := by
  have hc1 := ok.1.2.1
  have hc := ok.1.2.2
  have hnc := ok.2.1.2
  have hnb := ok.2.2.1.2
  refine hk_enter (by decide) hfl (Nat.le_of_ble_eq_true rfl) rfl ?_
  refine hk_aload_n dX9_isNoGiving_0 rfl rfl rfl ?_
  refine hk_aload_n dX9_isNoGiving_1 rfl rfl rfl ?_
  refine hk_iload_n dX9_isNoGiving_2 rfl rfl rfl ?_
  refine hk_callV dX9_isNoGiving_3 rfl mv_X9_84 (cm_isHouse hfl hk ok) rfl rfl (hm_g0 hk) rfl rfl (by decide) ⟨Nat.zero_le _, Nat.zero_le _⟩ (Nat.le_of_ble_eq_true rfl) (hk_ki fun v h1 q => ?_) hk_nx
  obtain ⟨rfl, rfl⟩ := q
  refine cx_ifb_eq (tgt := 21) dX9_isNoGiving_6 (by decide) rfl (fun z6 => ?_) (fun z6 => ?_)
  · have f6 : cd_H c v = 1 := cd_H_1 (of_decide_eq_false z6)
    refine hk_iconst (v := nI 1) dX9_isNoGiving_21 rfl (by decide) ?_
    refine hk_callV dX9_isNoGiving_22 rfl mv_X9_80 (cm_isWrong (k := 1) hfl (by decide) hk) rfl rfl (hm_g0 hk) rfl rfl (by decide) ⟨Nat.zero_le _, Nat.zero_le _⟩ (Nat.le_of_ble_eq_true rfl) (hk_ki fun v h1 q => ?_) hk_nx
    obtain ⟨rfl, rfl⟩ := q
    try rw [hm_mt_mt]
    refine cx_ifb_eq (tgt := 30) dX9_isNoGiving_25 (by decide) rfl (fun z25 => ?_) (fun z25 => ?_)
    · exact absurd z25 (by decide)
    · skip
      refine hk_iconst (v := nI 1) dX9_isNoGiving_28 rfl (by decide) ?_
      exact hk_ireturn rfl (by decide) dX9_isNoGiving_29 (by have e : cd_ng S c 1 v t mt q = 1 := (by first | (simp [cd_ng, cs_sq, f6]; done) | (rcases cd_O_or S a with o0 | o0 <;> rcases cd_O_or S b2 with o1 | o1 <;> simp [cd_ng, cs_sq, f6, o0, o1])); rw [e]; exact ⟨_, rfl, rfl, rfl⟩)
  · have f6 : cd_H c v = 0 := of_decide_eq_true z6
    obtain ⟨a, ha, rfl⟩ := cd_H_of (by omega) f6
    have vaa : vN (nI a) = a := vN_nI (by omega)
    refine hk_aload_n dX9_isNoGiving_9 rfl rfl rfl ?_
    refine hk_iload_n dX9_isNoGiving_10 rfl rfl rfl ?_
    refine hk_callV dX9_isNoGiving_11 rfl mv_X9_84 (cm_isHouse hfl hk ok) rfl rfl (hm_g0 hk) rfl rfl (by decide) ⟨Nat.zero_le _, Nat.zero_le _⟩ (Nat.le_of_ble_eq_true rfl) (hk_ki fun v h1 q => ?_) hk_nx
    obtain ⟨rfl, rfl⟩ := q
    refine cx_ifb_eq (tgt := 21) dX9_isNoGiving_14 (by decide) rfl (fun z14 => ?_) (fun z14 => ?_)
    · have f14 : cd_H c t = 1 := cd_H_1 (of_decide_eq_false z14)
      refine hk_iconst (v := nI 1) dX9_isNoGiving_21 rfl (by decide) ?_
      refine hk_callV dX9_isNoGiving_22 rfl mv_X9_80 (cm_isWrong (k := 1) hfl (by decide) hk) rfl rfl (hm_g0 hk) rfl rfl (by decide) ⟨Nat.zero_le _, Nat.zero_le _⟩ (Nat.le_of_ble_eq_true rfl) (hk_ki fun v h1 q => ?_) hk_nx
      obtain ⟨rfl, rfl⟩ := q
      try rw [hm_mt_mt]
      refine cx_ifb_eq (tgt := 30) dX9_isNoGiving_25 (by decide) rfl (fun z25 => ?_) (fun z25 => ?_)
      · exact absurd z25 (by decide)
      · skip
        refine hk_iconst (v := nI 1) dX9_isNoGiving_28 rfl (by decide) ?_
        exact hk_ireturn rfl (by decide) dX9_isNoGiving_29 (by have e : cd_ng S c 1 (nI a) t mt q = 1 := (by first | (simp [cd_ng, cs_sq, f6, vaa, f14]; done) | (rcases cd_O_or S a with o0 | o0 <;> rcases cd_O_or S b2 with o1 | o1 <;> simp [cd_ng, cs_sq, f6, vaa, f14, o0, o1])); rw [e]; exact ⟨_, rfl, rfl, rfl⟩)
    · have f14 : cd_H c t = 0 := of_decide_eq_true z14
      obtain ⟨b2, hb2, rfl⟩ := cd_H_of (by omega) f14
      have vab2 : vN (nI b2) = b2 := vN_nI (by omega)
      refine hk_iconst (v := nI 0) dX9_isNoGiving_17 rfl (by decide) ?_
      refine hk_goto (tgt := 22) dX9_isNoGiving_18 (by decide) ?_
      refine hk_callV dX9_isNoGiving_22 rfl mv_X9_80 (cm_isWrong (k := 0) hfl (by decide) hk) rfl rfl (hm_g0 hk) rfl rfl (by decide) ⟨Nat.zero_le _, Nat.zero_le _⟩ (Nat.le_of_ble_eq_true rfl) (hk_ki fun v h1 q => ?_) hk_nx
      obtain ⟨rfl, rfl⟩ := q
      try rw [hm_mt_mt]
      refine cx_ifb_eq (tgt := 30) dX9_isNoGiving_25 (by decide) rfl (fun z25 => ?_) (fun z25 => ?_)
      · skip
        refine hk_iload dX9_isNoGiving_30 rfl rfl ?_
        refine cx_ifn_eq (tgt := 76) (by omega) dX9_isNoGiving_32 (by decide) rfl (fun z32 => ?_) (fun z32 => ?_)
        · exact absurd z32 (by decide)
        · skip
          refine hk_aload_n dX9_isNoGiving_35 rfl rfl rfl ?_
          refine hk_getf dX9_isNoGiving_36 rfl fl_X9_16 (hm_g0 hk) rfl ?_
          refine hk_iload_n dX9_isNoGiving_39 rfl rfl rfl ?_
          refine hk_callF dX9_isNoGiving_40 rfl mf_X9_64 (cj_get hfl (hm_l0 hk ok) (hm_r (i := 0) hk ok (by omega) ok.2.2.2.2.1.1) (by omega) (by rw [← hm_n0 ok]; exact (hm_cap ok ok.2.2.2.2.1.1).1) (Nat.lt_of_le_of_lt (hm_cap ok ok.2.2.2.2.1.1).2.2 (by decide)) (hm_kg ok (by omega))) rfl rfl (hm_l0 hk ok) rfl rfl (by decide) ⟨Nat.zero_le _, Nat.zero_le _⟩ (Nat.le_of_ble_eq_true rfl) (hk_kr fun v h1 q => ?_) hk_nx
          obtain ⟨rfl, rfl⟩ := q
          refine hk_castJ dX9_isNoGiving_45 rfl (fun U H z => (z.2.1.2.2 _ (hm_kl ok (by omega))).1) kl_X9_45 ?_
          have hkl := hm_kl ok hb2
          refine hk_callJ dX9_isNoGiving_48 rfl mv_X9_68 (cj_cc hfl (hm_kl ok (by omega))) rfl rfl (fun U H z => (z.2.1.2.2 _ (hm_kl ok (by omega))).1) (by decide) ⟨Nat.zero_le _, Nat.zero_le _⟩ (Nat.le_of_ble_eq_true rfl) (hk_ki fun v h1 q => ?_) hk_nx
          obtain ⟨rfl, rfl⟩ := q
          refine hk_bipush (v := nI 98) dX9_isNoGiving_51 rfl (by decide) ?_
          refine cx_icmp_eq (tgt := 76) (by omega) (by omega) dX9_isNoGiving_53 (by decide) rfl (fun z53 => ?_) (fun z53 => ?_)
          · skip
            have f53 : cd_B S b2 = 0 := cd_B_1 ok (by omega) (Or.inl z53)
            refine hk_iconst (v := nI 0) dX9_isNoGiving_76 rfl (by decide) ?_
            refine hk_istore dX9_isNoGiving_77 rfl (by decide) rfl ?_
            refine hk_aload_n dX9_isNoGiving_79 rfl rfl rfl ?_
            refine hk_iload_n dX9_isNoGiving_80 rfl rfl rfl ?_
            refine hk_callS dX9_isNoGiving_81 rfl ms_X9_87 (cm_isMetal hfl) rfl rfl (by decide) ⟨Nat.zero_le _, Nat.zero_le _⟩ (Nat.le_of_ble_eq_true rfl) (hk_ki fun v h1 q => ?_) hk_nx
            obtain ⟨rfl, rfl⟩ := q
            refine cx_ifb_eq (tgt := 108) dX9_isNoGiving_84 (by decide) rfl (fun z84 => ?_) (fun z84 => ?_)
            · have f84 : cd_M mt = 2 := cd_M_2 (of_decide_eq_false z84)
              refine hk_iconst (v := nI 2) dX9_isNoGiving_108 rfl (by decide) ?_
              refine hk_goto (tgt := 133) dX9_isNoGiving_109 (by decide) ?_
              refine hk_callV dX9_isNoGiving_133 rfl mv_X9_80 (cm_isWrong (k := 2) hfl (by decide) hk) rfl rfl (hm_g0 hk) rfl rfl (by decide) ⟨Nat.zero_le _, Nat.zero_le _⟩ (Nat.le_of_ble_eq_true rfl) (hk_ki fun v h1 q => ?_) hk_nx
              obtain ⟨rfl, rfl⟩ := q
              try rw [hm_mt_mt]
              exact hk_ireturn rfl (cx_b_nar _) dX9_isNoGiving_136 (by have e : cd_ng S c 1 (nI a) (nI b2) mt q = 2 := (by first | (simp [cd_ng, cs_sq, f6, vaa, f14, vab2, f53, f84]; done) | (rcases cd_O_or S a with o0 | o0 <;> rcases cd_O_or S b2 with o1 | o1 <;> simp [cd_ng, cs_sq, f6, vaa, f14, vab2, f53, f84, o0, o1])); rw [e]; exact ⟨_, rfl, rfl, rfl⟩)
            · have f84 : cd_M mt = 0 := of_decide_eq_true z84
              refine hk_iload dX9_isNoGiving_87 rfl rfl ?_
              refine hk_iconst (v := nI 1) dX9_isNoGiving_89 rfl (by decide) ?_
              refine hk_bipush (v := nI 90) dX9_isNoGiving_90 rfl (by decide) ?_
              refine hk_callS dX9_isNoGiving_92 rfl ms_X9_60 (cm_isBetween hfl) rfl rfl (by decide) ⟨Nat.zero_le _, Nat.zero_le _⟩ (Nat.le_of_ble_eq_true rfl) (hk_ki fun v h1 q => ?_) hk_nx
              obtain ⟨rfl, rfl⟩ := q
              refine cx_top (congrArg cx_b (cs_bwR _ _)) ?_
              refine cx_ifb_eq (tgt := 108) dX9_isNoGiving_95 (by decide) rfl (fun z95 => ?_) (fun z95 => ?_)
              · have f95 : cd_R q 90 = 2 := cd_R_2 (of_decide_eq_false z95)
                refine hk_iconst (v := nI 2) dX9_isNoGiving_108 rfl (by decide) ?_
                refine hk_goto (tgt := 133) dX9_isNoGiving_109 (by decide) ?_
                refine hk_callV dX9_isNoGiving_133 rfl mv_X9_80 (cm_isWrong (k := 2) hfl (by decide) hk) rfl rfl (hm_g0 hk) rfl rfl (by decide) ⟨Nat.zero_le _, Nat.zero_le _⟩ (Nat.le_of_ble_eq_true rfl) (hk_ki fun v h1 q => ?_) hk_nx
                obtain ⟨rfl, rfl⟩ := q
                try rw [hm_mt_mt]
                exact hk_ireturn rfl (cx_b_nar _) dX9_isNoGiving_136 (by have e : cd_ng S c 1 (nI a) (nI b2) mt q = 2 := (by first | (simp [cd_ng, cs_sq, f6, vaa, f14, vab2, f53, f84, f95]; done) | (rcases cd_O_or S a with o0 | o0 <;> rcases cd_O_or S b2 with o1 | o1 <;> simp [cd_ng, cs_sq, f6, vaa, f14, vab2, f53, f84, f95, o0, o1])); rw [e]; exact ⟨_, rfl, rfl, rfl⟩)
              · have f95 : cd_R q 90 = 0 := of_decide_eq_true z95
                refine hk_iload_n dX9_isNoGiving_98 rfl rfl rfl ?_
                refine hk_iload_n dX9_isNoGiving_99 rfl rfl rfl ?_
                refine cx_icmp_eq (tgt := 108) (by omega) (by omega) dX9_isNoGiving_100 (by decide) rfl (fun z100 => ?_) (fun z100 => ?_)
                · skip
                  have f100 : cd_D (nI a) (nI b2) = 2 := cd_D_eq z100
                  refine hk_iconst (v := nI 2) dX9_isNoGiving_108 rfl (by decide) ?_
                  refine hk_goto (tgt := 133) dX9_isNoGiving_109 (by decide) ?_
                  refine hk_callV dX9_isNoGiving_133 rfl mv_X9_80 (cm_isWrong (k := 2) hfl (by decide) hk) rfl rfl (hm_g0 hk) rfl rfl (by decide) ⟨Nat.zero_le _, Nat.zero_le _⟩ (Nat.le_of_ble_eq_true rfl) (hk_ki fun v h1 q => ?_) hk_nx
                  obtain ⟨rfl, rfl⟩ := q
                  try rw [hm_mt_mt]
                  exact hk_ireturn rfl (cx_b_nar _) dX9_isNoGiving_136 (by have e : cd_ng S c 1 (nI a) (nI b2) mt q = 2 := (by first | (simp [cd_ng, cs_sq, f6, vaa, f14, vab2, f53, f84, f95, f100]; done) | (rcases cd_O_or S a with o0 | o0 <;> rcases cd_O_or S b2 with o1 | o1 <;> simp [cd_ng, cs_sq, f6, vaa, f14, vab2, f53, f84, f95, f100, o0, o1])); rw [e]; exact ⟨_, rfl, rfl, rfl⟩)
                · skip
                  have f100 : cd_D (nI a) (nI b2) = 0 := cd_D_ne z100
                  refine hk_iload dX9_isNoGiving_103 rfl rfl ?_
                  refine cx_ifn_eq (tgt := 112) (by omega) dX9_isNoGiving_105 (by decide) rfl (fun z105 => ?_) (fun z105 => ?_)
                  · skip
                    refine hk_aload_n dX9_isNoGiving_112 rfl rfl rfl ?_
                    refine hk_iload_n dX9_isNoGiving_113 rfl rfl rfl ?_
                    refine hk_callV dX9_isNoGiving_114 rfl mv_X9_91 (cm_hasFailed hfl hk ok (by omega)) rfl rfl (hm_g0 hk) rfl rfl (by decide) ⟨Nat.zero_le _, Nat.zero_le _⟩ (Nat.le_of_ble_eq_true rfl) (hk_ki fun v h1 q => ?_) hk_nx
                    obtain ⟨rfl, rfl⟩ := q
                    refine cx_ifb_ne (tgt := 128) dX9_isNoGiving_117 (by decide) rfl (fun z117 => ?_) (fun z117 => ?_)
                    · have f117 : cd_O S a = 3 := cd_O_3 (of_decide_eq_true z117)
                      refine hk_iconst (v := nI 3) dX9_isNoGiving_128 rfl (by decide) ?_
                      refine hk_goto (tgt := 133) dX9_isNoGiving_129 (by decide) ?_
                      refine hk_callV dX9_isNoGiving_133 rfl mv_X9_80 (cm_isWrong (k := 3) hfl (by decide) hk) rfl rfl (hm_g0 hk) rfl rfl (by decide) ⟨Nat.zero_le _, Nat.zero_le _⟩ (Nat.le_of_ble_eq_true rfl) (hk_ki fun v h1 q => ?_) hk_nx
                      obtain ⟨rfl, rfl⟩ := q
                      try rw [hm_mt_mt]
                      exact hk_ireturn rfl (cx_b_nar _) dX9_isNoGiving_136 (by have e : cd_ng S c 1 (nI a) (nI b2) mt q = 3 := (by first | (simp [cd_ng, cs_sq, f6, vaa, f14, vab2, f53, f84, f95, f100, f117]; done) | (rcases cd_O_or S a with o0 | o0 <;> rcases cd_O_or S b2 with o1 | o1 <;> simp [cd_ng, cs_sq, f6, vaa, f14, vab2, f53, f84, f95, f100, f117, o0, o1])); rw [e]; exact ⟨_, rfl, rfl, rfl⟩)
                    · have f117 : cd_O S a = 0 := Decidable.of_not_not (of_decide_eq_false z117)
                      refine hk_aload_n dX9_isNoGiving_120 rfl rfl rfl ?_
                      refine hk_iload_n dX9_isNoGiving_121 rfl rfl rfl ?_
                      refine hk_callV dX9_isNoGiving_122 rfl mv_X9_91 (cm_hasFailed hfl hk ok (by omega)) rfl rfl (hm_g0 hk) rfl rfl (by decide) ⟨Nat.zero_le _, Nat.zero_le _⟩ (Nat.le_of_ble_eq_true rfl) (hk_ki fun v h1 q => ?_) hk_nx
                      obtain ⟨rfl, rfl⟩ := q
                      refine cx_ifb_eq (tgt := 132) dX9_isNoGiving_125 (by decide) rfl (fun z125 => ?_) (fun z125 => ?_)
                      · have f125 : cd_O S b2 = 0 := Decidable.of_not_not (of_decide_eq_false z125)
                        refine hk_iconst (v := nI 0) dX9_isNoGiving_132 rfl (by decide) ?_
                        refine hk_callV dX9_isNoGiving_133 rfl mv_X9_80 (cm_isWrong (k := 0) hfl (by decide) hk) rfl rfl (hm_g0 hk) rfl rfl (by decide) ⟨Nat.zero_le _, Nat.zero_le _⟩ (Nat.le_of_ble_eq_true rfl) (hk_ki fun v h1 q => ?_) hk_nx
                        obtain ⟨rfl, rfl⟩ := q
                        try rw [hm_mt_mt]
                        exact hk_ireturn rfl (cx_b_nar _) dX9_isNoGiving_136 (by have e : cd_ng S c 1 (nI a) (nI b2) mt q = 0 := (by first | (simp [cd_ng, cs_sq, f6, vaa, f14, vab2, f53, f84, f95, f100, f117, f125]; done) | (rcases cd_O_or S a with o0 | o0 <;> rcases cd_O_or S b2 with o1 | o1 <;> simp [cd_ng, cs_sq, f6, vaa, f14, vab2, f53, f84, f95, f100, f117, f125, o0, o1])); rw [e]; exact ⟨_, rfl, rfl, rfl⟩)
                      · have f125 : cd_O S b2 = 3 := cd_O_3 (of_decide_eq_true z125)
                        refine hk_iconst (v := nI 3) dX9_isNoGiving_128 rfl (by decide) ?_
                        refine hk_goto (tgt := 133) dX9_isNoGiving_129 (by decide) ?_
                        refine hk_callV dX9_isNoGiving_133 rfl mv_X9_80 (cm_isWrong (k := 3) hfl (by decide) hk) rfl rfl (hm_g0 hk) rfl rfl (by decide) ⟨Nat.zero_le _, Nat.zero_le _⟩ (Nat.le_of_ble_eq_true rfl) (hk_ki fun v h1 q => ?_) hk_nx
                        obtain ⟨rfl, rfl⟩ := q
                        try rw [hm_mt_mt]
                        exact hk_ireturn rfl (cx_b_nar _) dX9_isNoGiving_136 (by have e : cd_ng S c 1 (nI a) (nI b2) mt q = 3 := (by first | (simp [cd_ng, cs_sq, f6, vaa, f14, vab2, f53, f84, f95, f100, f117, f125]; done) | (rcases cd_O_or S a with o0 | o0 <;> rcases cd_O_or S b2 with o1 | o1 <;> simp [cd_ng, cs_sq, f6, vaa, f14, vab2, f53, f84, f95, f100, f117, f125, o0, o1])); rw [e]; exact ⟨_, rfl, rfl, rfl⟩)
                  · exact absurd z105 (by decide)
          · skip
            refine hk_aload_n dX9_isNoGiving_56 rfl rfl rfl ?_
            refine hk_iload_n dX9_isNoGiving_57 rfl rfl rfl ?_
            refine hk_callV dX9_isNoGiving_58 rfl mv_X9_91 (cm_hasFailed hfl hk ok (by omega)) rfl rfl (hm_g0 hk) rfl rfl (by decide) ⟨Nat.zero_le _, Nat.zero_le _⟩ (Nat.le_of_ble_eq_true rfl) (hk_ki fun v h1 q => ?_) hk_nx
            obtain ⟨rfl, rfl⟩ := q
            refine cx_ifb_eq (tgt := 72) dX9_isNoGiving_61 (by decide) rfl (fun z61 => ?_) (fun z61 => ?_)
            · have f61 : cd_O S b2 = 0 := Decidable.of_not_not (of_decide_eq_false z61)
              have g61 : cd_B S b2 = 2 := cd_B_0 ok (by omega) z53 f61
              refine hk_iconst (v := nI 1) dX9_isNoGiving_72 rfl (by decide) ?_
              refine hk_goto (tgt := 77) dX9_isNoGiving_73 (by decide) ?_
              refine hk_istore dX9_isNoGiving_77 rfl (by decide) rfl ?_
              refine hk_aload_n dX9_isNoGiving_79 rfl rfl rfl ?_
              refine hk_iload_n dX9_isNoGiving_80 rfl rfl rfl ?_
              refine hk_callS dX9_isNoGiving_81 rfl ms_X9_87 (cm_isMetal hfl) rfl rfl (by decide) ⟨Nat.zero_le _, Nat.zero_le _⟩ (Nat.le_of_ble_eq_true rfl) (hk_ki fun v h1 q => ?_) hk_nx
              obtain ⟨rfl, rfl⟩ := q
              refine cx_ifb_eq (tgt := 108) dX9_isNoGiving_84 (by decide) rfl (fun z84 => ?_) (fun z84 => ?_)
              · have f84 : cd_M mt = 2 := cd_M_2 (of_decide_eq_false z84)
                refine hk_iconst (v := nI 2) dX9_isNoGiving_108 rfl (by decide) ?_
                refine hk_goto (tgt := 133) dX9_isNoGiving_109 (by decide) ?_
                refine hk_callV dX9_isNoGiving_133 rfl mv_X9_80 (cm_isWrong (k := 2) hfl (by decide) hk) rfl rfl (hm_g0 hk) rfl rfl (by decide) ⟨Nat.zero_le _, Nat.zero_le _⟩ (Nat.le_of_ble_eq_true rfl) (hk_ki fun v h1 q => ?_) hk_nx
                obtain ⟨rfl, rfl⟩ := q
                try rw [hm_mt_mt]
                exact hk_ireturn rfl (cx_b_nar _) dX9_isNoGiving_136 (by have e : cd_ng S c 1 (nI a) (nI b2) mt q = 2 := (by first | (simp [cd_ng, cs_sq, f6, vaa, f14, vab2, f61, g61, f84]; done) | (rcases cd_O_or S a with o0 | o0 <;> rcases cd_O_or S b2 with o1 | o1 <;> simp [cd_ng, cs_sq, f6, vaa, f14, vab2, f61, g61, f84, o0, o1])); rw [e]; exact ⟨_, rfl, rfl, rfl⟩)
              · have f84 : cd_M mt = 0 := of_decide_eq_true z84
                refine hk_iload dX9_isNoGiving_87 rfl rfl ?_
                refine hk_iconst (v := nI 1) dX9_isNoGiving_89 rfl (by decide) ?_
                refine hk_bipush (v := nI 90) dX9_isNoGiving_90 rfl (by decide) ?_
                refine hk_callS dX9_isNoGiving_92 rfl ms_X9_60 (cm_isBetween hfl) rfl rfl (by decide) ⟨Nat.zero_le _, Nat.zero_le _⟩ (Nat.le_of_ble_eq_true rfl) (hk_ki fun v h1 q => ?_) hk_nx
                obtain ⟨rfl, rfl⟩ := q
                refine cx_top (congrArg cx_b (cs_bwR _ _)) ?_
                refine cx_ifb_eq (tgt := 108) dX9_isNoGiving_95 (by decide) rfl (fun z95 => ?_) (fun z95 => ?_)
                · have f95 : cd_R q 90 = 2 := cd_R_2 (of_decide_eq_false z95)
                  refine hk_iconst (v := nI 2) dX9_isNoGiving_108 rfl (by decide) ?_
                  refine hk_goto (tgt := 133) dX9_isNoGiving_109 (by decide) ?_
                  refine hk_callV dX9_isNoGiving_133 rfl mv_X9_80 (cm_isWrong (k := 2) hfl (by decide) hk) rfl rfl (hm_g0 hk) rfl rfl (by decide) ⟨Nat.zero_le _, Nat.zero_le _⟩ (Nat.le_of_ble_eq_true rfl) (hk_ki fun v h1 q => ?_) hk_nx
                  obtain ⟨rfl, rfl⟩ := q
                  try rw [hm_mt_mt]
                  exact hk_ireturn rfl (cx_b_nar _) dX9_isNoGiving_136 (by have e : cd_ng S c 1 (nI a) (nI b2) mt q = 2 := (by first | (simp [cd_ng, cs_sq, f6, vaa, f14, vab2, f61, g61, f84, f95]; done) | (rcases cd_O_or S a with o0 | o0 <;> rcases cd_O_or S b2 with o1 | o1 <;> simp [cd_ng, cs_sq, f6, vaa, f14, vab2, f61, g61, f84, f95, o0, o1])); rw [e]; exact ⟨_, rfl, rfl, rfl⟩)
                · have f95 : cd_R q 90 = 0 := of_decide_eq_true z95
                  refine hk_iload_n dX9_isNoGiving_98 rfl rfl rfl ?_
                  refine hk_iload_n dX9_isNoGiving_99 rfl rfl rfl ?_
                  refine cx_icmp_eq (tgt := 108) (by omega) (by omega) dX9_isNoGiving_100 (by decide) rfl (fun z100 => ?_) (fun z100 => ?_)
                  · skip
                    have f100 : cd_D (nI a) (nI b2) = 2 := cd_D_eq z100
                    refine hk_iconst (v := nI 2) dX9_isNoGiving_108 rfl (by decide) ?_
                    refine hk_goto (tgt := 133) dX9_isNoGiving_109 (by decide) ?_
                    refine hk_callV dX9_isNoGiving_133 rfl mv_X9_80 (cm_isWrong (k := 2) hfl (by decide) hk) rfl rfl (hm_g0 hk) rfl rfl (by decide) ⟨Nat.zero_le _, Nat.zero_le _⟩ (Nat.le_of_ble_eq_true rfl) (hk_ki fun v h1 q => ?_) hk_nx
                    obtain ⟨rfl, rfl⟩ := q
                    try rw [hm_mt_mt]
                    exact hk_ireturn rfl (cx_b_nar _) dX9_isNoGiving_136 (by have e : cd_ng S c 1 (nI a) (nI b2) mt q = 2 := (by first | (simp [cd_ng, cs_sq, f6, vaa, f14, vab2, f61, g61, f84, f95, f100]; done) | (rcases cd_O_or S a with o0 | o0 <;> rcases cd_O_or S b2 with o1 | o1 <;> simp [cd_ng, cs_sq, f6, vaa, f14, vab2, f61, g61, f84, f95, f100, o0, o1])); rw [e]; exact ⟨_, rfl, rfl, rfl⟩)
                  · skip
                    have f100 : cd_D (nI a) (nI b2) = 0 := cd_D_ne z100
                    refine hk_iload dX9_isNoGiving_103 rfl rfl ?_
                    refine cx_ifn_eq (tgt := 112) (by omega) dX9_isNoGiving_105 (by decide) rfl (fun z105 => ?_) (fun z105 => ?_)
                    · exact absurd z105 (by decide)
                    · skip
                      refine hk_iconst (v := nI 2) dX9_isNoGiving_108 rfl (by decide) ?_
                      refine hk_goto (tgt := 133) dX9_isNoGiving_109 (by decide) ?_
                      refine hk_callV dX9_isNoGiving_133 rfl mv_X9_80 (cm_isWrong (k := 2) hfl (by decide) hk) rfl rfl (hm_g0 hk) rfl rfl (by decide) ⟨Nat.zero_le _, Nat.zero_le _⟩ (Nat.le_of_ble_eq_true rfl) (hk_ki fun v h1 q => ?_) hk_nx
                      obtain ⟨rfl, rfl⟩ := q
                      try rw [hm_mt_mt]
                      exact hk_ireturn rfl (cx_b_nar _) dX9_isNoGiving_136 (by have e : cd_ng S c 1 (nI a) (nI b2) mt q = 2 := (by first | (simp [cd_ng, cs_sq, f6, vaa, f14, vab2, f61, g61, f84, f95, f100]; done) | (rcases cd_O_or S a with o0 | o0 <;> rcases cd_O_or S b2 with o1 | o1 <;> simp [cd_ng, cs_sq, f6, vaa, f14, vab2, f61, g61, f84, f95, f100, o0, o1])); rw [e]; exact ⟨_, rfl, rfl, rfl⟩)
            · have f61 : cd_O S b2 = 3 := cd_O_3 (of_decide_eq_true z61)
              have g61 : cd_B S b2 = 0 := cd_B_1 ok (by omega) (Or.inr f61)
              refine hk_aload_n dX9_isNoGiving_64 rfl rfl rfl ?_
              refine hk_iload_n dX9_isNoGiving_65 rfl rfl rfl ?_
              refine hk_callV dX9_isNoGiving_66 rfl mv_X9_146 (cm_wasBank hfl hk ok (by omega)) rfl rfl (hm_g0 hk) rfl rfl (by decide) ⟨Nat.zero_le _, Nat.zero_le _⟩ (Nat.le_of_ble_eq_true rfl) (hk_ki fun v h1 q => ?_) hk_nx
              obtain ⟨rfl, rfl⟩ := q
              refine cx_ifb_ne (tgt := 76) dX9_isNoGiving_69 (by decide) rfl (fun z69 => ?_) (fun z69 => ?_)
              · have f69 : cd_O S b2 = 3 := cd_O_3 (of_decide_eq_true z69)
                refine hk_iconst (v := nI 0) dX9_isNoGiving_76 rfl (by decide) ?_
                refine hk_istore dX9_isNoGiving_77 rfl (by decide) rfl ?_
                refine hk_aload_n dX9_isNoGiving_79 rfl rfl rfl ?_
                refine hk_iload_n dX9_isNoGiving_80 rfl rfl rfl ?_
                refine hk_callS dX9_isNoGiving_81 rfl ms_X9_87 (cm_isMetal hfl) rfl rfl (by decide) ⟨Nat.zero_le _, Nat.zero_le _⟩ (Nat.le_of_ble_eq_true rfl) (hk_ki fun v h1 q => ?_) hk_nx
                obtain ⟨rfl, rfl⟩ := q
                refine cx_ifb_eq (tgt := 108) dX9_isNoGiving_84 (by decide) rfl (fun z84 => ?_) (fun z84 => ?_)
                · have f84 : cd_M mt = 2 := cd_M_2 (of_decide_eq_false z84)
                  refine hk_iconst (v := nI 2) dX9_isNoGiving_108 rfl (by decide) ?_
                  refine hk_goto (tgt := 133) dX9_isNoGiving_109 (by decide) ?_
                  refine hk_callV dX9_isNoGiving_133 rfl mv_X9_80 (cm_isWrong (k := 2) hfl (by decide) hk) rfl rfl (hm_g0 hk) rfl rfl (by decide) ⟨Nat.zero_le _, Nat.zero_le _⟩ (Nat.le_of_ble_eq_true rfl) (hk_ki fun v h1 q => ?_) hk_nx
                  obtain ⟨rfl, rfl⟩ := q
                  try rw [hm_mt_mt]
                  exact hk_ireturn rfl (cx_b_nar _) dX9_isNoGiving_136 (by have e : cd_ng S c 1 (nI a) (nI b2) mt q = 2 := (by first | (simp [cd_ng, cs_sq, f6, vaa, f14, vab2, f61, g61, f69, f84]; done) | (rcases cd_O_or S a with o0 | o0 <;> rcases cd_O_or S b2 with o1 | o1 <;> simp [cd_ng, cs_sq, f6, vaa, f14, vab2, f61, g61, f69, f84, o0, o1])); rw [e]; exact ⟨_, rfl, rfl, rfl⟩)
                · have f84 : cd_M mt = 0 := of_decide_eq_true z84
                  refine hk_iload dX9_isNoGiving_87 rfl rfl ?_
                  refine hk_iconst (v := nI 1) dX9_isNoGiving_89 rfl (by decide) ?_
                  refine hk_bipush (v := nI 90) dX9_isNoGiving_90 rfl (by decide) ?_
                  refine hk_callS dX9_isNoGiving_92 rfl ms_X9_60 (cm_isBetween hfl) rfl rfl (by decide) ⟨Nat.zero_le _, Nat.zero_le _⟩ (Nat.le_of_ble_eq_true rfl) (hk_ki fun v h1 q => ?_) hk_nx
                  obtain ⟨rfl, rfl⟩ := q
                  refine cx_top (congrArg cx_b (cs_bwR _ _)) ?_
                  refine cx_ifb_eq (tgt := 108) dX9_isNoGiving_95 (by decide) rfl (fun z95 => ?_) (fun z95 => ?_)
                  · have f95 : cd_R q 90 = 2 := cd_R_2 (of_decide_eq_false z95)
                    refine hk_iconst (v := nI 2) dX9_isNoGiving_108 rfl (by decide) ?_
                    refine hk_goto (tgt := 133) dX9_isNoGiving_109 (by decide) ?_
                    refine hk_callV dX9_isNoGiving_133 rfl mv_X9_80 (cm_isWrong (k := 2) hfl (by decide) hk) rfl rfl (hm_g0 hk) rfl rfl (by decide) ⟨Nat.zero_le _, Nat.zero_le _⟩ (Nat.le_of_ble_eq_true rfl) (hk_ki fun v h1 q => ?_) hk_nx
                    obtain ⟨rfl, rfl⟩ := q
                    try rw [hm_mt_mt]
                    exact hk_ireturn rfl (cx_b_nar _) dX9_isNoGiving_136 (by have e : cd_ng S c 1 (nI a) (nI b2) mt q = 2 := (by first | (simp [cd_ng, cs_sq, f6, vaa, f14, vab2, f61, g61, f69, f84, f95]; done) | (rcases cd_O_or S a with o0 | o0 <;> rcases cd_O_or S b2 with o1 | o1 <;> simp [cd_ng, cs_sq, f6, vaa, f14, vab2, f61, g61, f69, f84, f95, o0, o1])); rw [e]; exact ⟨_, rfl, rfl, rfl⟩)
                  · have f95 : cd_R q 90 = 0 := of_decide_eq_true z95
                    refine hk_iload_n dX9_isNoGiving_98 rfl rfl rfl ?_
                    refine hk_iload_n dX9_isNoGiving_99 rfl rfl rfl ?_
                    refine cx_icmp_eq (tgt := 108) (by omega) (by omega) dX9_isNoGiving_100 (by decide) rfl (fun z100 => ?_) (fun z100 => ?_)
                    · skip
                      have f100 : cd_D (nI a) (nI b2) = 2 := cd_D_eq z100
                      refine hk_iconst (v := nI 2) dX9_isNoGiving_108 rfl (by decide) ?_
                      refine hk_goto (tgt := 133) dX9_isNoGiving_109 (by decide) ?_
                      refine hk_callV dX9_isNoGiving_133 rfl mv_X9_80 (cm_isWrong (k := 2) hfl (by decide) hk) rfl rfl (hm_g0 hk) rfl rfl (by decide) ⟨Nat.zero_le _, Nat.zero_le _⟩ (Nat.le_of_ble_eq_true rfl) (hk_ki fun v h1 q => ?_) hk_nx
                      obtain ⟨rfl, rfl⟩ := q
                      try rw [hm_mt_mt]
                      exact hk_ireturn rfl (cx_b_nar _) dX9_isNoGiving_136 (by have e : cd_ng S c 1 (nI a) (nI b2) mt q = 2 := (by first | (simp [cd_ng, cs_sq, f6, vaa, f14, vab2, f61, g61, f69, f84, f95, f100]; done) | (rcases cd_O_or S a with o0 | o0 <;> rcases cd_O_or S b2 with o1 | o1 <;> simp [cd_ng, cs_sq, f6, vaa, f14, vab2, f61, g61, f69, f84, f95, f100, o0, o1])); rw [e]; exact ⟨_, rfl, rfl, rfl⟩)
                    · skip
                      have f100 : cd_D (nI a) (nI b2) = 0 := cd_D_ne z100
                      refine hk_iload dX9_isNoGiving_103 rfl rfl ?_
                      refine cx_ifn_eq (tgt := 112) (by omega) dX9_isNoGiving_105 (by decide) rfl (fun z105 => ?_) (fun z105 => ?_)
                      · skip
                        refine hk_aload_n dX9_isNoGiving_112 rfl rfl rfl ?_
                        refine hk_iload_n dX9_isNoGiving_113 rfl rfl rfl ?_
                        refine hk_callV dX9_isNoGiving_114 rfl mv_X9_91 (cm_hasFailed hfl hk ok (by omega)) rfl rfl (hm_g0 hk) rfl rfl (by decide) ⟨Nat.zero_le _, Nat.zero_le _⟩ (Nat.le_of_ble_eq_true rfl) (hk_ki fun v h1 q => ?_) hk_nx
                        obtain ⟨rfl, rfl⟩ := q
                        refine cx_ifb_ne (tgt := 128) dX9_isNoGiving_117 (by decide) rfl (fun z117 => ?_) (fun z117 => ?_)
                        · have f117 : cd_O S a = 3 := cd_O_3 (of_decide_eq_true z117)
                          refine hk_iconst (v := nI 3) dX9_isNoGiving_128 rfl (by decide) ?_
                          refine hk_goto (tgt := 133) dX9_isNoGiving_129 (by decide) ?_
                          refine hk_callV dX9_isNoGiving_133 rfl mv_X9_80 (cm_isWrong (k := 3) hfl (by decide) hk) rfl rfl (hm_g0 hk) rfl rfl (by decide) ⟨Nat.zero_le _, Nat.zero_le _⟩ (Nat.le_of_ble_eq_true rfl) (hk_ki fun v h1 q => ?_) hk_nx
                          obtain ⟨rfl, rfl⟩ := q
                          try rw [hm_mt_mt]
                          exact hk_ireturn rfl (cx_b_nar _) dX9_isNoGiving_136 (by have e : cd_ng S c 1 (nI a) (nI b2) mt q = 3 := (by first | (simp [cd_ng, cs_sq, f6, vaa, f14, vab2, f61, g61, f69, f84, f95, f100, f117]; done) | (rcases cd_O_or S a with o0 | o0 <;> rcases cd_O_or S b2 with o1 | o1 <;> simp [cd_ng, cs_sq, f6, vaa, f14, vab2, f61, g61, f69, f84, f95, f100, f117, o0, o1])); rw [e]; exact ⟨_, rfl, rfl, rfl⟩)
                        · have f117 : cd_O S a = 0 := Decidable.of_not_not (of_decide_eq_false z117)
                          refine hk_aload_n dX9_isNoGiving_120 rfl rfl rfl ?_
                          refine hk_iload_n dX9_isNoGiving_121 rfl rfl rfl ?_
                          refine hk_callV dX9_isNoGiving_122 rfl mv_X9_91 (cm_hasFailed hfl hk ok (by omega)) rfl rfl (hm_g0 hk) rfl rfl (by decide) ⟨Nat.zero_le _, Nat.zero_le _⟩ (Nat.le_of_ble_eq_true rfl) (hk_ki fun v h1 q => ?_) hk_nx
                          obtain ⟨rfl, rfl⟩ := q
                          refine cx_ifb_eq (tgt := 132) dX9_isNoGiving_125 (by decide) rfl (fun z125 => ?_) (fun z125 => ?_)
                          · exact absurd ((f69).symm.trans (Decidable.of_not_not (of_decide_eq_false z125))) (by decide)
                          · have f125 : cd_O S b2 = 3 := cd_O_3 (of_decide_eq_true z125)
                            refine hk_iconst (v := nI 3) dX9_isNoGiving_128 rfl (by decide) ?_
                            refine hk_goto (tgt := 133) dX9_isNoGiving_129 (by decide) ?_
                            refine hk_callV dX9_isNoGiving_133 rfl mv_X9_80 (cm_isWrong (k := 3) hfl (by decide) hk) rfl rfl (hm_g0 hk) rfl rfl (by decide) ⟨Nat.zero_le _, Nat.zero_le _⟩ (Nat.le_of_ble_eq_true rfl) (hk_ki fun v h1 q => ?_) hk_nx
                            obtain ⟨rfl, rfl⟩ := q
                            try rw [hm_mt_mt]
                            exact hk_ireturn rfl (cx_b_nar _) dX9_isNoGiving_136 (by have e : cd_ng S c 1 (nI a) (nI b2) mt q = 3 := (by first | (simp [cd_ng, cs_sq, f6, vaa, f14, vab2, f61, g61, f69, f84, f95, f100, f117, f125]; done) | (rcases cd_O_or S a with o0 | o0 <;> rcases cd_O_or S b2 with o1 | o1 <;> simp [cd_ng, cs_sq, f6, vaa, f14, vab2, f61, g61, f69, f84, f95, f100, f117, f125, o0, o1])); rw [e]; exact ⟨_, rfl, rfl, rfl⟩)
                      · exact absurd z105 (by decide)
              · exact absurd ((f61).symm.trans (Decidable.of_not_not (of_decide_eq_false z69))) (by decide)
      · exact absurd z25 (by decide)
end CM10

section LP
variable {G : hk_G} {l : Launch}
theorem nI_back (x : Int32) : x = nI x.toBitVec.toNat := by
  apply Int32.toBitVec_inj.1
  show x.toBitVec = BitVec.ofNat 32 x.toBitVec.toNat
  simp
theorem lp_and31 (k : Nat) : nI k &&& nI 31 = nI (k % 32) := by
  have e : nI k &&& nI 31 = nI (k &&& 31) := by
    unfold nI
    apply Int32.toBitVec_inj.1
    simp
  rw [e, show (31 : Nat) = 2 ^ 5 - 1 from rfl, Nat.and_two_pow_sub_one_eq_mod]
theorem lp_gt {a b : Nat} (ha : a < 4000) (hb : b < 4000) : nI a - nI 5 < nI b ↔ a < b + 5 := by
  rw [Int32.lt_iff_toInt_lt, pk_sub_toInt (by omega) (by omega), nI_toInt (by omega)]
  omega
theorem dL_law_28 : decode cL_law 28 = .ok (.iload 5, 2) := by decide +kernel
theorem dL_law_30 : decode cL_law 30 = .ok (.aload_n 0, 1) := by decide +kernel
theorem dL_law_31 : decode cL_law 31 = .ok (.arraylength, 1) := by decide +kernel
theorem dL_law_32 : decode cL_law 32 = .ok (.iconst 5, 1) := by decide +kernel
theorem dL_law_33 : decode cL_law 33 = .ok (.isub, 1) := by decide +kernel
theorem dL_law_34 : decode cL_law 34 = .ok (.if_icmp .gt 2257, 3) := by decide +kernel
theorem dL_law_37 : decode cL_law 37 = .ok (.aload_n 0, 1) := by decide +kernel
theorem dL_law_38 : decode cL_law 38 = .ok (.iload 5, 2) := by decide +kernel
theorem dL_law_40 : decode cL_law 40 = .ok (.iaload, 1) := by decide +kernel
theorem dL_law_41 : decode cL_law 41 = .ok (.bipush 31, 2) := by decide +kernel
theorem dL_law_43 : decode cL_law 43 = .ok (.iand, 1) := by decide +kernel
theorem dL_law_44 : decode cL_law 44 = .ok (.tableswitch 2241 0 30 #[140, 198, 254, 336, 418, 500, 568, 659, 729, 823, 917, 1011, 1091, 1183, 1263, 1331, 1423, 1491, 1547, 1560, 1640, 1720, 1790, 1846, 1902, 1958, 2028, 2083, 2097, 2163, 2228], 140) := by decide +kernel
theorem dL_law_2285 : decode cL_law 2285 = .ok (.iinc 5 5, 3) := by decide +kernel
theorem dL_law_2288 : decode cL_law 2288 = .ok (.goto (-2260), 3) := by decide +kernel
theorem dL_law_2291 : decode cL_law 2291 = .ok (.iconst 1, 1) := by decide +kernel
theorem dL_law_2292 : decode cL_law 2292 = .ok (.ireturn, 1) := by decide +kernel
theorem dL_law_0 : decode cL_law 0 = .ok (.new 8, 3) := by decide +kernel
theorem dL_law_3 : decode cL_law 3 = .ok (.dup, 1) := by decide +kernel
theorem dL_law_4 : decode cL_law 4 = .ok (.invokespecial 118, 3) := by decide +kernel
theorem dL_law_7 : decode cL_law 7 = .ok (.astore_n 1, 1) := by decide +kernel
theorem dL_law_8 : decode cL_law 8 = .ok (.new 119, 3) := by decide +kernel
theorem dL_law_11 : decode cL_law 11 = .ok (.dup, 1) := by decide +kernel
theorem dL_law_12 : decode cL_law 12 = .ok (.invokespecial 121, 3) := by decide +kernel
theorem dL_law_15 : decode cL_law 15 = .ok (.astore_n 2, 1) := by decide +kernel
theorem dL_law_16 : decode cL_law 16 = .ok (.iconst 1, 1) := by decide +kernel
theorem dL_law_17 : decode cL_law 17 = .ok (.newarray .long, 2) := by decide +kernel
theorem dL_law_19 : decode cL_law 19 = .ok (.astore_n 3, 1) := by decide +kernel
theorem dL_law_20 : decode cL_law 20 = .ok (.iconst 1, 1) := by decide +kernel
theorem dL_law_21 : decode cL_law 21 = .ok (.newarray .double, 2) := by decide +kernel
theorem dL_law_23 : decode cL_law 23 = .ok (.astore 4, 2) := by decide +kernel
theorem dL_law_25 : decode cL_law 25 = .ok (.iconst 0, 1) := by decide +kernel
theorem dL_law_26 : decode cL_law 26 = .ok (.istore 5, 2) := by decide +kernel
theorem hl_loop (hfl : l.stackTraces = false) {x m o od : Nat} (hL0 : hk_K G 1101 ≤ 2560) : ∀ (f t c nc nb : Nat) (S : hs_S) (h : hk_H), 512 - t < f → t ≤ 512 → hJ S c nc nb t → hl_I G x m o od S c nc nb h → hk_W G l 12 yL_law cL_law 9 (some .boolean) [] hl_Qe hk_no (220 * (512 - t)) (8000 * (512 - t)) h 28 (hl_lv G x m o od t) [] := by
  intro f
  induction f with
  | zero => intro t c nc nb S h hf; exact absurd hf (Nat.not_lt_zero _)
  | succ f ih =>
    intro t c nc nb S h hf ht512 hj hi
    unfold hl_lv
    refine hk_iload dL_law_28 rfl rfl ?_
    refine hk_aload_n dL_law_30 rfl rfl rfl ?_
    refine hl_slen rfl dL_law_31 rfl ?_
    refine hk_iconst (v := nI 5) dL_law_32 rfl (by decide) ?_
    refine hk_isub dL_law_33 rfl ?_
    refine hk_icmp_gt (tgt := 2291) dL_law_34 (by decide) rfl (fun z => ?_) (fun z => ?_)
    · refine hk_iconst (v := nI 1) dL_law_2291 rfl (by decide) ?_
      exact hk_ireturn rfl (by rfl) dL_law_2292 rfl
    · have hL : 5 * t + 5 ≤ hk_K G 1101 := by
        have := mt (lp_gt (a := hk_K G 1101) (b := 5 * t) (by omega) (by omega)).mpr z
        omega
      have ht : t < 512 := by omega
      have KK : hl_KK G l x m o od t (220 * (512 - t) - 220) (8000 * (512 - t) - 8000) := by
        intro S2 c2 nc2 nb2 h2 hj2 hi2
        unfold hl_lv
        refine hk_iinc (v := nI (5 * (t + 1))) dL_law_2285 rfl rfl (nI_add _ _) (by decide) rfl ?_
        refine hk_goto (tgt := 28) dL_law_2288 (by decide) ?_
        exact hk_bud (by omega) (by omega) (ih (t + 1) c2 nc2 nb2 S2 h2 (by omega) (by omega) hj2 hi2)
      refine hk_aload_n dL_law_37 rfl rfl rfl ?_
      refine hk_iload dL_law_38 rfl rfl ?_
      refine hl_sld rfl (by omega) dL_law_40 rfl (by omega) ?_
      refine hk_bipush (v := nI 31) dL_law_41 rfl (by decide) ?_
      refine hk_iand dL_law_43 rfl ?_
      refine cx_top (lp_and31 _) ?_
      have hr : hk_K G (4000 + 5 * t) % 32 < 32 := Nat.mod_lt _ (by decide)
      generalize hk_K G (4000 + 5 * t) % 32 = r at hr ⊢
      match r, hr with
      | 0, _ =>
        refine hk_swIn (off := 140) (tgt := 184) dL_law_44 (by decide) (by decide) (by decide) (by decide) ?_
        exact lc_addHouse hfl hj ht hL hi (by omega) (by omega) rfl rfl rfl rfl rfl rfl rfl rfl KK
      | 1, _ =>
        refine hk_swIn (off := 198) (tgt := 242) dL_law_44 (by decide) (by decide) (by decide) (by decide) ?_
        exact lc_kindOf hfl hj ht hL hi (by omega) (by omega) rfl rfl rfl rfl rfl rfl rfl rfl KK
      | 2, _ =>
        refine hk_swIn (off := 254) (tgt := 298) dL_law_44 (by decide) (by decide) (by decide) (by decide) ?_
        exact lc_dig hfl hj ht hL hi (by omega) (by omega) rfl rfl rfl rfl rfl rfl rfl rfl KK
      | 3, _ =>
        refine hk_swIn (off := 336) (tgt := 380) dL_law_44 (by decide) (by decide) (by decide) (by decide) ?_
        exact lc_decree hfl hj ht hL hi (by omega) (by omega) rfl rfl rfl rfl rfl rfl rfl rfl KK
      | 4, _ =>
        refine hk_swIn (off := 418) (tgt := 462) dL_law_44 (by decide) (by decide) (by decide) (by decide) ?_
        exact lc_mint hfl hj ht hL hi (by omega) (by omega) rfl rfl rfl rfl rfl rfl rfl rfl KK
      | 5, _ =>
        refine hk_swIn (off := 500) (tgt := 544) dL_law_44 (by decide) (by decide) (by decide) (by decide) ?_
        exact lc_clip hfl hj ht hL hi (by omega) (by omega) rfl rfl rfl rfl rfl rfl rfl rfl KK
      | 6, _ =>
        refine hk_swIn (off := 568) (tgt := 612) dL_law_44 (by decide) (by decide) (by decide) (by decide) ?_
        exact lc_hoard hfl hj ht hL hi (by omega) (by omega) rfl rfl rfl rfl rfl rfl rfl rfl KK
      | 7, _ =>
        refine hk_swIn (off := 659) (tgt := 703) dL_law_44 (by decide) (by decide) (by decide) (by decide) ?_
        exact lc_recoin hfl hj ht hL hi (by omega) (by omega) rfl rfl rfl rfl rfl rfl rfl rfl KK
      | 8, _ =>
        refine hk_swIn (off := 729) (tgt := 773) dL_law_44 (by decide) (by decide) (by decide) (by decide) ?_
        exact lc_pay hfl hj ht hL hi (by omega) (by omega) rfl rfl rfl rfl rfl rfl rfl rfl KK
      | 9, _ =>
        refine hk_swIn (off := 823) (tgt := 867) dL_law_44 (by decide) (by decide) (by decide) (by decide) ?_
        exact lc_deposit hfl hj ht hL hi (by omega) (by omega) rfl rfl rfl rfl rfl rfl rfl rfl KK
      | 10, _ =>
        refine hk_swIn (off := 917) (tgt := 961) dL_law_44 (by decide) (by decide) (by decide) (by decide) ?_
        exact lc_withdraw hfl hj ht hL hi (by omega) (by omega) rfl rfl rfl rfl rfl rfl rfl rfl KK
      | 11, _ =>
        refine hk_swIn (off := 1011) (tgt := 1055) dL_law_44 (by decide) (by decide) (by decide) (by decide) ?_
        exact lc_lend hfl hj ht hL hi (by omega) (by omega) rfl rfl rfl rfl rfl rfl rfl rfl KK
      | 12, _ =>
        refine hk_swIn (off := 1091) (tgt := 1135) dL_law_44 (by decide) (by decide) (by decide) (by decide) ?_
        exact lc_hand hfl hj ht hL hi (by omega) (by omega) rfl rfl rfl rfl rfl rfl rfl rfl KK
      | 13, _ =>
        refine hk_swIn (off := 1183) (tgt := 1227) dL_law_44 (by decide) (by decide) (by decide) (by decide) ?_
        exact lc_forgive hfl hj ht hL hi (by omega) (by omega) rfl rfl rfl rfl rfl rfl rfl rfl KK
      | 14, _ =>
        refine hk_swIn (off := 1263) (tgt := 1307) dL_law_44 (by decide) (by decide) (by decide) (by decide) ?_
        exact lc_claim hfl hj ht hL hi (by omega) (by omega) rfl rfl rfl rfl rfl rfl rfl rfl KK
      | 15, _ =>
        refine hk_swIn (off := 1331) (tgt := 1375) dL_law_44 (by decide) (by decide) (by decide) (by decide) ?_
        exact lc_draw hfl hj ht hL hi (by omega) (by omega) rfl rfl rfl rfl rfl rfl rfl rfl KK
      | 16, _ =>
        refine hk_swIn (off := 1423) (tgt := 1467) dL_law_44 (by decide) (by decide) (by decide) (by decide) ?_
        exact lc_endorse hfl hj ht hL hi (by omega) (by omega) rfl rfl rfl rfl rfl rfl rfl rfl KK
      | 17, _ =>
        refine hk_swIn (off := 1491) (tgt := 1535) dL_law_44 (by decide) (by decide) (by decide) (by decide) ?_
        exact lc_holderOf hfl hj ht hL hi (by omega) (by omega) rfl rfl rfl rfl rfl rfl rfl rfl KK
      | 18, _ =>
        refine hk_swIn (off := 1547) (tgt := 1591) dL_law_44 (by decide) (by decide) (by decide) (by decide) ?_
        exact lc_nextDay hfl hj ht hL hi (by omega) (by omega) rfl rfl rfl rfl rfl rfl rfl rfl KK
      | 19, _ =>
        refine hk_swIn (off := 1560) (tgt := 1604) dL_law_44 (by decide) (by decide) (by decide) (by decide) ?_
        exact lc_addShare hfl hj ht hL hi (by omega) (by omega) rfl rfl rfl rfl rfl rfl rfl rfl KK
      | 20, _ =>
        refine hk_swIn (off := 1640) (tgt := 1684) dL_law_44 (by decide) (by decide) (by decide) (by decide) ?_
        exact lc_throwOver hfl hj ht hL hi (by omega) (by omega) rfl rfl rfl rfl rfl rfl rfl rfl KK
      | 21, _ =>
        refine hk_swIn (off := 1720) (tgt := 1764) dL_law_44 (by decide) (by decide) (by decide) (by decide) ?_
        exact lc_coins hfl hj ht hL hi (by omega) (by omega) rfl rfl rfl rfl rfl rfl rfl rfl KK
      | 22, _ =>
        refine hk_swIn (off := 1790) (tgt := 1834) dL_law_44 (by decide) (by decide) (by decide) (by decide) ?_
        exact lc_weightOf hfl hj ht hL hi (by omega) (by omega) rfl rfl rfl rfl rfl rfl rfl rfl KK
      | 23, _ =>
        refine hk_swIn (off := 1846) (tgt := 1890) dL_law_44 (by decide) (by decide) (by decide) (by decide) ?_
        exact lc_ownerOf hfl hj ht hL hi (by omega) (by omega) rfl rfl rfl rfl rfl rfl rfl rfl KK
      | 24, _ =>
        refine hk_swIn (off := 1902) (tgt := 1946) dL_law_44 (by decide) (by decide) (by decide) (by decide) ?_
        exact lc_owners hfl hj ht hL hi (by omega) (by omega) rfl rfl rfl rfl rfl rfl rfl rfl KK
      | 25, _ =>
        refine hk_swIn (off := 1958) (tgt := 2002) dL_law_44 (by decide) (by decide) (by decide) (by decide) ?_
        exact lc_ore hfl hj ht hL hi (by omega) (by omega) rfl rfl rfl rfl rfl rfl rfl rfl KK
      | 26, _ =>
        refine hk_swIn (off := 2028) (tgt := 2072) dL_law_44 (by decide) (by decide) (by decide) (by decide) ?_
        exact lc_wealth hfl hj ht hL hi (by omega) (by omega) rfl rfl rfl rfl rfl rfl rfl rfl KK
      | 27, _ =>
        refine hk_swIn (off := 2083) (tgt := 2127) dL_law_44 (by decide) (by decide) (by decide) (by decide) ?_
        exact lc_lost hfl hj ht hL hi (by omega) (by omega) rfl rfl rfl rfl rfl rfl rfl rfl KK
      | 28, _ =>
        refine hk_swIn (off := 2097) (tgt := 2141) dL_law_44 (by decide) (by decide) (by decide) (by decide) ?_
        exact lc_lightShare hfl hj ht hL hi (by omega) (by omega) rfl rfl rfl rfl rfl rfl rfl rfl KK
      | 29, _ =>
        refine hk_swIn (off := 2163) (tgt := 2207) dL_law_44 (by decide) (by decide) (by decide) (by decide) ?_
        exact lc_meanWeight hfl hj ht hL hi (by omega) (by omega) rfl rfl rfl rfl rfl rfl rfl rfl KK
      | 30, _ =>
        refine hk_swIn (off := 2228) (tgt := 2272) dL_law_44 (by decide) (by decide) (by decide) (by decide) ?_
        exact lc_isSound hfl hj ht hL hi (by omega) (by omega) rfl rfl rfl rfl rfl rfl rfl rfl KK
      | 31, _ =>
        refine hk_swOut (tgt := 2285) dL_law_44 (Or.inr (by decide)) (by decide) ?_
        exact hk_bud (by omega) (by omega) (KK S c nc nb h (hj.up (Nat.le_succ t)) hi)
      | r + 32, hr => exact absurd hr (by omega)
-- one new cell
theorem ha_onel {h0 : hk_H} {q0 : Nat} {e : hk_E} (hq : h0 q0 = none) : hk_set h0 q0 e = ha (fun j => j = 0) (fun _ => q0) (fun _ => e) h0 ∧ ha_ok (fun j => j = 0) (fun _ => q0) h0 := by
  have hi : ha_inj (fun j => j = 0) (fun _ => q0) := fun i j a b _ => by rw [a, b]
  refine ⟨funext fun q => ?_, hi, fun _ _ => hq⟩
  by_cases w : q = q0
  · subst w
    rw [hk_set_eq]
    exact (ha_get (E := fun _ => e) (A := fun _ => q) (D := fun j => j = 0) (h := h0) (i := 0) hi rfl).symm
  · rw [hk_set_ne w, ha_ne (fun _ _ z => w z.symm)]
theorem hl_new {m c nc nb q : Nat} {thr : Int32} {S : hs_S} {g h : hk_H} {y : hk_E} (hw : hm_Wd G m S c nc nb thr g h) (hq : h q = none) : hm_Wd G m S c nc nb thr (hk_set g q y) (hk_set h q y) ∧ hm_x g (hk_set g q y) := by
  obtain ⟨A, M, e1, e2, ok, hk, rfl⟩ := hw
  obtain ⟨q1, q2, q3⟩ := hm_okg (x := y) hk hq
  exact ⟨⟨A, M, e1, e2, ok, q1, q2⟩, q3⟩
theorem hl_begin (hfl : l.stackTraces = false) (hL0 : hk_K G 1101 ≤ 2560) : hk_W G l 12 yL_law cL_law 9 (some .boolean) [] hl_Qe hk_no 120000 4200000 (fun _ => none) 0 [some (.ref (hk_K G 1100)), none, none, none, none, none, none, none, none] [] := by
  refine hk_new dL_law_0 rfl nw_L_8 ⟨by omega, by omega⟩ (fun q0 hq0 => ?_)
  refine hk_dup dL_law_3 rfl rfl ?_
  obtain ⟨o1, o2⟩ := ha_onel (h0 := fun _ => none) (q0 := q0) (e := .inr (13, [.null, .null, .null, .null, .null, .null, .long 0])) rfl
  rw [o1]
  refine hk_callI dL_law_4 rfl mi_L_118 (ct_X6_init hfl o2 (fun j => Iff.rfl) rfl) rfl rfl (by decide) ⟨by omega, by omega⟩ (Nat.le_of_ble_eq_true rfl) (hk_kv fun h1 q1 => ?_) hk_nx
  obtain ⟨A, hA, hn, e0, rfl⟩ := q1
  refine hk_astore_n dL_law_7 rfl rfl (by decide) rfl ?_
  refine hk_new dL_law_8 rfl nw_L_119 ⟨by omega, by omega⟩ (fun m hm => ?_)
  refine hk_dup dL_law_11 rfl rfl ?_
  refine hk_callI dL_law_12 rfl mi_L_121 (cm_init hfl hk_set_eq) rfl rfl (by decide) ⟨by omega, by omega⟩ (Nat.le_of_ble_eq_true rfl) (hk_kv fun h2 q2 => ?_) hk_nx
  obtain ⟨g2, hx2, hw2⟩ := q2
  have hE2 : ∀ i, i < 30 → g2 (A i) = some (hs_E A cs_S0 i) := fun i hi => by
    have hne : A i ≠ m := fun e => by rw [← e, hs_ov_get hA hi] at hm; cases hm
    exact hx2 _ _ hne (by rw [hk_set_ne hne, hs_ov_get hA hi])
  refine hk_astore_n dL_law_15 rfl rfl (by decide) rfl ?_
  refine hk_iconst (v := nI 1) dL_law_16 rfl (by decide) ?_
  refine hk_newaL (t := 2) (N := 1) dL_law_17 rfl (by decide) rfl rfl (fun _ _ z => z) ac_2 (by decide) (by decide) (by decide) ⟨by omega, by omega⟩ (fun o ho => ?_)
  refine hk_astore_n dL_law_19 rfl rfl (by decide) rfl ?_
  obtain ⟨hw3, hx3⟩ := hl_new (y := hl_lo (fun _ => 0)) hw2 ho
  refine hk_iconst (v := nI 1) dL_law_20 rfl (by decide) ?_
  refine hk_newaD (t := 3) (N := 1) dL_law_21 rfl (by decide) rfl rfl (fun _ _ z => z) ac_3 (by decide) (by decide) (by decide) ⟨by omega, by omega⟩ (fun od hod => ?_)
  refine hk_astore dL_law_23 rfl (by decide) rfl ?_
  obtain ⟨hw4, hx4⟩ := hl_new (y := hl_db (fun _ => 0)) hw3 hod
  have hR : hl_R G (A 0) m o od cs_S0 cs_S0 1 0 0 (fun _ => 0) (fun _ => 0) (hk_set (hk_set g2 o (hl_lo (fun _ => 0))) od (hl_db (fun _ => 0))) (hk_set (hk_set h2 o (hl_lo (fun _ => 0))) od (hl_db (fun _ => 0))) := by
    refine ⟨A, _, hA, rfl, hw4, fun i hi => hx4 _ _ (hx3 _ _ (hE2 i hi)), hx4 _ _ hk_set_eq, hk_set_eq⟩
  have hI := (hl_fin hR hm_x.rf hw4 hm_q.rf).1
  refine hk_iconst (v := nI 0) dL_law_25 rfl (by decide) ?_
  refine hk_istore dL_law_26 rfl (by decide) rfl ?_
  rw [← e0]
  exact hk_bud (by omega) (by omega) (hl_loop hfl hL0 513 0 1 0 0 cs_S0 _ (by omega) (by omega) hJ0 hI)
end LP

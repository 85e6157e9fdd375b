section CM4
variable {G : hk_G} {l : Launch} {h : hk_H}
theorem cb_coin {q : Nat} {n0 m0 v0 a0 : Int32} (hfl : l.stackTraces = false) (hq : h q = some (.inr (15, [.int 0, .int 0, .int 0, .int 0, .int 0, .int 0]))) : hk_Ctr G l 1 yX8_init cX8_init 5 none 0 0 [.ref q, .int n0, .int m0, .int v0, .int a0] h (hk_qv fun h1 => h1 = hk_set h q (.inr (15, [.int n0, .int m0, .int v0, .int a0, .int (nI 1), .int (nI 0)]))) hk_no := by
  refine hk_enter (by decide) hfl (Nat.le_of_ble_eq_true rfl) rfl ?_
  refine hk_aload_n dX8_init_0 rfl rfl rfl ?_
  refine hk_objInit dX8_init_1 rfl ob_X8_1 (by decide) rfl ?_
  refine hk_aload_n dX8_init_4 rfl rfl rfl ?_
  refine hk_iconst (v := nI 1) dX8_init_5 rfl (by decide) ?_
  refine hk_putf dX8_init_6 rfl (fw_X8_7 rfl) (hq) rfl rfl (Nat.lt_of_lt_of_eq (by decide : 4 < 6) rfl) ?_
  refine hk_aload_n dX8_init_9 rfl rfl rfl ?_
  refine hk_iload_n dX8_init_10 rfl rfl rfl ?_
  refine hk_putf dX8_init_11 rfl (fw_X8_13 rfl rfl) (hk_set_eq) rfl rfl (Nat.lt_of_lt_of_eq (by decide : 0 < 6) rfl) ?_
  refine hx_cg hk_set_set ?_
  refine hk_aload_n dX8_init_14 rfl rfl rfl ?_
  refine hk_iload_n dX8_init_15 rfl rfl rfl ?_
  refine hk_putf dX8_init_16 rfl (fw_X8_16 rfl rfl) (hk_set_eq) rfl rfl (Nat.lt_of_lt_of_eq (by decide : 1 < 6) rfl) ?_
  refine hx_cg hk_set_set ?_
  refine hk_aload_n dX8_init_19 rfl rfl rfl ?_
  refine hk_iload_n dX8_init_20 rfl rfl rfl ?_
  refine hk_putf dX8_init_21 rfl (fw_X8_19 rfl) (hk_set_eq) rfl rfl (Nat.lt_of_lt_of_eq (by decide : 2 < 6) rfl) ?_
  refine hx_cg hk_set_set ?_
  refine hk_aload_n dX8_init_24 rfl rfl rfl ?_
  refine hk_iload dX8_init_25 rfl rfl ?_
  refine hk_putf dX8_init_27 rfl (fw_X8_22 rfl) (hk_set_eq) rfl rfl (Nat.lt_of_lt_of_eq (by decide : 3 < 6) rfl) ?_
  refine hx_cg hk_set_set ?_
  exact hk_vreturn rfl dX8_init_30 (⟨rfl, rfl⟩)
theorem cb_bill {q : Nat} {a0 t0 v0 x0 : Int32} (hfl : l.stackTraces = false) (hq : h q = some (.inr (14, [.int 0, .int 0, .int 0, .int 0, .null, .int 0, .int 0]))) : hk_Ctr G l 4 yX7_init cX7_init 5 none 1 3 [.ref q, .int a0, .int t0, .int v0, .int x0] h (hk_qv fun h1 => ∃ p : Nat, h p = none ∧ h1 = hk_set (hk_set h p (.inr (6, [.int 0, .ref (hk_K G 1001), .int (nI 0)]))) q (.inr (14, [.int a0, .int t0, .int v0, .int x0, .ref p, .int a0, .int (nI 0)]))) hk_no := by
  refine hk_enter (by decide) hfl (Nat.le_of_ble_eq_true rfl) rfl ?_
  refine hk_aload_n dX7_init_0 rfl rfl rfl ?_
  refine hk_objInit dX7_init_1 rfl ob_X7_1 (by decide) rfl ?_
  refine hk_aload_n dX7_init_4 rfl rfl rfl ?_
  refine hk_new dX7_init_5 rfl nw_X7_7 (by decide) fun p hp => ?_
  have hpq : q ≠ p := fun e => by rw [← e, hq] at hp; cases hp
  refine hk_dup dX7_init_8 rfl rfl ?_
  refine hk_callI dX7_init_9 rfl mi_X7_9 (cj_alinit hfl hk_set_eq) rfl rfl (by decide) (by decide) (Nat.le_of_ble_eq_true rfl) (hk_kv fun h1 q1 => ?_) hk_nx
  subst q1
  refine hx_cg hk_set_set ?_
  refine hk_putf dX7_init_12 rfl (fw_X7_10 rfl rfl) ((hk_set_ne hpq).trans hq) rfl rfl (Nat.lt_of_lt_of_eq (by decide : 4 < 7) rfl) ?_
  refine hk_aload_n dX7_init_15 rfl rfl rfl ?_
  refine hk_iload_n dX7_init_16 rfl rfl rfl ?_
  refine hk_putf dX7_init_17 rfl (fw_X7_16 rfl rfl) (hk_set_eq) rfl rfl (Nat.lt_of_lt_of_eq (by decide : 0 < 7) rfl) ?_
  refine hx_cg hk_set_set ?_
  refine hk_aload_n dX7_init_20 rfl rfl rfl ?_
  refine hk_iload_n dX7_init_21 rfl rfl rfl ?_
  refine hk_putf dX7_init_22 rfl (fw_X7_20 rfl rfl) (hk_set_eq) rfl rfl (Nat.lt_of_lt_of_eq (by decide : 1 < 7) rfl) ?_
  refine hx_cg hk_set_set ?_
  refine hk_aload_n dX7_init_25 rfl rfl rfl ?_
  refine hk_iload_n dX7_init_26 rfl rfl rfl ?_
  refine hk_putf dX7_init_27 rfl (fw_X7_23 rfl rfl) (hk_set_eq) rfl rfl (Nat.lt_of_lt_of_eq (by decide : 2 < 7) rfl) ?_
  refine hx_cg hk_set_set ?_
  refine hk_aload_n dX7_init_30 rfl rfl rfl ?_
  refine hk_iload dX7_init_31 rfl rfl ?_
  refine hk_putf dX7_init_33 rfl (fw_X7_26 rfl rfl) (hk_set_eq) rfl rfl (Nat.lt_of_lt_of_eq (by decide : 3 < 7) rfl) ?_
  refine hx_cg hk_set_set ?_
  refine hk_aload_n dX7_init_36 rfl rfl rfl ?_
  refine hk_iload_n dX7_init_37 rfl rfl rfl ?_
  refine hk_putf dX7_init_38 rfl (fw_X7_29 rfl) (hk_set_eq) rfl rfl (Nat.lt_of_lt_of_eq (by decide : 5 < 7) rfl) ?_
  refine hx_cg hk_set_set ?_
  exact hk_vreturn rfl dX7_init_41 (⟨rfl, p, hp, rfl⟩)
end CM4
section CM5
variable {G : hk_G} {l : Launch} {S : hs_S} {M : hm_M} {A : Nat → Nat} {g : hk_H} {c nc nb : Nat}
theorem cm_goes {j : Nat} {t : Int32} (hfl : l.stackTraces = false) (hk : ha_ok (hm_D S M) A g) (ok : hm_ok G S M A c nc nb) (hj : j < nc) : hk_Ctr G l 1 yX8_goes cX8_goes 2 none 0 0 [.ref (A (100 + j)), .int t] (hm_h G S M A g) (hk_qv fun h1 => h1 = hm_h G (cs_give S j t) M A g) hk_no := by
  have hc1 := ok.1.2.1
  have hc := ok.1.2.2
  have hnc := ok.2.1.2
  have hnb := ok.2.2.1.2
  refine hk_enter (by decide) hfl (Nat.le_of_ble_eq_true rfl) rfl ?_
  refine hk_aload_n dX8_goes_0 rfl rfl rfl ?_
  refine hk_iload_n dX8_goes_1 rfl rfl rfl ?_
  refine hk_putf dX8_goes_2 rfl (fw_X8_22 rfl) (hm_coi hk ok (by omega)) rfl (rfl) (Nat.lt_of_lt_of_eq (by decide : 3 < 6) rfl) ?_
  refine hx_cg (hm_v15c hk (hm_v31lt ok (by omega)) (hm_v31le ok)) ?_
  refine hk_aload_n dX8_goes_5 rfl rfl rfl ?_
  refine hk_dup dX8_goes_6 rfl rfl ?_
  refine hk_getf dX8_goes_7 rfl fl_X8_7 (hm_coi hk ok (by omega)) rfl ?_
  refine hk_iconst (v := nI 1) dX8_goes_10 rfl (by decide) ?_
  refine hk_iadd dX8_goes_11 rfl ?_
  refine hk_putf dX8_goes_12 rfl (fw_X8_7 rfl) (hm_coi hk ok (by omega)) rfl (rfl) (Nat.lt_of_lt_of_eq (by decide : 4 < 6) rfl) ?_
  refine hx_cg (hm_v16c hk (hm_v31lt ok (by omega)) (hm_v31le ok)) ?_
  refine hk_aload_n dX8_goes_15 rfl rfl rfl ?_
  refine hk_iconst (v := nI 0) dX8_goes_16 rfl (by decide) ?_
  refine hk_putf dX8_goes_17 rfl (fw_X8_25 rfl) (hm_coi hk ok (by omega)) rfl (rfl) (Nat.lt_of_lt_of_eq (by decide : 5 < 6) rfl) ?_
  refine hx_cg (hm_v17c hk (hm_v31lt ok (by omega)) (hm_v31le ok)) ?_
  exact hk_vreturn rfl dX8_goes_20 (⟨rfl, rfl⟩)
theorem hm_ob0 (ok : hm_ok G S M A c nc nb) : ∀ i v, i < c → M.2.1 0 i = some v → hk_ob G (hm_h G S M A g) v := fun i v hi hv => by
  rw [hm_kg ok hi] at hv
  cases hv
  exact Or.inl ⟨_, hm_kl ok hi, rfl⟩
theorem hm_ob1 (hk : ha_ok (hm_D S M) A g) (ok : hm_ok G S M A c nc nb) : ∀ i v, i < nc → M.2.1 1 i = some v → hk_ob G (hm_h G S M A g) v := fun i v hi hv => by
  rw [(hm_c1g ok hi).2] at hv
  cases hv
  exact Or.inr (Or.inr ⟨15, _, hm_coi hk ok hi, Or.inr rfl⟩)
theorem hm_ob2 (hk : ha_ok (hm_D S M) A g) (ok : hm_ok G S M A c nc nb) : ∀ i v, i < nb → M.2.1 2 i = some v → hk_ob G (hm_h G S M A g) v := fun i v hi hv => by
  rw [(hm_b1g ok hi).2] at hv
  cases hv
  exact Or.inr (Or.inr ⟨14, _, hm_g200 hk (by rw [hm_v32 ok]; exact hi), Or.inl rfl⟩)
def hm_bd : Nat → Nat
  | 0 => 0
  | n + 1 => hm_bd n + (16 + n + n / 2)
theorem hm_bd_s (n : Nat) : hm_bd (n + 1) = hm_bd n + (16 + n + n / 2) := rfl
theorem hm_bd_le (a : Nat) : ∀ i, hm_bd a ≤ hm_bd (a + i)
  | 0 => Nat.le_refl _
  | i + 1 => Nat.le_trans (hm_bd_le a i) (by rw [show a + (i + 1) = (a + i) + 1 from rfl, hm_bd_s]; omega)
theorem hm_bd_90 : hm_bd 90 = 7425 := by decide +kernel
def cs_mts (a m v : Int32) (n : Nat) (S : hs_S) (k : Nat) : hs_S := cx_it (fun i S => cs_add S (n + i) a m v) S k
theorem cs_mts_s (a m v : Int32) (n : Nat) (S : hs_S) (k : Nat) : cs_mts a m v n S (k + 1) = cs_add (cs_mts a m v n S k) (n + k) a m v := rfl
theorem cs_mts_16 {a m v : Int32} {n : Nat} {S : hs_S} {j : Nat} (h : S.1 16 j = 0) : ∀ k, n + k ≤ j → (cs_mts a m v n S k).1 16 j = 0
  | 0, _ => h
  | k + 1, hk => by
    rw [cs_mts_s, cs_add_16, if_neg (by omega)]
    exact cs_mts_16 h k (by omega)
theorem cs_mts_ne {a m v : Int32} {n : Nat} {S : hs_S} {i : Nat} (h : i ≠ 13 ∧ i ≠ 14 ∧ i ≠ 15 ∧ i ≠ 16 ∧ i ≠ 17 ∧ i ≠ 18 ∧ i ≠ 31) : ∀ k, (cs_mts a m v n S k).1 i = S.1 i
  | 0 => rfl
  | k + 1 => by
    rw [cs_mts_s]
    unfold cs_add
    rw [cs_give_ne _ _ _ h.2.2.1 h.2.2.2.1 h.2.2.2.2.1 h.2.2.2.2.2.1, hs_su_ne _ _ _ h.2.1, hs_su_ne _ _ _ h.1, hs_su_ne _ _ _ h.2.2.2.2.2.2]
    exact cs_mts_ne h k
def cs_mn (a m : Nat) (n : Nat) (S : hs_S) (k : Nat) : hs_S := hs_su (cs_mts (nI a) (nI m) (S.1 10 m) n S k) 12 (a * 2 + m) (S.1 12 (a * 2 + m) - nI k * S.1 10 m)
-- the reference's world, after steps that may move it
def hm_To (G : hk_G) (A : Nat → Nat) (M : hm_M) (g : hk_H) (S : hs_S) (c nc nb : Nat) (h1 : hk_H) : Prop := ∃ (A' : Nat → Nat) (M' : hm_M) (g' : hk_H), A' 0 = A 0 ∧ M'.1 0 = M.1 0 ∧ hm_ok G S M' A' c nc nb ∧ ha_ok (hm_D S M') A' g' ∧ h1 = hm_h G S M' A' g' ∧ hm_x g g' 
theorem cm_mints {a m k : Nat} (hfl : l.stackTraces = false) (hk : ha_ok (hm_D S M) A g) (ok : hm_ok G S M A c nc nb) (ha : a < 6) (hm : m < 2) (hn : nc + k ≤ 90) (h16 : ∀ j, nc ≤ j → S.1 16 j = 0) : hk_Ctr G l 8 yX9_mints cX9_mints 5 none (2 * k) (hm_bd (nc + k) - hm_bd nc) [.ref (A 0), .int (nI a), .int (nI m), .int (nI k)] (hm_h G S M A g) (hk_qv (hm_To G A M g (cs_mn a m nc S k) c (nc + k) nb)) hk_no := by
  have hc1 := ok.1.2.1
  have hc := ok.1.2.2
  have hnb := ok.2.2.1.2
  refine hk_enter (by decide) hfl (Nat.le_of_ble_eq_true rfl) rfl ?_
  refine hk_iconst (v := nI 0) dX9_mints_0 rfl (by decide) ?_
  refine hk_istore dX9_mints_1 rfl (by decide) rfl ?_
  have lp3 : ∀ f j : Nat, j ≤ k → k - j < f → ∀ (A2 : Nat → Nat) (M2 : hm_M) (g2 : hk_H), A2 0 = A 0 → M2.1 0 = M.1 0 → hm_ok G (cs_mts (nI a) (nI m) (S.1 10 m) nc S j) M2 A2 c (nc + j) nb → ha_ok (hm_D (cs_mts (nI a) (nI m) (S.1 10 m) nc S j) M2) A2 g2 → hm_x g g2 → hk_W G l 8 yX9_mints cX9_mints 5 none [] (hk_qv (hm_To G A M g (cs_mn a m nc S k) c (nc + k) nb)) hk_no (2 * (k - j)) (hm_bd (nc + k) - hm_bd (nc + j)) (hm_h G (cs_mts (nI a) (nI m) (S.1 10 m) nc S j) M2 A2 g2) 3 [some (.ref (A2 0)), some (.int (nI a)), some (.int (nI m)), some (.int (nI k)), some (.int (nI j))] [] := by
    intro f
    induction f with
    | zero => intro j hj hf; exact absurd hf (by omega)
    | succ f ih =>
      intro j hj hf A2 M2 g2 hA2 hM2 ok2 hk2 x2
      have h10 : (cs_mts (nI a) (nI m) (S.1 10 m) nc S j).1 10 m = S.1 10 m := by rw [cs_mts_ne (by decide)]
      have h12 : (cs_mts (nI a) (nI m) (S.1 10 m) nc S j).1 12 (a * 2 + m) = S.1 12 (a * 2 + m) := by rw [cs_mts_ne (by decide)]
      refine hk_iload dX9_mints_3 rfl rfl ?_
      refine hk_iload_n dX9_mints_5 rfl rfl rfl ?_
      refine cx_icmp_ge (tgt := 49) (by omega) (by omega) dX9_mints_6 (by decide) rfl (fun z6 => ?_) (fun z6 => ?_)
      · skip
        refine hk_aload_n dX9_mints_49 rfl rfl rfl ?_
        refine hk_getf dX9_mints_50 rfl fl_X9_29 (hm_g0 hk2) rfl ?_
        refine hk_iload_n dX9_mints_53 rfl rfl rfl ?_
        refine hx_aaldI dX9_mints_54 rfl (hm_g3 hk2) (show _ < 6 by omega) (by decide) (if_pos (show _ < 6 by omega)) ?_
        refine hk_iload_n dX9_mints_55 rfl rfl rfl ?_
        refine hk_dup2 dX9_mints_56 rfl rfl rfl ?_
        refine hx_iald dX9_mints_57 rfl (hm_g4 hk2 (by omega)) (show _ < 2 by omega) (by decide) ?_
        refine cx_top (if_pos (by omega)) ?_
        refine hk_iload_n dX9_mints_58 rfl rfl rfl ?_
        refine hk_aload_n dX9_mints_59 rfl rfl rfl ?_
        refine hk_getf dX9_mints_60 rfl fl_X9_24 (hm_g0 hk2) rfl ?_
        refine hk_iload_n dX9_mints_63 rfl rfl rfl ?_
        refine hx_iald dX9_mints_64 rfl (hm_g2 hk2) (show _ < 2 by omega) (by decide) ?_
        refine hk_imul dX9_mints_65 rfl ?_
        refine hk_isub dX9_mints_66 rfl ?_
        refine hx_iast dX9_mints_67 rfl (hm_g4 hk2 (by omega)) (show _ < 2 by omega) (by decide) ?_
        refine hx_cg (hm_v12 hk2 (by omega) (by omega)) ?_
        exact hk_vreturn rfl dX9_mints_68 (by have e : j = k := (by omega); subst e; exact ⟨rfl, A2, M2, g2, hA2, hM2, ok2, hk2, by unfold cs_mn; simp only [h10, h12], x2⟩)
      · skip
        refine hk_aload_n dX9_mints_9 rfl rfl rfl ?_
        refine hk_getf dX9_mints_10 rfl fl_X9_32 (hm_g0 hk2) rfl ?_
        have hb2 : hm_bd (nc + (j + 1)) = hm_bd (nc + j) + (16 + (nc + j) + (nc + j) / 2) := rfl
        have hb1 := hm_bd_le (nc + (j + 1)) (k - (j + 1))
        rw [show nc + (j + 1) + (k - (j + 1)) = nc + k by omega, show nc + (j + 1) = (nc + j) + 1 from rfl, hm_bd_s] at hb1
        refine hk_new dX9_mints_13 rfl nw_X9_94 ⟨by omega, by omega⟩ (fun q hq => ?_)
        obtain ⟨hk3, e3, x3⟩ := hm_okg (x := .inr (15, [.int 0, .int 0, .int 0, .int 0, .int 0, .int 0])) hk2 hq
        refine hx_cg e3 ?_
        refine hk_dup dX9_mints_16 rfl rfl ?_
        refine hk_aload_n dX9_mints_17 rfl rfl rfl ?_
        refine hk_getf dX9_mints_18 rfl fl_X9_32 (hm_g0 hk3) rfl ?_
        refine hk_callF dX9_mints_21 rfl mf_X9_56 (cj_size hfl (hm_l1 hk3 ok2)) rfl rfl (hm_l1 hk3 ok2) rfl rfl (by decide) ⟨Nat.zero_le _, Nat.zero_le _⟩ (Nat.le_of_ble_eq_true rfl) (hk_ki fun v h1 q7 => ?_) hk_nx
        obtain ⟨rfl, rfl⟩ := q7
        refine hk_iload_n dX9_mints_26 rfl rfl rfl ?_
        refine hk_aload_n dX9_mints_27 rfl rfl rfl ?_
        refine hk_getf dX9_mints_28 rfl fl_X9_24 (hm_g0 hk3) rfl ?_
        refine hk_iload_n dX9_mints_31 rfl rfl rfl ?_
        refine hx_iald dX9_mints_32 rfl (hm_g2 hk3) (show _ < 2 by omega) (by decide) ?_
        refine hk_iload_n dX9_mints_33 rfl rfl rfl ?_
        refine hk_callI dX9_mints_34 rfl mi_X9_96 (cb_coin hfl (hm_gnd hk3 hk_set_eq)) rfl rfl (by decide) ⟨Nat.zero_le _, Nat.zero_le _⟩ (Nat.le_of_ble_eq_true rfl) (hk_kv fun h1 q1 => ?_) hk_nx
        subst q1
        obtain ⟨hk4, e4⟩ := hm_sg (x := (.inr (15, [.int (nI (nc + j)), .int (nI m), .int (S.1 10 m), .int (nI a), .int (nI 1), .int (nI 0)]))) hk3 (hk_set_eq (a := q))
        rw [hk_set_set] at hk4 e4
        rw [h10]
        refine hx_cg e4 ?_
        refine hk_callF dX9_mints_37 rfl mf_X9_50 (cj_add hfl (hm_al (i := 1) hk4 (by omega) (by rw [hm_v32 ok2]; omega) (hm_n1 ok2) (fun z => by rw [← hm_n1 ok2]; exact hm_cap ok2 z) ok2.2.2.2.2.2.1.1) (hm_ob1 hk4 ok2) (Or.inr (Or.inr ⟨15, _, hm_gnd hk4 hk_set_eq, Or.inr rfl⟩))) rfl rfl (hm_l1 hk4 ok2) rfl rfl (by decide) ⟨by omega, by omega⟩ (Nat.le_of_ble_eq_true rfl) (hk_ki fun v h1 q1 => ?_) hk_nx
        obtain ⟨rfl, hgr⟩ := q1
        obtain ⟨A3, M3, g3, a1, a2, a3, a4, rfl, a6⟩ := hm_addC ok2 hk2 hq (by omega) (cs_mts_16 (h16 _ (by omega)) j (Nat.le_refl _)) hgr
        refine hk_pop dX9_mints_42 rfl rfl ?_
        refine hk_iinc dX9_mints_43 rfl rfl (nI_1 _) (by decide) rfl ?_
        refine hk_goto (tgt := 3) dX9_mints_46 (by decide) ?_
        rw [show A2 0 = A3 0 from a1.symm]
        refine hk_bud (by omega) (by omega) (ih (j + 1) (by omega) (by omega) A3 M3 g3 (a1.trans hA2) (a2.trans hM2) a3 a4 (x2.tr a6))
  refine hk_bud (by omega) (by rw [Nat.add_zero]; exact Nat.le_refl _) (lp3 (k + 1) 0 (by omega) (by omega) A M g rfl rfl ok hk hm_x.rf)
end CM5

section CINI
variable {G : hk_G} {l : Launch} {h : hk_H} {D : Nat → Prop} {A : Nat → Nat} {E : Nat → hk_E}
theorem hm_rf_cg {n b : Nat} {A1 A2 : Nat → Nat} (h : ∀ i, i < n → A2 (b + i) = A1 (b + i)) : hm_rf n b A1 = hm_rf n b A2 := by
  funext i
  unfold hm_rf
  by_cases e : i < n
  · rw [if_pos e, if_pos e, h i e]
  · rw [if_neg e, if_neg e]
theorem ha_put {i : Nat} {x : hk_E} (hk : ha_ok D A h) (hD : D i) : ∃ E1 : Nat → hk_E, (∀ j, D j → j ≠ i → E1 j = E j) ∧ E1 i = x ∧ hk_set (ha D A E h) (A i) x = ha D A E1 h := ⟨ha_up E i x, fun j _ hne => ha_up_ne hne, ha_up_eq, ha_set hk.1 hD ha_up_eq (fun j _ hne => ha_up_ne hne)⟩
theorem ha_one {q : Nat} {x : hk_E} (hq : h q = some x) : ha_ok (fun j => j = 0) (fun _ => q) (fun p => if p = q then none else h p) ∧ ha (fun j => j = 0) (fun _ => q) (fun _ => x) (fun p => if p = q then none else h p) = h := by
  have hi : ha_inj (fun j => j = 0) (fun _ => q) := fun i j hi hj _ => by rw [show i = 0 from hi, show j = 0 from hj]
  refine ⟨⟨hi, fun i _ => if_pos rfl⟩, ?_⟩
  funext p
  by_cases e : p = q
  · have := ha_get (D := fun j => j = 0) (A := fun _ => q) (E := fun _ => x) (h := fun p => if p = q then none else h p) hi (i := 0) rfl
    rw [e]
    exact this.trans hq.symm
  · rw [ha_ne (fun i _ z => e z.symm)]
    exact if_neg e
theorem kl_X9_27 : Cond.classLink RX9 27 ("[" ++ (FieldType.array .int).toString) ∈ hk_all := (hk_w (i := 1012) (by decide +kernel) (by decide +kernel))
theorem tr0 {n : Nat} {f : Nat → Int32} (h : ∀ j, f j = 0) : hm_tr n f = fun _ => 0 := by
  funext j
  unfold hm_tr
  split
  · exact h j
  · rfl
def ni_M (fe : Nat → Option Nat) : hm_M := (fun i => if i = 10 then nI 1 else nI 0, fun i => if i = 0 then fe else fun _ => none, fun _ => 10, fun i => decide (i = 0))
theorem ni_12 (j : Nat) : cs_S0.1 12 j = 0 := rfl
theorem ni_19 (j : Nat) : cs_S0.1 19 j = 0 := rfl
theorem ni_27 (j : Nat) : cs_S0.1 27 j = 0 := rfl
theorem ni_30 : cs_S0.1 30 0 = nI 1 := rfl
theorem ni_31 : cs_S0.1 31 0 = nI 0 := rfl
theorem ni_32 : cs_S0.1 32 0 = nI 0 := rfl
theorem ni_v32 : vN (cs_S0.1 32 0) = 0 := by rw [ni_32, vN_nI (by omega)]
theorem ni_v31 : vN (cs_S0.1 31 0) = 0 := by rw [ni_31, vN_nI (by omega)]
theorem ni_ok {fe : Nat → Option Nat} {A : Nat → Nat} (hfe : fe 0 = some (hk_K G (2000 + 99))) : hm_ok G cs_S0 (ni_M fe) A 1 0 0 := by
  have hn0 : hm_n cs_S0 0 = 1 := by unfold hm_n; rw [if_pos rfl, ni_30, vN_nI (by omega)]
  refine ⟨⟨ni_30, by omega, by omega⟩, ⟨ni_31, by omega⟩, ⟨ni_32, by omega⟩, fun i hi => ?_, ⟨rfl, fun a ha => ?_⟩, ⟨Or.inr rfl, fun j hj => absurd hj (Nat.not_lt_zero j)⟩, ⟨Or.inr rfl, fun j hj => absurd hj (Nat.not_lt_zero j)⟩, fun j hj => absurd hj (Nat.not_lt_zero j)⟩
  · have e : i = 0 := of_decide_eq_true hi
    subst e
    rw [hn0]
    show 1 ≤ 10 ∧ 1 ≤ 10 ∧ 10 ≤ 150
    omega
  · have e : a = 0 := by omega
    subst e
    have h7 : cs_S0.1 7 0 = nI 99 := rfl
    have h8 : ¬ cs_S0.1 8 0 = 0 := by decide
    refine ⟨?_, 99, by omega, by omega, h7, fun z => absurd z h8⟩
    unfold hm_k
    rw [if_neg h8, h7, vN_nI (by omega)]
    exact hfe

theorem ni_fin {A1 : Nat → Nat} {E1 : Nat → hk_E} {fe : Nat → Option Nat} (hDD : ∀ j, D j ↔ j = 0) (hk : ha_ok (fun j => j = 50 ∨ (17 ≤ j ∧ j ≤ 17 + 4) ∨ j = 32 ∨ (10 ≤ j ∧ j ≤ 10 + 6) ∨ j = 31 ∨ (3 ≤ j ∧ j ≤ 3 + 6) ∨ j = 2 ∨ j = 1 ∨ j = 30 ∨ D j) A1 h) (hfe : fe 0 = some (hk_K G (2000 + 99))) (g0 : E1 0 = .inr (16, [.int 0, .ref (A1 30), .ref (A1 1), .ref (A1 2), .ref (A1 3), .ref (A1 31), .ref (A1 10), .long 0, .ref (A1 32), .int 0, .ref (A1 17)])) (g1 : E1 1 = .inl (0, 2, .inl (upd (upd (fun _ => 0) 0 (nI 10)) 1 (nI 1)))) (g2 : E1 2 = .inl (0, 2, .inl (upd (upd (fun _ => 0) 0 (nI 5)) 1 (nI 5)))) (g3 : E1 3 = .inl (6, 6, .inr (.inr (.inr (.inr (hm_rf 6 4 A1)))))) (g4 : E1 4 = .inl (0, 2, .inl (fun _ => 0))) (g5 : E1 5 = .inl (0, 2, .inl (fun _ => 0))) (g6 : E1 6 = .inl (0, 2, .inl (fun _ => 0))) (g7 : E1 7 = .inl (0, 2, .inl (fun _ => 0))) (g8 : E1 8 = .inl (0, 2, .inl (fun _ => 0))) (g9 : E1 9 = .inl (0, 2, .inl (fun _ => 0))) (g10 : E1 10 = .inl (6, 6, .inr (.inr (.inr (.inr (hm_rf 6 11 A1)))))) (g11 : E1 11 = .inl (0, 6, .inl (fun _ => 0))) (g12 : E1 12 = .inl (0, 6, .inl (fun _ => 0))) (g13 : E1 13 = .inl (0, 6, .inl (fun _ => 0))) (g14 : E1 14 = .inl (0, 6, .inl (fun _ => 0))) (g15 : E1 15 = .inl (0, 6, .inl (fun _ => 0))) (g16 : E1 16 = .inl (0, 6, .inl (fun _ => 0))) (g17 : E1 17 = .inl (6, 4, .inr (.inr (.inr (.inr (hm_rf 4 18 A1)))))) (g18 : E1 18 = .inl (0, 6, .inl (fun _ => 0))) (g19 : E1 19 = .inl (0, 6, .inl (fun _ => 0))) (g20 : E1 20 = .inl (0, 6, .inl (fun _ => 0))) (g21 : E1 21 = .inl (0, 6, .inl (fun _ => 0))) (g30 : E1 30 = .inr (6, [.int (0 + nI 1), .ref (A1 50), .int (nI (0 + 1))])) (g31 : E1 31 = .inr (6, [.int 0, .ref (hk_K G 1001), .int (nI 0)])) (g32 : E1 32 = .inr (6, [.int 0, .ref (hk_K G 1001), .int (nI 0)])) (g50 : E1 50 = .inl (5, 10, .inr (.inr (.inr (.inr fe))))) : hm_Wd G (A1 0) cs_S0 1 0 0 (nI 0) h (ha (fun j => j = 50 ∨ (17 ≤ j ∧ j ≤ 17 + 4) ∨ j = 32 ∨ (10 ≤ j ∧ j ≤ 10 + 6) ∨ j = 31 ∨ (3 ≤ j ∧ j ≤ 3 + 6) ∨ j = 2 ∨ j = 1 ∨ j = 30 ∨ D j) A1 E1 h) := by
  have hDe : (fun j => j = 50 ∨ (17 ≤ j ∧ j ≤ 17 + 4) ∨ j = 32 ∨ (10 ≤ j ∧ j ≤ 10 + 6) ∨ j = 31 ∨ (3 ≤ j ∧ j ≤ 3 + 6) ∨ j = 2 ∨ j = 1 ∨ j = 30 ∨ D j) = hm_D cs_S0 (ni_M fe) := by
    funext j
    refine propext ?_
    unfold hm_D
    rw [ni_v31, ni_v32]
    simp only [hDD]
    show _ ↔ j < 22 ∨ (30 ≤ j ∧ j < 33 + 0) ∨ (50 ≤ j ∧ j < 53 + 0 ∧ decide (j - 50 = 0) = true) ∨ (100 ≤ j ∧ j < 100 + 0) ∨ (200 ≤ j ∧ j < 200 + 0)
    rw [decide_eq_true_eq]
    omega
  rw [hDe] at hk ⊢
  have t12 : ∀ a : Nat, hm_tr 2 (fun j => cs_S0.1 12 (a * 2 + j)) = fun _ => 0 := fun a => tr0 (fun j => ni_12 _)
  have t19 : ∀ a : Nat, hm_tr 6 (fun j => cs_S0.1 19 (a * 6 + j)) = fun _ => 0 := fun a => tr0 (fun j => ni_19 _)
  have t27 : ∀ a : Nat, hm_tr 6 (fun j => cs_S0.1 27 (a * 6 + j)) = fun _ => 0 := fun a => tr0 (fun j => ni_27 _)
  have hn0 : hm_n cs_S0 0 = 1 := by unfold hm_n; rw [if_pos rfl, ni_30, vN_nI (by omega)]
  have hn1 : hm_n cs_S0 1 = 0 := by unfold hm_n; rw [if_neg (by decide), if_pos rfl, ni_v31]
  have hn2 : hm_n cs_S0 2 = 0 := by unfold hm_n; rw [if_neg (by decide), if_neg (by decide), if_pos rfl, ni_v32]
  have i30 : ∀ i, i < 3 → hm_E G cs_S0 (ni_M fe) A1 (30 + i) = hm_ls G cs_S0 (ni_M fe) A1 i := fun i hi => hm_e30 (by omega) (by rw [ni_v32]; omega)
  have hE : ∀ j, hm_D cs_S0 (ni_M fe) j → hm_E G cs_S0 (ni_M fe) A1 j = E1 j := by
    intro j hj
    rw [← hDe] at hj
    simp only [hDD] at hj
    have hc : j = 0 ∨ j = 1 ∨ j = 2 ∨ j = 3 ∨ j = 4 ∨ j = 5 ∨ j = 6 ∨ j = 7 ∨ j = 8 ∨ j = 9 ∨ j = 10 ∨ j = 11 ∨ j = 12 ∨ j = 13 ∨ j = 14 ∨ j = 15 ∨ j = 16 ∨ j = 17 ∨ j = 18 ∨ j = 19 ∨ j = 20 ∨ j = 21 ∨ j = 30 ∨ j = 31 ∨ j = 32 ∨ j = 50 := by omega
    rcases hc with rfl | rfl | rfl | rfl | rfl | rfl | rfl | rfl | rfl | rfl | rfl | rfl | rfl | rfl | rfl | rfl | rfl | rfl | rfl | rfl | rfl | rfl | rfl | rfl | rfl | rfl
    · rw [g0]; exact hm_e0
    · rw [g1]; exact hm_e1
    · rw [g2]; exact hm_e2
    · rw [g3]; exact hm_e3
    · rw [g4]; refine (hm_e4 (a := 0) (by omega)).trans ?_; rw [t12]
    · rw [g5]; refine (hm_e4 (a := 1) (by omega)).trans ?_; rw [t12]
    · rw [g6]; refine (hm_e4 (a := 2) (by omega)).trans ?_; rw [t12]
    · rw [g7]; refine (hm_e4 (a := 3) (by omega)).trans ?_; rw [t12]
    · rw [g8]; refine (hm_e4 (a := 4) (by omega)).trans ?_; rw [t12]
    · rw [g9]; refine (hm_e4 (a := 5) (by omega)).trans ?_; rw [t12]
    · rw [g10]; exact hm_e10
    · rw [g11]; refine (hm_e11 (a := 0) (by omega)).trans ?_; rw [t19]
    · rw [g12]; refine (hm_e11 (a := 1) (by omega)).trans ?_; rw [t19]
    · rw [g13]; refine (hm_e11 (a := 2) (by omega)).trans ?_; rw [t19]
    · rw [g14]; refine (hm_e11 (a := 3) (by omega)).trans ?_; rw [t19]
    · rw [g15]; refine (hm_e11 (a := 4) (by omega)).trans ?_; rw [t19]
    · rw [g16]; refine (hm_e11 (a := 5) (by omega)).trans ?_; rw [t19]
    · rw [g17]; exact hm_e17
    · rw [g18]; refine (hm_e18 (a := 0) (by omega)).trans ?_; rw [t27]
    · rw [g19]; refine (hm_e18 (a := 1) (by omega)).trans ?_; rw [t27]
    · rw [g20]; refine (hm_e18 (a := 2) (by omega)).trans ?_; rw [t27]
    · rw [g21]; refine (hm_e18 (a := 3) (by omega)).trans ?_; rw [t27]
    · rw [g30]; refine (i30 0 (by omega)).trans ?_; unfold hm_ls; rw [hn0]; rfl
    · rw [g31]; refine (i30 1 (by omega)).trans ?_; unfold hm_ls; rw [hn1]; rfl
    · rw [g32]; refine (i30 2 (by omega)).trans ?_; unfold hm_ls; rw [hn2]; rfl
    · rw [g50]; exact (hm_e50 (i := 0) (M := ni_M fe) (by omega) (by rw [ni_v32]; omega) rfl)
  refine ⟨A1, ni_M fe, rfl, rfl, ni_ok hfe, hk, ?_⟩
  unfold hm_h
  exact (ha_ext hk.1 (fun _ _ => rfl) hE).symm
theorem cm_init0 {Qp : hk_H → Prop} (hfl : l.stackTraces = false) (hk0 : ha_ok D A h) (hDD : ∀ j, D j ↔ j = 0) (he0 : E 0 = .inr (16, [.int 0, .null, .null, .null, .null, .null, .null, .long 0, .null, .int 0, .null])) (hQ : ∀ h1, hm_Wd G (A 0) cs_S0 1 0 0 (nI 0) h h1 → Qp h1) : hk_Ctr G l 9 yX9_init cX9_init 1 none 60 300 [.ref (A 0)] (ha D A E h) (hk_qv Qp) hk_no := by
  have hD0 : D 0 := (hDD 0).mpr rfl
  refine hk_enter (by decide) hfl (Nat.le_of_ble_eq_true rfl) rfl ?_
  refine hk_aload_n dX9_init_0 rfl rfl rfl ?_
  refine hk_objInit dX9_init_1 rfl ob_X9_7 (by decide) rfl ?_
  refine hk_aload_n dX9_init_4 rfl rfl rfl ?_
  refine ca_new 30 hk0 (fun z => absurd ((hDD 30).mp z) (by decide)) dX9_init_5 rfl nw_X9_13 (by decide) ?_
  intro A1 E1 hA1 hE1 hx1 hk1
  have f0_1 := (hE1 0 hD0).trans he0
  have cA1 : A1 0 = A 0 := (hA1 0 hD0).trans rfl
  refine hk_dup dX9_init_8 rfl rfl ?_
  refine hk_callI (a := A1 30) dX9_init_9 rfl mi_X9_15 (cj_alinit hfl ((ha_get hk1.1 (Or.inl rfl)).trans (congrArg some hx1))) rfl rfl (by decide) (by decide) (Nat.le_of_ble_eq_true rfl) (hk_kv fun h1 q1 => ?_) hk_nx
  subst q1
  obtain ⟨E2, hE2, hx2, e2⟩ := ha_put (E := E1) (x := .inr (6, [.int 0, .ref (hk_K G 1001), .int (nI 0)])) hk1 (Or.inl rfl)
  refine hx_cg e2 ?_
  have f0_2 := (hE2 0 (Or.inr hD0) (by decide)).trans f0_1
  refine ca_putf 0 hk1 (Or.inr hD0) cA1 f0_2 dX9_init_12 rfl (fw_X9_16 rfl rfl) rfl rfl (Nat.lt_of_lt_of_eq (by decide : 1 < 11) rfl) ?_
  intro E3 hE3 hx3
  have f30_3 := (hE3 30 (Or.inl rfl) (by decide)).trans hx2
  have hx3 : E3 0 = .inr (16, [.int 0, .ref (A1 30), .null, .null, .null, .null, .null, .long 0, .null, .int 0, .null]) := by rw [hx3]; rfl
  refine hk_aload_n dX9_init_15 rfl rfl rfl ?_
  refine hk_iconst (v := nI 2) dX9_init_16 rfl (by decide) ?_
  refine ca_newa 1 (t := 0) (N := 2) hk1 (fun z => z.elim (by decide) (fun z => absurd ((hDD 1).mp z) (by decide))) dX9_init_17 rfl (by decide) rfl rfl (fun _ _ z => z) ac_0 (by decide) (by decide) (by decide) (by decide) ?_
  intro A4 E4 hA4 hE4 hx4 hk4
  have f0_4 := (hE4 0 (Or.inr hD0)).trans hx3
  rw [← hA4 30 (Or.inl rfl)] at f0_4
  have f30_4 := (hE4 30 (Or.inl rfl)).trans f30_3
  have cA4 : A4 0 = A 0 := (hA4 0 (Or.inr hD0)).trans cA1
  refine hk_dup dX9_init_19 rfl rfl ?_
  refine hk_iconst (v := nI 0) dX9_init_20 rfl (by decide) ?_
  refine hk_bipush (v := nI 10) dX9_init_21 rfl (by decide) ?_
  refine ca_iast 1 hk4 (Or.inl rfl) rfl hx4 dX9_init_23 rfl (by decide) (by decide) ?_
  intro E5 hE5 hx5
  have f0_5 := (hE5 0 (Or.inr (Or.inr hD0)) (by decide)).trans f0_4
  have f30_5 := (hE5 30 (Or.inr (Or.inl rfl)) (by decide)).trans f30_4
  refine hk_dup dX9_init_24 rfl rfl ?_
  refine hk_iconst (v := nI 1) dX9_init_25 rfl (by decide) ?_
  refine hk_iconst (v := nI 1) dX9_init_26 rfl (by decide) ?_
  refine ca_iast 1 hk4 (Or.inl rfl) rfl hx5 dX9_init_27 rfl (by decide) (by decide) ?_
  intro E6 hE6 hx6
  have f0_6 := (hE6 0 (Or.inr (Or.inr hD0)) (by decide)).trans f0_5
  have f30_6 := (hE6 30 (Or.inr (Or.inl rfl)) (by decide)).trans f30_5
  refine ca_putf 0 hk4 (Or.inr (Or.inr hD0)) cA4 f0_6 dX9_init_28 rfl (fw_X9_20 rfl rfl) rfl rfl (Nat.lt_of_lt_of_eq (by decide : 2 < 11) rfl) ?_
  intro E7 hE7 hx7
  have f30_7 := (hE7 30 (Or.inr (Or.inl rfl)) (by decide)).trans f30_6
  have f1_7 := (hE7 1 (Or.inl rfl) (by decide)).trans hx6
  have hx7 : E7 0 = .inr (16, [.int 0, .ref (A4 30), .ref (A4 1), .null, .null, .null, .null, .long 0, .null, .int 0, .null]) := by rw [hx7]; rfl
  refine hk_aload_n dX9_init_31 rfl rfl rfl ?_
  refine hk_iconst (v := nI 2) dX9_init_32 rfl (by decide) ?_
  refine ca_newa 2 (t := 0) (N := 2) hk4 (fun z => z.elim (by decide) (fun z => z.elim (by decide) (fun z => absurd ((hDD 2).mp z) (by decide)))) dX9_init_33 rfl (by decide) rfl rfl (fun _ _ z => z) ac_0 (by decide) (by decide) (by decide) (by decide) ?_
  intro A8 E8 hA8 hE8 hx8 hk8
  have f0_8 := (hE8 0 (Or.inr (Or.inr hD0))).trans hx7
  rw [← hA8 30 (Or.inr (Or.inl rfl))] at f0_8
  rw [← hA8 1 (Or.inl rfl)] at f0_8
  have f30_8 := (hE8 30 (Or.inr (Or.inl rfl))).trans f30_7
  have f1_8 := (hE8 1 (Or.inl rfl)).trans f1_7
  have cA8 : A8 0 = A 0 := (hA8 0 (Or.inr (Or.inr hD0))).trans cA4
  refine hk_dup dX9_init_35 rfl rfl ?_
  refine hk_iconst (v := nI 0) dX9_init_36 rfl (by decide) ?_
  refine hk_iconst (v := nI 5) dX9_init_37 rfl (by decide) ?_
  refine ca_iast 2 hk8 (Or.inl rfl) rfl hx8 dX9_init_38 rfl (by decide) (by decide) ?_
  intro E9 hE9 hx9
  have f0_9 := (hE9 0 (Or.inr (Or.inr (Or.inr hD0))) (by decide)).trans f0_8
  have f30_9 := (hE9 30 (Or.inr (Or.inr (Or.inl rfl))) (by decide)).trans f30_8
  have f1_9 := (hE9 1 (Or.inr (Or.inl rfl)) (by decide)).trans f1_8
  refine hk_dup dX9_init_39 rfl rfl ?_
  refine hk_iconst (v := nI 1) dX9_init_40 rfl (by decide) ?_
  refine hk_iconst (v := nI 5) dX9_init_41 rfl (by decide) ?_
  refine ca_iast 2 hk8 (Or.inl rfl) rfl hx9 dX9_init_42 rfl (by decide) (by decide) ?_
  intro E10 hE10 hx10
  have f0_10 := (hE10 0 (Or.inr (Or.inr (Or.inr hD0))) (by decide)).trans f0_9
  have f30_10 := (hE10 30 (Or.inr (Or.inr (Or.inl rfl))) (by decide)).trans f30_9
  have f1_10 := (hE10 1 (Or.inr (Or.inl rfl)) (by decide)).trans f1_9
  refine ca_putf 0 hk8 (Or.inr (Or.inr (Or.inr hD0))) cA8 f0_10 dX9_init_43 rfl (fw_X9_24 rfl rfl) rfl rfl (Nat.lt_of_lt_of_eq (by decide : 3 < 11) rfl) ?_
  intro E11 hE11 hx11
  have f30_11 := (hE11 30 (Or.inr (Or.inr (Or.inl rfl))) (by decide)).trans f30_10
  have f1_11 := (hE11 1 (Or.inr (Or.inl rfl)) (by decide)).trans f1_10
  have f2_11 := (hE11 2 (Or.inl rfl) (by decide)).trans hx10
  have hx11 : E11 0 = .inr (16, [.int 0, .ref (A8 30), .ref (A8 1), .ref (A8 2), .null, .null, .null, .long 0, .null, .int 0, .null]) := by rw [hx11]; rfl
  refine hk_aload_n dX9_init_46 rfl rfl rfl ?_
  refine hk_bipush (v := nI 6) dX9_init_47 rfl (by decide) ?_
  refine hk_iconst (v := nI 2) dX9_init_49 rfl (by decide) ?_
  refine ca_mna 3 (N := 6) (K := 2) hk8 (fun j h1 h2 z => by simp only [hDD] at z; omega) dX9_init_50 rfl kl_X9_27 ac_0 (by decide) (by decide) (by decide) (by decide) (by decide) (by decide) (by decide) (by decide) ?_
  intro A12 E12 hA12 hE12 hx12 hr12 hk12
  have f0_12 := (hE12 0 (Or.inr (Or.inr (Or.inr hD0)))).trans hx11
  rw [← hA12 30 (Or.inr (Or.inr (Or.inl rfl)))] at f0_12
  rw [← hA12 1 (Or.inr (Or.inl rfl))] at f0_12
  rw [← hA12 2 (Or.inl rfl)] at f0_12
  have f30_12 := (hE12 30 (Or.inr (Or.inr (Or.inl rfl)))).trans f30_11
  have f1_12 := (hE12 1 (Or.inr (Or.inl rfl))).trans f1_11
  have f2_12 := (hE12 2 (Or.inl rfl)).trans f2_11
  have cA12 : A12 0 = A 0 := (hA12 0 (Or.inr (Or.inr (Or.inr hD0)))).trans cA8
  have f4_12 : E12 4 = .inl (0, 2, .inl (fun _ => 0)) := hr12 0 (by decide)
  have f5_12 : E12 5 = .inl (0, 2, .inl (fun _ => 0)) := hr12 1 (by decide)
  have f6_12 : E12 6 = .inl (0, 2, .inl (fun _ => 0)) := hr12 2 (by decide)
  have f7_12 : E12 7 = .inl (0, 2, .inl (fun _ => 0)) := hr12 3 (by decide)
  have f8_12 : E12 8 = .inl (0, 2, .inl (fun _ => 0)) := hr12 4 (by decide)
  have f9_12 : E12 9 = .inl (0, 2, .inl (fun _ => 0)) := hr12 5 (by decide)
  refine ca_putf 0 hk12 (Or.inr (Or.inr (Or.inr (Or.inr hD0)))) cA12 f0_12 dX9_init_54 rfl (fw_X9_29 rfl rfl) rfl rfl (Nat.lt_of_lt_of_eq (by decide : 4 < 11) rfl) ?_
  intro E13 hE13 hx13
  have f30_13 := (hE13 30 (Or.inr (Or.inr (Or.inr (Or.inl rfl)))) (by decide)).trans f30_12
  have f1_13 := (hE13 1 (Or.inr (Or.inr (Or.inl rfl))) (by decide)).trans f1_12
  have f2_13 := (hE13 2 (Or.inr (Or.inl rfl)) (by decide)).trans f2_12
  have f3_13 := (hE13 3 (Or.inl ⟨by decide, by decide⟩) (by decide)).trans hx12
  have f4_13 := (hE13 4 (Or.inl ⟨by decide, by decide⟩) (by decide)).trans f4_12
  have f5_13 := (hE13 5 (Or.inl ⟨by decide, by decide⟩) (by decide)).trans f5_12
  have f6_13 := (hE13 6 (Or.inl ⟨by decide, by decide⟩) (by decide)).trans f6_12
  have f7_13 := (hE13 7 (Or.inl ⟨by decide, by decide⟩) (by decide)).trans f7_12
  have f8_13 := (hE13 8 (Or.inl ⟨by decide, by decide⟩) (by decide)).trans f8_12
  have f9_13 := (hE13 9 (Or.inl ⟨by decide, by decide⟩) (by decide)).trans f9_12
  have hx13 : E13 0 = .inr (16, [.int 0, .ref (A12 30), .ref (A12 1), .ref (A12 2), .ref (A12 3), .null, .null, .long 0, .null, .int 0, .null]) := by rw [hx13]; rfl
  refine hk_aload_n dX9_init_57 rfl rfl rfl ?_
  refine ca_new 31 hk12 (fun z => z.elim (by decide) (fun z => z.elim (by decide) (fun z => z.elim (by decide) (fun z => z.elim (by decide) (fun z => absurd ((hDD 31).mp z) (by decide)))))) dX9_init_58 rfl nw_X9_13 (by decide) ?_
  intro A14 E14 hA14 hE14 hx14 hk14
  have f0_14 := (hE14 0 (Or.inr (Or.inr (Or.inr (Or.inr hD0))))).trans hx13
  rw [← hA14 30 (Or.inr (Or.inr (Or.inr (Or.inl rfl))))] at f0_14
  rw [← hA14 1 (Or.inr (Or.inr (Or.inl rfl)))] at f0_14
  rw [← hA14 2 (Or.inr (Or.inl rfl))] at f0_14
  rw [← hA14 3 (Or.inl ⟨by decide, by decide⟩)] at f0_14
  have f30_14 := (hE14 30 (Or.inr (Or.inr (Or.inr (Or.inl rfl))))).trans f30_13
  have f1_14 := (hE14 1 (Or.inr (Or.inr (Or.inl rfl)))).trans f1_13
  have f2_14 := (hE14 2 (Or.inr (Or.inl rfl))).trans f2_13
  have f3_14 := (hE14 3 (Or.inl ⟨by decide, by decide⟩)).trans f3_13
  rw [hm_rf_cg (n := 6) (b := 4) (fun i hi => hA14 _ (Or.inl ⟨by omega, by omega⟩))] at f3_14
  have f4_14 := (hE14 4 (Or.inl ⟨by decide, by decide⟩)).trans f4_13
  have f5_14 := (hE14 5 (Or.inl ⟨by decide, by decide⟩)).trans f5_13
  have f6_14 := (hE14 6 (Or.inl ⟨by decide, by decide⟩)).trans f6_13
  have f7_14 := (hE14 7 (Or.inl ⟨by decide, by decide⟩)).trans f7_13
  have f8_14 := (hE14 8 (Or.inl ⟨by decide, by decide⟩)).trans f8_13
  have f9_14 := (hE14 9 (Or.inl ⟨by decide, by decide⟩)).trans f9_13
  have cA14 : A14 0 = A 0 := (hA14 0 (Or.inr (Or.inr (Or.inr (Or.inr hD0))))).trans cA12
  refine hk_dup dX9_init_61 rfl rfl ?_
  refine hk_callI (a := A14 31) dX9_init_62 rfl mi_X9_15 (cj_alinit hfl ((ha_get hk14.1 (Or.inl rfl)).trans (congrArg some hx14))) rfl rfl (by decide) (by decide) (Nat.le_of_ble_eq_true rfl) (hk_kv fun h1 q1 => ?_) hk_nx
  subst q1
  obtain ⟨E15, hE15, hx15, e15⟩ := ha_put (E := E14) (x := .inr (6, [.int 0, .ref (hk_K G 1001), .int (nI 0)])) hk14 (Or.inl rfl)
  refine hx_cg e15 ?_
  have f0_15 := (hE15 0 (Or.inr (Or.inr (Or.inr (Or.inr (Or.inr hD0))))) (by decide)).trans f0_14
  have f30_15 := (hE15 30 (Or.inr (Or.inr (Or.inr (Or.inr (Or.inl rfl))))) (by decide)).trans f30_14
  have f1_15 := (hE15 1 (Or.inr (Or.inr (Or.inr (Or.inl rfl)))) (by decide)).trans f1_14
  have f2_15 := (hE15 2 (Or.inr (Or.inr (Or.inl rfl))) (by decide)).trans f2_14
  have f3_15 := (hE15 3 (Or.inr (Or.inl ⟨by decide, by decide⟩)) (by decide)).trans f3_14
  have f4_15 := (hE15 4 (Or.inr (Or.inl ⟨by decide, by decide⟩)) (by decide)).trans f4_14
  have f5_15 := (hE15 5 (Or.inr (Or.inl ⟨by decide, by decide⟩)) (by decide)).trans f5_14
  have f6_15 := (hE15 6 (Or.inr (Or.inl ⟨by decide, by decide⟩)) (by decide)).trans f6_14
  have f7_15 := (hE15 7 (Or.inr (Or.inl ⟨by decide, by decide⟩)) (by decide)).trans f7_14
  have f8_15 := (hE15 8 (Or.inr (Or.inl ⟨by decide, by decide⟩)) (by decide)).trans f8_14
  have f9_15 := (hE15 9 (Or.inr (Or.inl ⟨by decide, by decide⟩)) (by decide)).trans f9_14
  refine ca_putf 0 hk14 (Or.inr (Or.inr (Or.inr (Or.inr (Or.inr hD0))))) cA14 f0_15 dX9_init_65 rfl (fw_X9_32 rfl rfl) rfl rfl (Nat.lt_of_lt_of_eq (by decide : 5 < 11) rfl) ?_
  intro E16 hE16 hx16
  have f30_16 := (hE16 30 (Or.inr (Or.inr (Or.inr (Or.inr (Or.inl rfl))))) (by decide)).trans f30_15
  have f1_16 := (hE16 1 (Or.inr (Or.inr (Or.inr (Or.inl rfl)))) (by decide)).trans f1_15
  have f2_16 := (hE16 2 (Or.inr (Or.inr (Or.inl rfl))) (by decide)).trans f2_15
  have f3_16 := (hE16 3 (Or.inr (Or.inl ⟨by decide, by decide⟩)) (by decide)).trans f3_15
  have f4_16 := (hE16 4 (Or.inr (Or.inl ⟨by decide, by decide⟩)) (by decide)).trans f4_15
  have f5_16 := (hE16 5 (Or.inr (Or.inl ⟨by decide, by decide⟩)) (by decide)).trans f5_15
  have f6_16 := (hE16 6 (Or.inr (Or.inl ⟨by decide, by decide⟩)) (by decide)).trans f6_15
  have f7_16 := (hE16 7 (Or.inr (Or.inl ⟨by decide, by decide⟩)) (by decide)).trans f7_15
  have f8_16 := (hE16 8 (Or.inr (Or.inl ⟨by decide, by decide⟩)) (by decide)).trans f8_15
  have f9_16 := (hE16 9 (Or.inr (Or.inl ⟨by decide, by decide⟩)) (by decide)).trans f9_15
  have f31_16 := (hE16 31 (Or.inl rfl) (by decide)).trans hx15
  have hx16 : E16 0 = .inr (16, [.int 0, .ref (A14 30), .ref (A14 1), .ref (A14 2), .ref (A14 3), .ref (A14 31), .null, .long 0, .null, .int 0, .null]) := by rw [hx16]; rfl
  refine hk_aload_n dX9_init_68 rfl rfl rfl ?_
  refine hk_bipush (v := nI 6) dX9_init_69 rfl (by decide) ?_
  refine hk_bipush (v := nI 6) dX9_init_71 rfl (by decide) ?_
  refine ca_mna 10 (N := 6) (K := 6) hk14 (fun j h1 h2 z => by simp only [hDD] at z; omega) dX9_init_73 rfl kl_X9_27 ac_0 (by decide) (by decide) (by decide) (by decide) (by decide) (by decide) (by decide) (by decide) ?_
  intro A17 E17 hA17 hE17 hx17 hr17 hk17
  have f0_17 := (hE17 0 (Or.inr (Or.inr (Or.inr (Or.inr (Or.inr hD0)))))).trans hx16
  rw [← hA17 30 (Or.inr (Or.inr (Or.inr (Or.inr (Or.inl rfl)))))] at f0_17
  rw [← hA17 1 (Or.inr (Or.inr (Or.inr (Or.inl rfl))))] at f0_17
  rw [← hA17 2 (Or.inr (Or.inr (Or.inl rfl)))] at f0_17
  rw [← hA17 3 (Or.inr (Or.inl ⟨by decide, by decide⟩))] at f0_17
  rw [← hA17 31 (Or.inl rfl)] at f0_17
  have f30_17 := (hE17 30 (Or.inr (Or.inr (Or.inr (Or.inr (Or.inl rfl)))))).trans f30_16
  have f1_17 := (hE17 1 (Or.inr (Or.inr (Or.inr (Or.inl rfl))))).trans f1_16
  have f2_17 := (hE17 2 (Or.inr (Or.inr (Or.inl rfl)))).trans f2_16
  have f3_17 := (hE17 3 (Or.inr (Or.inl ⟨by decide, by decide⟩))).trans f3_16
  rw [hm_rf_cg (n := 6) (b := 4) (fun i hi => hA17 _ (Or.inr (Or.inl ⟨by omega, by omega⟩)))] at f3_17
  have f4_17 := (hE17 4 (Or.inr (Or.inl ⟨by decide, by decide⟩))).trans f4_16
  have f5_17 := (hE17 5 (Or.inr (Or.inl ⟨by decide, by decide⟩))).trans f5_16
  have f6_17 := (hE17 6 (Or.inr (Or.inl ⟨by decide, by decide⟩))).trans f6_16
  have f7_17 := (hE17 7 (Or.inr (Or.inl ⟨by decide, by decide⟩))).trans f7_16
  have f8_17 := (hE17 8 (Or.inr (Or.inl ⟨by decide, by decide⟩))).trans f8_16
  have f9_17 := (hE17 9 (Or.inr (Or.inl ⟨by decide, by decide⟩))).trans f9_16
  have f31_17 := (hE17 31 (Or.inl rfl)).trans f31_16
  have cA17 : A17 0 = A 0 := (hA17 0 (Or.inr (Or.inr (Or.inr (Or.inr (Or.inr hD0)))))).trans cA14
  have f11_17 : E17 11 = .inl (0, 6, .inl (fun _ => 0)) := hr17 0 (by decide)
  have f12_17 : E17 12 = .inl (0, 6, .inl (fun _ => 0)) := hr17 1 (by decide)
  have f13_17 : E17 13 = .inl (0, 6, .inl (fun _ => 0)) := hr17 2 (by decide)
  have f14_17 : E17 14 = .inl (0, 6, .inl (fun _ => 0)) := hr17 3 (by decide)
  have f15_17 : E17 15 = .inl (0, 6, .inl (fun _ => 0)) := hr17 4 (by decide)
  have f16_17 : E17 16 = .inl (0, 6, .inl (fun _ => 0)) := hr17 5 (by decide)
  refine ca_putf 0 hk17 (Or.inr (Or.inr (Or.inr (Or.inr (Or.inr (Or.inr hD0)))))) cA17 f0_17 dX9_init_77 rfl (fw_X9_35 rfl rfl) rfl rfl (Nat.lt_of_lt_of_eq (by decide : 6 < 11) rfl) ?_
  intro E18 hE18 hx18
  have f30_18 := (hE18 30 (Or.inr (Or.inr (Or.inr (Or.inr (Or.inr (Or.inl rfl)))))) (by decide)).trans f30_17
  have f1_18 := (hE18 1 (Or.inr (Or.inr (Or.inr (Or.inr (Or.inl rfl))))) (by decide)).trans f1_17
  have f2_18 := (hE18 2 (Or.inr (Or.inr (Or.inr (Or.inl rfl)))) (by decide)).trans f2_17
  have f3_18 := (hE18 3 (Or.inr (Or.inr (Or.inl ⟨by decide, by decide⟩))) (by decide)).trans f3_17
  have f4_18 := (hE18 4 (Or.inr (Or.inr (Or.inl ⟨by decide, by decide⟩))) (by decide)).trans f4_17
  have f5_18 := (hE18 5 (Or.inr (Or.inr (Or.inl ⟨by decide, by decide⟩))) (by decide)).trans f5_17
  have f6_18 := (hE18 6 (Or.inr (Or.inr (Or.inl ⟨by decide, by decide⟩))) (by decide)).trans f6_17
  have f7_18 := (hE18 7 (Or.inr (Or.inr (Or.inl ⟨by decide, by decide⟩))) (by decide)).trans f7_17
  have f8_18 := (hE18 8 (Or.inr (Or.inr (Or.inl ⟨by decide, by decide⟩))) (by decide)).trans f8_17
  have f9_18 := (hE18 9 (Or.inr (Or.inr (Or.inl ⟨by decide, by decide⟩))) (by decide)).trans f9_17
  have f31_18 := (hE18 31 (Or.inr (Or.inl rfl)) (by decide)).trans f31_17
  have f10_18 := (hE18 10 (Or.inl ⟨by decide, by decide⟩) (by decide)).trans hx17
  have f11_18 := (hE18 11 (Or.inl ⟨by decide, by decide⟩) (by decide)).trans f11_17
  have f12_18 := (hE18 12 (Or.inl ⟨by decide, by decide⟩) (by decide)).trans f12_17
  have f13_18 := (hE18 13 (Or.inl ⟨by decide, by decide⟩) (by decide)).trans f13_17
  have f14_18 := (hE18 14 (Or.inl ⟨by decide, by decide⟩) (by decide)).trans f14_17
  have f15_18 := (hE18 15 (Or.inl ⟨by decide, by decide⟩) (by decide)).trans f15_17
  have f16_18 := (hE18 16 (Or.inl ⟨by decide, by decide⟩) (by decide)).trans f16_17
  have hx18 : E18 0 = .inr (16, [.int 0, .ref (A17 30), .ref (A17 1), .ref (A17 2), .ref (A17 3), .ref (A17 31), .ref (A17 10), .long 0, .null, .int 0, .null]) := by rw [hx18]; rfl
  refine hk_aload_n dX9_init_80 rfl rfl rfl ?_
  refine ca_new 32 hk17 (fun z => z.elim (by decide) (fun z => z.elim (by decide) (fun z => z.elim (by decide) (fun z => z.elim (by decide) (fun z => z.elim (by decide) (fun z => z.elim (by decide) (fun z => absurd ((hDD 32).mp z) (by decide)))))))) dX9_init_81 rfl nw_X9_13 (by decide) ?_
  intro A19 E19 hA19 hE19 hx19 hk19
  have f0_19 := (hE19 0 (Or.inr (Or.inr (Or.inr (Or.inr (Or.inr (Or.inr hD0))))))).trans hx18
  rw [← hA19 30 (Or.inr (Or.inr (Or.inr (Or.inr (Or.inr (Or.inl rfl))))))] at f0_19
  rw [← hA19 1 (Or.inr (Or.inr (Or.inr (Or.inr (Or.inl rfl)))))] at f0_19
  rw [← hA19 2 (Or.inr (Or.inr (Or.inr (Or.inl rfl))))] at f0_19
  rw [← hA19 3 (Or.inr (Or.inr (Or.inl ⟨by decide, by decide⟩)))] at f0_19
  rw [← hA19 31 (Or.inr (Or.inl rfl))] at f0_19
  rw [← hA19 10 (Or.inl ⟨by decide, by decide⟩)] at f0_19
  have f30_19 := (hE19 30 (Or.inr (Or.inr (Or.inr (Or.inr (Or.inr (Or.inl rfl))))))).trans f30_18
  have f1_19 := (hE19 1 (Or.inr (Or.inr (Or.inr (Or.inr (Or.inl rfl)))))).trans f1_18
  have f2_19 := (hE19 2 (Or.inr (Or.inr (Or.inr (Or.inl rfl))))).trans f2_18
  have f3_19 := (hE19 3 (Or.inr (Or.inr (Or.inl ⟨by decide, by decide⟩)))).trans f3_18
  rw [hm_rf_cg (n := 6) (b := 4) (fun i hi => hA19 _ (Or.inr (Or.inr (Or.inl ⟨by omega, by omega⟩))))] at f3_19
  have f4_19 := (hE19 4 (Or.inr (Or.inr (Or.inl ⟨by decide, by decide⟩)))).trans f4_18
  have f5_19 := (hE19 5 (Or.inr (Or.inr (Or.inl ⟨by decide, by decide⟩)))).trans f5_18
  have f6_19 := (hE19 6 (Or.inr (Or.inr (Or.inl ⟨by decide, by decide⟩)))).trans f6_18
  have f7_19 := (hE19 7 (Or.inr (Or.inr (Or.inl ⟨by decide, by decide⟩)))).trans f7_18
  have f8_19 := (hE19 8 (Or.inr (Or.inr (Or.inl ⟨by decide, by decide⟩)))).trans f8_18
  have f9_19 := (hE19 9 (Or.inr (Or.inr (Or.inl ⟨by decide, by decide⟩)))).trans f9_18
  have f31_19 := (hE19 31 (Or.inr (Or.inl rfl))).trans f31_18
  have f10_19 := (hE19 10 (Or.inl ⟨by decide, by decide⟩)).trans f10_18
  rw [hm_rf_cg (n := 6) (b := 11) (fun i hi => hA19 _ (Or.inl ⟨by omega, by omega⟩))] at f10_19
  have f11_19 := (hE19 11 (Or.inl ⟨by decide, by decide⟩)).trans f11_18
  have f12_19 := (hE19 12 (Or.inl ⟨by decide, by decide⟩)).trans f12_18
  have f13_19 := (hE19 13 (Or.inl ⟨by decide, by decide⟩)).trans f13_18
  have f14_19 := (hE19 14 (Or.inl ⟨by decide, by decide⟩)).trans f14_18
  have f15_19 := (hE19 15 (Or.inl ⟨by decide, by decide⟩)).trans f15_18
  have f16_19 := (hE19 16 (Or.inl ⟨by decide, by decide⟩)).trans f16_18
  have cA19 : A19 0 = A 0 := (hA19 0 (Or.inr (Or.inr (Or.inr (Or.inr (Or.inr (Or.inr hD0))))))).trans cA17
  refine hk_dup dX9_init_84 rfl rfl ?_
  refine hk_callI (a := A19 32) dX9_init_85 rfl mi_X9_15 (cj_alinit hfl ((ha_get hk19.1 (Or.inl rfl)).trans (congrArg some hx19))) rfl rfl (by decide) (by decide) (Nat.le_of_ble_eq_true rfl) (hk_kv fun h1 q1 => ?_) hk_nx
  subst q1
  obtain ⟨E20, hE20, hx20, e20⟩ := ha_put (E := E19) (x := .inr (6, [.int 0, .ref (hk_K G 1001), .int (nI 0)])) hk19 (Or.inl rfl)
  refine hx_cg e20 ?_
  have f0_20 := (hE20 0 (Or.inr (Or.inr (Or.inr (Or.inr (Or.inr (Or.inr (Or.inr hD0))))))) (by decide)).trans f0_19
  have f30_20 := (hE20 30 (Or.inr (Or.inr (Or.inr (Or.inr (Or.inr (Or.inr (Or.inl rfl))))))) (by decide)).trans f30_19
  have f1_20 := (hE20 1 (Or.inr (Or.inr (Or.inr (Or.inr (Or.inr (Or.inl rfl)))))) (by decide)).trans f1_19
  have f2_20 := (hE20 2 (Or.inr (Or.inr (Or.inr (Or.inr (Or.inl rfl))))) (by decide)).trans f2_19
  have f3_20 := (hE20 3 (Or.inr (Or.inr (Or.inr (Or.inl ⟨by decide, by decide⟩)))) (by decide)).trans f3_19
  have f4_20 := (hE20 4 (Or.inr (Or.inr (Or.inr (Or.inl ⟨by decide, by decide⟩)))) (by decide)).trans f4_19
  have f5_20 := (hE20 5 (Or.inr (Or.inr (Or.inr (Or.inl ⟨by decide, by decide⟩)))) (by decide)).trans f5_19
  have f6_20 := (hE20 6 (Or.inr (Or.inr (Or.inr (Or.inl ⟨by decide, by decide⟩)))) (by decide)).trans f6_19
  have f7_20 := (hE20 7 (Or.inr (Or.inr (Or.inr (Or.inl ⟨by decide, by decide⟩)))) (by decide)).trans f7_19
  have f8_20 := (hE20 8 (Or.inr (Or.inr (Or.inr (Or.inl ⟨by decide, by decide⟩)))) (by decide)).trans f8_19
  have f9_20 := (hE20 9 (Or.inr (Or.inr (Or.inr (Or.inl ⟨by decide, by decide⟩)))) (by decide)).trans f9_19
  have f31_20 := (hE20 31 (Or.inr (Or.inr (Or.inl rfl))) (by decide)).trans f31_19
  have f10_20 := (hE20 10 (Or.inr (Or.inl ⟨by decide, by decide⟩)) (by decide)).trans f10_19
  have f11_20 := (hE20 11 (Or.inr (Or.inl ⟨by decide, by decide⟩)) (by decide)).trans f11_19
  have f12_20 := (hE20 12 (Or.inr (Or.inl ⟨by decide, by decide⟩)) (by decide)).trans f12_19
  have f13_20 := (hE20 13 (Or.inr (Or.inl ⟨by decide, by decide⟩)) (by decide)).trans f13_19
  have f14_20 := (hE20 14 (Or.inr (Or.inl ⟨by decide, by decide⟩)) (by decide)).trans f14_19
  have f15_20 := (hE20 15 (Or.inr (Or.inl ⟨by decide, by decide⟩)) (by decide)).trans f15_19
  have f16_20 := (hE20 16 (Or.inr (Or.inl ⟨by decide, by decide⟩)) (by decide)).trans f16_19
  refine ca_putf 0 hk19 (Or.inr (Or.inr (Or.inr (Or.inr (Or.inr (Or.inr (Or.inr hD0))))))) cA19 f0_20 dX9_init_88 rfl (fw_X9_38 rfl rfl) rfl rfl (Nat.lt_of_lt_of_eq (by decide : 8 < 11) rfl) ?_
  intro E21 hE21 hx21
  have f30_21 := (hE21 30 (Or.inr (Or.inr (Or.inr (Or.inr (Or.inr (Or.inr (Or.inl rfl))))))) (by decide)).trans f30_20
  have f1_21 := (hE21 1 (Or.inr (Or.inr (Or.inr (Or.inr (Or.inr (Or.inl rfl)))))) (by decide)).trans f1_20
  have f2_21 := (hE21 2 (Or.inr (Or.inr (Or.inr (Or.inr (Or.inl rfl))))) (by decide)).trans f2_20
  have f3_21 := (hE21 3 (Or.inr (Or.inr (Or.inr (Or.inl ⟨by decide, by decide⟩)))) (by decide)).trans f3_20
  have f4_21 := (hE21 4 (Or.inr (Or.inr (Or.inr (Or.inl ⟨by decide, by decide⟩)))) (by decide)).trans f4_20
  have f5_21 := (hE21 5 (Or.inr (Or.inr (Or.inr (Or.inl ⟨by decide, by decide⟩)))) (by decide)).trans f5_20
  have f6_21 := (hE21 6 (Or.inr (Or.inr (Or.inr (Or.inl ⟨by decide, by decide⟩)))) (by decide)).trans f6_20
  have f7_21 := (hE21 7 (Or.inr (Or.inr (Or.inr (Or.inl ⟨by decide, by decide⟩)))) (by decide)).trans f7_20
  have f8_21 := (hE21 8 (Or.inr (Or.inr (Or.inr (Or.inl ⟨by decide, by decide⟩)))) (by decide)).trans f8_20
  have f9_21 := (hE21 9 (Or.inr (Or.inr (Or.inr (Or.inl ⟨by decide, by decide⟩)))) (by decide)).trans f9_20
  have f31_21 := (hE21 31 (Or.inr (Or.inr (Or.inl rfl))) (by decide)).trans f31_20
  have f10_21 := (hE21 10 (Or.inr (Or.inl ⟨by decide, by decide⟩)) (by decide)).trans f10_20
  have f11_21 := (hE21 11 (Or.inr (Or.inl ⟨by decide, by decide⟩)) (by decide)).trans f11_20
  have f12_21 := (hE21 12 (Or.inr (Or.inl ⟨by decide, by decide⟩)) (by decide)).trans f12_20
  have f13_21 := (hE21 13 (Or.inr (Or.inl ⟨by decide, by decide⟩)) (by decide)).trans f13_20
  have f14_21 := (hE21 14 (Or.inr (Or.inl ⟨by decide, by decide⟩)) (by decide)).trans f14_20
  have f15_21 := (hE21 15 (Or.inr (Or.inl ⟨by decide, by decide⟩)) (by decide)).trans f15_20
  have f16_21 := (hE21 16 (Or.inr (Or.inl ⟨by decide, by decide⟩)) (by decide)).trans f16_20
  have f32_21 := (hE21 32 (Or.inl rfl) (by decide)).trans hx20
  have hx21 : E21 0 = .inr (16, [.int 0, .ref (A19 30), .ref (A19 1), .ref (A19 2), .ref (A19 3), .ref (A19 31), .ref (A19 10), .long 0, .ref (A19 32), .int 0, .null]) := by rw [hx21]; rfl
  refine hk_aload_n dX9_init_91 rfl rfl rfl ?_
  refine hk_iconst (v := nI 4) dX9_init_92 rfl (by decide) ?_
  refine hk_bipush (v := nI 6) dX9_init_93 rfl (by decide) ?_
  refine ca_mna 17 (N := 4) (K := 6) hk19 (fun j h1 h2 z => by simp only [hDD] at z; omega) dX9_init_95 rfl kl_X9_27 ac_0 (by decide) (by decide) (by decide) (by decide) (by decide) (by decide) (by decide) (by decide) ?_
  intro A22 E22 hA22 hE22 hx22 hr22 hk22
  have f0_22 := (hE22 0 (Or.inr (Or.inr (Or.inr (Or.inr (Or.inr (Or.inr (Or.inr hD0)))))))).trans hx21
  rw [← hA22 30 (Or.inr (Or.inr (Or.inr (Or.inr (Or.inr (Or.inr (Or.inl rfl)))))))] at f0_22
  rw [← hA22 1 (Or.inr (Or.inr (Or.inr (Or.inr (Or.inr (Or.inl rfl))))))] at f0_22
  rw [← hA22 2 (Or.inr (Or.inr (Or.inr (Or.inr (Or.inl rfl)))))] at f0_22
  rw [← hA22 3 (Or.inr (Or.inr (Or.inr (Or.inl ⟨by decide, by decide⟩))))] at f0_22
  rw [← hA22 31 (Or.inr (Or.inr (Or.inl rfl)))] at f0_22
  rw [← hA22 10 (Or.inr (Or.inl ⟨by decide, by decide⟩))] at f0_22
  rw [← hA22 32 (Or.inl rfl)] at f0_22
  have f30_22 := (hE22 30 (Or.inr (Or.inr (Or.inr (Or.inr (Or.inr (Or.inr (Or.inl rfl)))))))).trans f30_21
  have f1_22 := (hE22 1 (Or.inr (Or.inr (Or.inr (Or.inr (Or.inr (Or.inl rfl))))))).trans f1_21
  have f2_22 := (hE22 2 (Or.inr (Or.inr (Or.inr (Or.inr (Or.inl rfl)))))).trans f2_21
  have f3_22 := (hE22 3 (Or.inr (Or.inr (Or.inr (Or.inl ⟨by decide, by decide⟩))))).trans f3_21
  rw [hm_rf_cg (n := 6) (b := 4) (fun i hi => hA22 _ (Or.inr (Or.inr (Or.inr (Or.inl ⟨by omega, by omega⟩)))))] at f3_22
  have f4_22 := (hE22 4 (Or.inr (Or.inr (Or.inr (Or.inl ⟨by decide, by decide⟩))))).trans f4_21
  have f5_22 := (hE22 5 (Or.inr (Or.inr (Or.inr (Or.inl ⟨by decide, by decide⟩))))).trans f5_21
  have f6_22 := (hE22 6 (Or.inr (Or.inr (Or.inr (Or.inl ⟨by decide, by decide⟩))))).trans f6_21
  have f7_22 := (hE22 7 (Or.inr (Or.inr (Or.inr (Or.inl ⟨by decide, by decide⟩))))).trans f7_21
  have f8_22 := (hE22 8 (Or.inr (Or.inr (Or.inr (Or.inl ⟨by decide, by decide⟩))))).trans f8_21
  have f9_22 := (hE22 9 (Or.inr (Or.inr (Or.inr (Or.inl ⟨by decide, by decide⟩))))).trans f9_21
  have f31_22 := (hE22 31 (Or.inr (Or.inr (Or.inl rfl)))).trans f31_21
  have f10_22 := (hE22 10 (Or.inr (Or.inl ⟨by decide, by decide⟩))).trans f10_21
  rw [hm_rf_cg (n := 6) (b := 11) (fun i hi => hA22 _ (Or.inr (Or.inl ⟨by omega, by omega⟩)))] at f10_22
  have f11_22 := (hE22 11 (Or.inr (Or.inl ⟨by decide, by decide⟩))).trans f11_21
  have f12_22 := (hE22 12 (Or.inr (Or.inl ⟨by decide, by decide⟩))).trans f12_21
  have f13_22 := (hE22 13 (Or.inr (Or.inl ⟨by decide, by decide⟩))).trans f13_21
  have f14_22 := (hE22 14 (Or.inr (Or.inl ⟨by decide, by decide⟩))).trans f14_21
  have f15_22 := (hE22 15 (Or.inr (Or.inl ⟨by decide, by decide⟩))).trans f15_21
  have f16_22 := (hE22 16 (Or.inr (Or.inl ⟨by decide, by decide⟩))).trans f16_21
  have f32_22 := (hE22 32 (Or.inl rfl)).trans f32_21
  have cA22 : A22 0 = A 0 := (hA22 0 (Or.inr (Or.inr (Or.inr (Or.inr (Or.inr (Or.inr (Or.inr hD0)))))))).trans cA19
  have f18_22 : E22 18 = .inl (0, 6, .inl (fun _ => 0)) := hr22 0 (by decide)
  have f19_22 : E22 19 = .inl (0, 6, .inl (fun _ => 0)) := hr22 1 (by decide)
  have f20_22 : E22 20 = .inl (0, 6, .inl (fun _ => 0)) := hr22 2 (by decide)
  have f21_22 : E22 21 = .inl (0, 6, .inl (fun _ => 0)) := hr22 3 (by decide)
  refine ca_putf 0 hk22 (Or.inr (Or.inr (Or.inr (Or.inr (Or.inr (Or.inr (Or.inr (Or.inr hD0)))))))) cA22 f0_22 dX9_init_99 rfl (fw_X9_41 rfl rfl) rfl rfl (Nat.lt_of_lt_of_eq (by decide : 10 < 11) rfl) ?_
  intro E23 hE23 hx23
  have f30_23 := (hE23 30 (Or.inr (Or.inr (Or.inr (Or.inr (Or.inr (Or.inr (Or.inr (Or.inl rfl)))))))) (by decide)).trans f30_22
  have f1_23 := (hE23 1 (Or.inr (Or.inr (Or.inr (Or.inr (Or.inr (Or.inr (Or.inl rfl))))))) (by decide)).trans f1_22
  have f2_23 := (hE23 2 (Or.inr (Or.inr (Or.inr (Or.inr (Or.inr (Or.inl rfl)))))) (by decide)).trans f2_22
  have f3_23 := (hE23 3 (Or.inr (Or.inr (Or.inr (Or.inr (Or.inl ⟨by decide, by decide⟩))))) (by decide)).trans f3_22
  have f4_23 := (hE23 4 (Or.inr (Or.inr (Or.inr (Or.inr (Or.inl ⟨by decide, by decide⟩))))) (by decide)).trans f4_22
  have f5_23 := (hE23 5 (Or.inr (Or.inr (Or.inr (Or.inr (Or.inl ⟨by decide, by decide⟩))))) (by decide)).trans f5_22
  have f6_23 := (hE23 6 (Or.inr (Or.inr (Or.inr (Or.inr (Or.inl ⟨by decide, by decide⟩))))) (by decide)).trans f6_22
  have f7_23 := (hE23 7 (Or.inr (Or.inr (Or.inr (Or.inr (Or.inl ⟨by decide, by decide⟩))))) (by decide)).trans f7_22
  have f8_23 := (hE23 8 (Or.inr (Or.inr (Or.inr (Or.inr (Or.inl ⟨by decide, by decide⟩))))) (by decide)).trans f8_22
  have f9_23 := (hE23 9 (Or.inr (Or.inr (Or.inr (Or.inr (Or.inl ⟨by decide, by decide⟩))))) (by decide)).trans f9_22
  have f31_23 := (hE23 31 (Or.inr (Or.inr (Or.inr (Or.inl rfl)))) (by decide)).trans f31_22
  have f10_23 := (hE23 10 (Or.inr (Or.inr (Or.inl ⟨by decide, by decide⟩))) (by decide)).trans f10_22
  have f11_23 := (hE23 11 (Or.inr (Or.inr (Or.inl ⟨by decide, by decide⟩))) (by decide)).trans f11_22
  have f12_23 := (hE23 12 (Or.inr (Or.inr (Or.inl ⟨by decide, by decide⟩))) (by decide)).trans f12_22
  have f13_23 := (hE23 13 (Or.inr (Or.inr (Or.inl ⟨by decide, by decide⟩))) (by decide)).trans f13_22
  have f14_23 := (hE23 14 (Or.inr (Or.inr (Or.inl ⟨by decide, by decide⟩))) (by decide)).trans f14_22
  have f15_23 := (hE23 15 (Or.inr (Or.inr (Or.inl ⟨by decide, by decide⟩))) (by decide)).trans f15_22
  have f16_23 := (hE23 16 (Or.inr (Or.inr (Or.inl ⟨by decide, by decide⟩))) (by decide)).trans f16_22
  have f32_23 := (hE23 32 (Or.inr (Or.inl rfl)) (by decide)).trans f32_22
  have f17_23 := (hE23 17 (Or.inl ⟨by decide, by decide⟩) (by decide)).trans hx22
  have f18_23 := (hE23 18 (Or.inl ⟨by decide, by decide⟩) (by decide)).trans f18_22
  have f19_23 := (hE23 19 (Or.inl ⟨by decide, by decide⟩) (by decide)).trans f19_22
  have f20_23 := (hE23 20 (Or.inl ⟨by decide, by decide⟩) (by decide)).trans f20_22
  have f21_23 := (hE23 21 (Or.inl ⟨by decide, by decide⟩) (by decide)).trans f21_22
  have hx23 : E23 0 = .inr (16, [.int 0, .ref (A22 30), .ref (A22 1), .ref (A22 2), .ref (A22 3), .ref (A22 31), .ref (A22 10), .long 0, .ref (A22 32), .int 0, .ref (A22 17)]) := by rw [hx23]; rfl
  refine hk_aload_n dX9_init_102 rfl rfl rfl ?_
  skip
  refine hk_getf dX9_init_103 rfl fl_X9_16 ((congrArg _ cA22.symm).trans ((ha_get hk22.1 (Or.inr (Or.inr (Or.inr (Or.inr (Or.inr (Or.inr (Or.inr (Or.inr hD0))))))))).trans (congrArg some hx23))) rfl ?_
  refine hk_bipush (v := nI 99) dX9_init_106 rfl (by decide) ?_
  refine hk_callS dX9_init_108 rfl ms_X9_44 (cj_cv (c := 99) hfl (by decide)) rfl rfl (by decide) ⟨Nat.zero_le _, Nat.zero_le _⟩ (Nat.le_of_ble_eq_true rfl) (hk_kr fun v h1 q => ?_) hk_nx
  obtain ⟨rfl, rfl⟩ := q
  refine hk_callF dX9_init_111 rfl mf_X9_50 (cj_add3 (ed := 0) (n := 0) (cap := 0) (f := fun _ => none) hfl ((ha_get hk22.1 (Or.inr (Or.inr (Or.inr (Or.inr (Or.inr (Or.inr (Or.inr (Or.inl rfl))))))))).trans (congrArg some f30_23)) rfl rfl (Or.inl ⟨99, by decide, rfl⟩)) rfl rfl ((ha_get hk22.1 (Or.inr (Or.inr (Or.inr (Or.inr (Or.inr (Or.inr (Or.inr (Or.inl rfl))))))))).trans (congrArg some f30_23)) rfl rfl (by decide) (by decide) (Nat.le_of_ble_eq_true rfl) (hk_ki fun v1 h1 q1 => ?_) hk_nx
  obtain ⟨rfl, ed9, cap9, fe, rfl, hfr, hc1, hc2, -, hfe⟩ := q1
  obtain ⟨hfn, -, hc3⟩ := hfr.resolve_left (fun z => absurd z.2.1 (by decide))
  have hc9 : cap9 = 10 := hc3 rfl
  subst hc9
  obtain ⟨hk24, e24⟩ := ha_new (D' := fun j => j = 50 ∨ (17 ≤ j ∧ j ≤ 17 + 4) ∨ j = 32 ∨ (10 ≤ j ∧ j ≤ 10 + 6) ∨ j = 31 ∨ (3 ≤ j ∧ j ≤ 3 + 6) ∨ j = 2 ∨ j = 1 ∨ j = 30 ∨ D j) (A' := ha_up A22 50 ed9) (E' := ha_up E23 50 (.inl (5, 10, .inr (.inr (.inr (.inr fe)))))) hk22 (fun z => z.elim (by decide) (fun z => z.elim (by decide) (fun z => z.elim (by decide) (fun z => z.elim (by decide) (fun z => z.elim (by decide) (fun z => z.elim (by decide) (fun z => z.elim (by decide) (fun z => z.elim (by decide) (fun z => absurd ((hDD 50).mp z) (by decide)))))))))) hfn (fun j => Iff.rfl) ha_up_eq (fun j hj => ha_up_ne (fun z => absurd (z ▸ hj) (fun z => z.elim (by decide) (fun z => z.elim (by decide) (fun z => z.elim (by decide) (fun z => z.elim (by decide) (fun z => z.elim (by decide) (fun z => z.elim (by decide) (fun z => z.elim (by decide) (fun z => z.elim (by decide) (fun z => absurd ((hDD 50).mp z) (by decide)))))))))))) ha_up_eq (fun j hj => ha_up_ne (fun z => absurd (z ▸ hj) (fun z => z.elim (by decide) (fun z => z.elim (by decide) (fun z => z.elim (by decide) (fun z => z.elim (by decide) (fun z => z.elim (by decide) (fun z => z.elim (by decide) (fun z => z.elim (by decide) (fun z => z.elim (by decide) (fun z => absurd ((hDD 50).mp z) (by decide))))))))))))
  rw [e24]
  have hA24 : ∀ j, (17 ≤ j ∧ j ≤ 17 + 4) ∨ j = 32 ∨ (10 ≤ j ∧ j ≤ 10 + 6) ∨ j = 31 ∨ (3 ≤ j ∧ j ≤ 3 + 6) ∨ j = 2 ∨ j = 1 ∨ j = 30 ∨ D j → ha_up A22 50 ed9 j = A22 j := fun j hj => ha_up_ne (fun z => absurd (z ▸ hj) (fun z => z.elim (by decide) (fun z => z.elim (by decide) (fun z => z.elim (by decide) (fun z => z.elim (by decide) (fun z => z.elim (by decide) (fun z => z.elim (by decide) (fun z => z.elim (by decide) (fun z => z.elim (by decide) (fun z => absurd ((hDD 50).mp z) (by decide)))))))))))
  have hE24 : ∀ j, (17 ≤ j ∧ j ≤ 17 + 4) ∨ j = 32 ∨ (10 ≤ j ∧ j ≤ 10 + 6) ∨ j = 31 ∨ (3 ≤ j ∧ j ≤ 3 + 6) ∨ j = 2 ∨ j = 1 ∨ j = 30 ∨ D j → ha_up E23 50 (.inl (5, 10, .inr (.inr (.inr (.inr fe))))) j = E23 j := fun j hj => ha_up_ne (fun z => absurd (z ▸ hj) (fun z => z.elim (by decide) (fun z => z.elim (by decide) (fun z => z.elim (by decide) (fun z => z.elim (by decide) (fun z => z.elim (by decide) (fun z => z.elim (by decide) (fun z => z.elim (by decide) (fun z => z.elim (by decide) (fun z => absurd ((hDD 50).mp z) (by decide)))))))))))
  have hx24 : ha_up E23 50 (.inl (5, 10, .inr (.inr (.inr (.inr fe))))) 50 = .inl (5, 10, .inr (.inr (.inr (.inr fe)))) := ha_up_eq
  have hy24 : ha_up A22 50 ed9 50 = ed9 := ha_up_eq
  rw [← hA24 30 (Or.inr (Or.inr (Or.inr (Or.inr (Or.inr (Or.inr (Or.inr (Or.inl rfl))))))))]
  generalize ha_up A22 50 ed9 = A24 at hk24 hA24 hy24 ⊢
  generalize ha_up E23 50 (.inl (5, 10, .inr (.inr (.inr (.inr fe))))) = E24 at hE24 hx24 ⊢
  have f0_24 := (hE24 0 (Or.inr (Or.inr (Or.inr (Or.inr (Or.inr (Or.inr (Or.inr (Or.inr hD0))))))))).trans hx23
  rw [← hA24 30 (Or.inr (Or.inr (Or.inr (Or.inr (Or.inr (Or.inr (Or.inr (Or.inl rfl))))))))] at f0_24
  rw [← hA24 1 (Or.inr (Or.inr (Or.inr (Or.inr (Or.inr (Or.inr (Or.inl rfl)))))))] at f0_24
  rw [← hA24 2 (Or.inr (Or.inr (Or.inr (Or.inr (Or.inr (Or.inl rfl))))))] at f0_24
  rw [← hA24 3 (Or.inr (Or.inr (Or.inr (Or.inr (Or.inl ⟨by decide, by decide⟩)))))] at f0_24
  rw [← hA24 31 (Or.inr (Or.inr (Or.inr (Or.inl rfl))))] at f0_24
  rw [← hA24 10 (Or.inr (Or.inr (Or.inl ⟨by decide, by decide⟩)))] at f0_24
  rw [← hA24 32 (Or.inr (Or.inl rfl))] at f0_24
  rw [← hA24 17 (Or.inl ⟨by decide, by decide⟩)] at f0_24
  have f30_24 := (hE24 30 (Or.inr (Or.inr (Or.inr (Or.inr (Or.inr (Or.inr (Or.inr (Or.inl rfl))))))))).trans f30_23
  have f1_24 := (hE24 1 (Or.inr (Or.inr (Or.inr (Or.inr (Or.inr (Or.inr (Or.inl rfl)))))))).trans f1_23
  have f2_24 := (hE24 2 (Or.inr (Or.inr (Or.inr (Or.inr (Or.inr (Or.inl rfl))))))).trans f2_23
  have f3_24 := (hE24 3 (Or.inr (Or.inr (Or.inr (Or.inr (Or.inl ⟨by decide, by decide⟩)))))).trans f3_23
  rw [hm_rf_cg (n := 6) (b := 4) (fun i hi => hA24 _ (Or.inr (Or.inr (Or.inr (Or.inr (Or.inl ⟨by omega, by omega⟩))))))] at f3_24
  have f4_24 := (hE24 4 (Or.inr (Or.inr (Or.inr (Or.inr (Or.inl ⟨by decide, by decide⟩)))))).trans f4_23
  have f5_24 := (hE24 5 (Or.inr (Or.inr (Or.inr (Or.inr (Or.inl ⟨by decide, by decide⟩)))))).trans f5_23
  have f6_24 := (hE24 6 (Or.inr (Or.inr (Or.inr (Or.inr (Or.inl ⟨by decide, by decide⟩)))))).trans f6_23
  have f7_24 := (hE24 7 (Or.inr (Or.inr (Or.inr (Or.inr (Or.inl ⟨by decide, by decide⟩)))))).trans f7_23
  have f8_24 := (hE24 8 (Or.inr (Or.inr (Or.inr (Or.inr (Or.inl ⟨by decide, by decide⟩)))))).trans f8_23
  have f9_24 := (hE24 9 (Or.inr (Or.inr (Or.inr (Or.inr (Or.inl ⟨by decide, by decide⟩)))))).trans f9_23
  have f31_24 := (hE24 31 (Or.inr (Or.inr (Or.inr (Or.inl rfl))))).trans f31_23
  have f10_24 := (hE24 10 (Or.inr (Or.inr (Or.inl ⟨by decide, by decide⟩)))).trans f10_23
  rw [hm_rf_cg (n := 6) (b := 11) (fun i hi => hA24 _ (Or.inr (Or.inr (Or.inl ⟨by omega, by omega⟩))))] at f10_24
  have f11_24 := (hE24 11 (Or.inr (Or.inr (Or.inl ⟨by decide, by decide⟩)))).trans f11_23
  have f12_24 := (hE24 12 (Or.inr (Or.inr (Or.inl ⟨by decide, by decide⟩)))).trans f12_23
  have f13_24 := (hE24 13 (Or.inr (Or.inr (Or.inl ⟨by decide, by decide⟩)))).trans f13_23
  have f14_24 := (hE24 14 (Or.inr (Or.inr (Or.inl ⟨by decide, by decide⟩)))).trans f14_23
  have f15_24 := (hE24 15 (Or.inr (Or.inr (Or.inl ⟨by decide, by decide⟩)))).trans f15_23
  have f16_24 := (hE24 16 (Or.inr (Or.inr (Or.inl ⟨by decide, by decide⟩)))).trans f16_23
  have f32_24 := (hE24 32 (Or.inr (Or.inl rfl))).trans f32_23
  have f17_24 := (hE24 17 (Or.inl ⟨by decide, by decide⟩)).trans f17_23
  rw [hm_rf_cg (n := 4) (b := 18) (fun i hi => hA24 _ (Or.inl ⟨by omega, by omega⟩))] at f17_24
  have f18_24 := (hE24 18 (Or.inl ⟨by decide, by decide⟩)).trans f18_23
  have f19_24 := (hE24 19 (Or.inl ⟨by decide, by decide⟩)).trans f19_23
  have f20_24 := (hE24 20 (Or.inl ⟨by decide, by decide⟩)).trans f20_23
  have f21_24 := (hE24 21 (Or.inl ⟨by decide, by decide⟩)).trans f21_23
  have cA24 : A24 0 = A 0 := (hA24 0 (Or.inr (Or.inr (Or.inr (Or.inr (Or.inr (Or.inr (Or.inr (Or.inr hD0))))))))).trans cA22
  rw [← hy24]
  obtain ⟨E25, hE25, hx25, e25⟩ := ha_put (E := E24) (x := .inr (6, [.int (0 + nI 1), .ref (A24 50), .int (nI (0 + 1))])) hk24 (Or.inr (Or.inr (Or.inr (Or.inr (Or.inr (Or.inr (Or.inr (Or.inr (Or.inl rfl)))))))))
  refine hx_cg e25 ?_
  have f0_25 := (hE25 0 (Or.inr (Or.inr (Or.inr (Or.inr (Or.inr (Or.inr (Or.inr (Or.inr (Or.inr hD0))))))))) (by decide)).trans f0_24
  have f1_25 := (hE25 1 (Or.inr (Or.inr (Or.inr (Or.inr (Or.inr (Or.inr (Or.inr (Or.inl rfl)))))))) (by decide)).trans f1_24
  have f2_25 := (hE25 2 (Or.inr (Or.inr (Or.inr (Or.inr (Or.inr (Or.inr (Or.inl rfl))))))) (by decide)).trans f2_24
  have f3_25 := (hE25 3 (Or.inr (Or.inr (Or.inr (Or.inr (Or.inr (Or.inl ⟨by decide, by decide⟩)))))) (by decide)).trans f3_24
  have f4_25 := (hE25 4 (Or.inr (Or.inr (Or.inr (Or.inr (Or.inr (Or.inl ⟨by decide, by decide⟩)))))) (by decide)).trans f4_24
  have f5_25 := (hE25 5 (Or.inr (Or.inr (Or.inr (Or.inr (Or.inr (Or.inl ⟨by decide, by decide⟩)))))) (by decide)).trans f5_24
  have f6_25 := (hE25 6 (Or.inr (Or.inr (Or.inr (Or.inr (Or.inr (Or.inl ⟨by decide, by decide⟩)))))) (by decide)).trans f6_24
  have f7_25 := (hE25 7 (Or.inr (Or.inr (Or.inr (Or.inr (Or.inr (Or.inl ⟨by decide, by decide⟩)))))) (by decide)).trans f7_24
  have f8_25 := (hE25 8 (Or.inr (Or.inr (Or.inr (Or.inr (Or.inr (Or.inl ⟨by decide, by decide⟩)))))) (by decide)).trans f8_24
  have f9_25 := (hE25 9 (Or.inr (Or.inr (Or.inr (Or.inr (Or.inr (Or.inl ⟨by decide, by decide⟩)))))) (by decide)).trans f9_24
  have f31_25 := (hE25 31 (Or.inr (Or.inr (Or.inr (Or.inr (Or.inl rfl))))) (by decide)).trans f31_24
  have f10_25 := (hE25 10 (Or.inr (Or.inr (Or.inr (Or.inl ⟨by decide, by decide⟩)))) (by decide)).trans f10_24
  have f11_25 := (hE25 11 (Or.inr (Or.inr (Or.inr (Or.inl ⟨by decide, by decide⟩)))) (by decide)).trans f11_24
  have f12_25 := (hE25 12 (Or.inr (Or.inr (Or.inr (Or.inl ⟨by decide, by decide⟩)))) (by decide)).trans f12_24
  have f13_25 := (hE25 13 (Or.inr (Or.inr (Or.inr (Or.inl ⟨by decide, by decide⟩)))) (by decide)).trans f13_24
  have f14_25 := (hE25 14 (Or.inr (Or.inr (Or.inr (Or.inl ⟨by decide, by decide⟩)))) (by decide)).trans f14_24
  have f15_25 := (hE25 15 (Or.inr (Or.inr (Or.inr (Or.inl ⟨by decide, by decide⟩)))) (by decide)).trans f15_24
  have f16_25 := (hE25 16 (Or.inr (Or.inr (Or.inr (Or.inl ⟨by decide, by decide⟩)))) (by decide)).trans f16_24
  have f32_25 := (hE25 32 (Or.inr (Or.inr (Or.inl rfl))) (by decide)).trans f32_24
  have f17_25 := (hE25 17 (Or.inr (Or.inl ⟨by decide, by decide⟩)) (by decide)).trans f17_24
  have f18_25 := (hE25 18 (Or.inr (Or.inl ⟨by decide, by decide⟩)) (by decide)).trans f18_24
  have f19_25 := (hE25 19 (Or.inr (Or.inl ⟨by decide, by decide⟩)) (by decide)).trans f19_24
  have f20_25 := (hE25 20 (Or.inr (Or.inl ⟨by decide, by decide⟩)) (by decide)).trans f20_24
  have f21_25 := (hE25 21 (Or.inr (Or.inl ⟨by decide, by decide⟩)) (by decide)).trans f21_24
  have f50_25 := (hE25 50 (Or.inl rfl) (by decide)).trans hx24
  refine hk_pop dX9_init_116 rfl rfl ?_
  refine hk_vreturn rfl dX9_init_117 ⟨rfl, hQ _ ?_⟩
  rw [← cA24]
  exact ni_fin hDD hk24 hfe f0_25 f1_25 f2_25 f3_25 f4_25 f5_25 f6_25 f7_25 f8_25 f9_25 f10_25 f11_25 f12_25 f13_25 f14_25 f15_25 f16_25 f17_25 f18_25 f19_25 f20_25 f21_25 hx25 f31_25 f32_25 f50_25
end CINI
theorem cm_init {G : hk_G} {l : Launch} {h : hk_H} {q : Nat} (hfl : l.stackTraces = false) (hq : h q = some (.inr (16, [.int 0, .null, .null, .null, .null, .null, .null, .long 0, .null, .int 0, .null]))) : hk_Ctr G l 9 yX9_init cX9_init 1 none 60 300 [.ref q] h (hk_qv fun h1 => ∃ g1 : hk_H, (∀ p x, p ≠ q → h p = some x → g1 p = some x) ∧ hm_Wd G q cs_S0 1 0 0 (nI 0) g1 h1) hk_no := by
  obtain ⟨k1, k2⟩ := ha_one hq
  have := cm_init0 (G := G) (l := l) (D := fun j => j = 0) (A := fun _ => q) (E := fun _ => .inr (16, [.int 0, .null, .null, .null, .null, .null, .null, .long 0, .null, .int 0, .null])) (h := fun p => if p = q then none else h p) (Qp := fun h1 => ∃ g1 : hk_H, (∀ p x, p ≠ q → h p = some x → g1 p = some x) ∧ hm_Wd G q cs_S0 1 0 0 (nI 0) g1 h1) hfl k1 (fun j => Iff.rfl) rfl (fun h1 hw => ⟨_, fun p x hp hx => (if_neg hp).trans hx, hw⟩)
  rw [k2] at this
  exact this

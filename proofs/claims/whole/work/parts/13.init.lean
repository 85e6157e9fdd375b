section CA
variable {G : hk_G} {l : Launch} {d : Nat} {y : MethodName} {b : ByteArray} {nL : Nat} {ret : Option FieldType} {hh : List (Nat × Nat × Nat × Nat)} {Q : Option Value → hk_H → Prop} {X : String → hk_H → Prop} {k n : Nat} {h : hk_H} {pc pc' : Nat} {lv : List (Option Value)} {st : List Value} {D : Nat → Prop} {A : Nat → Nat} {E : Nat → hk_E}
theorem ca_newa (i : Nat) {at9 : ArrayType} {t N : Nat} {z : Int32} (hk : ha_ok D A h) (hn : ¬ D i) (hd : decode b pc = .ok (.newarray at9, 2)) (hp : pc + 2 = pc') (ht : t < 7) (hty : newarray.typeOf at9 = hk_ty t) (hdf : defaultValue (hk_ty t) = .int 0) (hra : ∀ (U : State) (cA : ClassId), va_RA U cA (hk_ty t) → U.vm.findClass ("[" ++ (hk_ty t).toString) = some cA) (hw : Cond.arrayClass (hk_ty t) ∈ hk_all) (hz : ¬ z < 0) (hN : z.toNatClampNeg = N) (hby : N * componentBytes (hk_ty t) ≤ 536870912) (hb : 1 ≤ k ∧ N ≤ n) (kk : ∀ (A1 : Nat → Nat) (E1 : Nat → hk_E), (∀ j, D j → A1 j = A j) → (∀ j, D j → E1 j = E j) → E1 i = (.inl (t, N, .inl (fun _ => 0))) → ha_ok (fun j => j = i ∨ D j) A1 h → hk_W G l d y b nL ret hh Q X (k - 1) (n - N) (ha (fun j => j = i ∨ D j) A1 E1 h) pc' lv (.ref (A1 i) :: st)) : hk_W G l d y b nL ret hh Q X k n (ha D A E h) pc lv (.int z :: st) := by
  refine hk_newa hd hp ht hty hdf hra hw hz hN hby hb fun q hq => ?_
  obtain ⟨g1, g2⟩ := ha_new (D' := fun j => j = i ∨ D j) (A' := ha_up A i q) (E' := ha_up E i (.inl (t, N, .inl (fun _ => 0)))) (x := (.inl (t, N, .inl (fun _ => 0)))) hk hn hq (fun j => Iff.rfl) ha_up_eq (fun j hj => ha_up_ne (fun e => hn (e ▸ hj))) ha_up_eq (fun j hj => ha_up_ne (fun e => hn (e ▸ hj)))
  rw [g2]
  have g3 := kk (ha_up A i q) (ha_up E i (.inl (t, N, .inl (fun _ => 0)))) (fun j hj => ha_up_ne (fun e => hn (e ▸ hj))) (fun j hj => ha_up_ne (fun e => hn (e ▸ hj))) ha_up_eq g1
  rw [show ha_up A i q i = q from ha_up_eq] at g3
  exact g3
theorem ca_new (i : Nat) {idx ci N : Nat} {fs : List Value} (hk : ha_ok D A h) (hn : ¬ D i) (hd : decode b pc = .ok (.new idx, 3)) (hp : pc + 3 = pc') (L : hk_nw y.cls idx ci N fs) (hb : 1 ≤ k ∧ N ≤ n) (kk : ∀ (A1 : Nat → Nat) (E1 : Nat → hk_E), (∀ j, D j → A1 j = A j) → (∀ j, D j → E1 j = E j) → E1 i = (.inr (ci, fs)) → ha_ok (fun j => j = i ∨ D j) A1 h → hk_W G l d y b nL ret hh Q X (k - 1) (n - N) (ha (fun j => j = i ∨ D j) A1 E1 h) pc' lv (.ref (A1 i) :: st)) : hk_W G l d y b nL ret hh Q X k n (ha D A E h) pc lv st := by
  refine hk_new hd hp L hb fun q hq => ?_
  obtain ⟨g1, g2⟩ := ha_new (D' := fun j => j = i ∨ D j) (A' := ha_up A i q) (E' := ha_up E i (.inr (ci, fs))) (x := (.inr (ci, fs))) hk hn hq (fun j => Iff.rfl) ha_up_eq (fun j hj => ha_up_ne (fun e => hn (e ▸ hj))) ha_up_eq (fun j hj => ha_up_ne (fun e => hn (e ▸ hj)))
  rw [g2]
  have g3 := kk (ha_up A i q) (ha_up E i (.inr (ci, fs))) (fun j hj => ha_up_ne (fun e => hn (e ▸ hj))) (fun j hj => ha_up_ne (fun e => hn (e ▸ hj))) ha_up_eq g1
  rw [show ha_up A i q i = q from ha_up_eq] at g3
  exact g3
theorem ca_putf (ob : Nat) {a f idx ci : Nat} {fs : List Value} {v : Value} {t : FieldType} (hk : ha_ok D A h) (hD : D ob) (ha9 : A ob = a) (he : E ob = .inr (ci, fs)) (hd : decode b pc = .ok (.putfield idx, 3)) (hp : pc + 3 = pc') (L : hk_fw y idx ci f t) (hn1 : narrow t v = v) (hn2 : fits t v = true) (hlen : f < fs.length) (kk : ∀ E1 : Nat → hk_E, (∀ j, D j → j ≠ ob → E1 j = E j) → E1 ob = .inr (ci, fs.set f v) → hk_W G l d y b nL ret hh Q X k n (ha D A E1 h) pc' lv st) : hk_W G l d y b nL ret hh Q X k n (ha D A E h) pc lv (v :: .ref a :: st) := by
  subst ha9
  refine hk_putf hd hp L (by rw [ha_get hk.1 hD, he]) hn1 hn2 hlen ?_
  rw [ha_set (E' := ha_up E ob (.inr (ci, fs.set f v))) hk.1 hD ha_up_eq (fun j _ e => ha_up_ne e)]
  exact kk _ (fun j _ e => ha_up_ne e) ha_up_eq
theorem ca_iast (ob : Nat) {a j N : Nat} {f : Nat → Int32} {x : Int32} (hk : ha_ok D A h) (hD : D ob) (ha9 : A ob = a) (he : E ob = .inl (0, N, .inl f)) (hd : decode b pc = .ok (.iastore, 1)) (hp : pc + 1 = pc') (hj : j < N) (hN : N < 2 ^ 31) (kk : ∀ E1 : Nat → hk_E, (∀ j, D j → j ≠ ob → E1 j = E j) → E1 ob = .inl (0, N, .inl (upd f j x)) → hk_W G l d y b nL ret hh Q X k n (ha D A E1 h) pc' lv st) : hk_W G l d y b nL ret hh Q X k n (ha D A E h) pc lv (.int x :: .int (nI j) :: .ref a :: st) := by
  subst ha9
  refine hk_iast hd hp (by rw [ha_get hk.1 hD, he]) (vp_in_nI hj hN) ?_
  rw [nI_clamp (by omega)]
  rw [ha_set (E' := ha_up E ob (.inl (0, N, .inl (upd f j x)))) hk.1 hD ha_up_eq (fun j _ e => ha_up_ne e)]
  exact kk _ (fun j _ e => ha_up_ne e) ha_up_eq
end CA
section CI
variable {G : hk_G} {l : Launch} {h : hk_H} {D : Nat → Prop} {A : Nat → Nat} {E : Nat → hk_E}
theorem ct_X3_init (hfl : l.stackTraces = false) (hk0 : ha_ok D A h) (hD1 : D 1) (he0 : E 1 = .inr (10, [.null, .null, .int 0])) (hn7 : ¬ D 7) (hn8 : ¬ D 8) : hk_Ctr G l 1 yX3_init cX3_init 1 none 2 12 [.ref (A 1)] (ha D A E h) (hk_qv (fun h1 => ∃ (A1 : Nat → Nat) (E1 : Nat → hk_E), ha_ok (fun j => j = 8 ∨ j = 7 ∨ D j) A1 h ∧ (∀ j, D j → A1 j = A j) ∧ (∀ j, D j → j ≠ 1 → E1 j = E j) ∧ E1 1 = .inr (10, [.ref (A1 7), .ref (A1 8), .int 0]) ∧ E1 7 = .inl (4, 6, .inl (fun _ => 0)) ∧ E1 8 = .inl (1, 6, .inl (fun _ => 0)) ∧ h1 = ha (fun j => j = 8 ∨ j = 7 ∨ D j) A1 E1 h)) hk_no := by
  refine hk_enter (by decide) hfl (Nat.le_of_ble_eq_true rfl) rfl ?_
  have cA0 : ∀ j, D j → A j = A j := fun _ _ => rfl
  have cE0 : ∀ j, D j → j ≠ 1 → E j = E j := fun _ _ _ => rfl
  refine hk_aload_n dX3_init_0 rfl rfl rfl ?_
  refine hk_objInit dX3_init_1 rfl ob_X3_3 (by decide) rfl ?_
  refine hk_aload_n dX3_init_4 rfl rfl rfl ?_
  refine hk_bipush (v := nI 6) dX3_init_5 rfl (by decide) ?_
  refine ca_newa 7 (t := 4) (N := 6) hk0 hn7 dX3_init_7 rfl (by decide) rfl rfl (fun _ _ z => z) ac_4 (by decide) (by decide) (by decide) (by decide) ?_
  intro A1 E1 hA1 hE1 hx1 hk1
  have f1_1 := (hE1 1 hD1).trans he0
  have a1_1 : A1 1 = A 1 := (hA1 1 hD1).trans rfl
  have cA1 : ∀ j, D j → A1 j = A j := fun j hj => (hA1 j hj).trans (cA0 j hj)
  have cE1 : ∀ j, D j → j ≠ 1 → E1 j = E j := fun j hj hne => (hE1 j hj).trans (cE0 j hj hne)
  refine ca_putf 1 hk1 (Or.inr hD1) a1_1 f1_1 dX3_init_9 rfl (fw_X3_9 rfl rfl) rfl rfl (Nat.lt_of_lt_of_eq (by decide : 0 < 3) rfl) ?_
  intro E2 hE2 hx2
  have f7_2 := (hE2 7 (Or.inl rfl) (by decide)).trans hx1
  have cA2 := cA1
  have cE2 : ∀ j, D j → j ≠ 1 → E2 j = E j := fun j hj hne => (hE2 j (Or.inr hj) hne).trans (cE1 j hj hne)
  have hx2 : E2 1 = .inr (10, [.ref (A1 7), .null, .int 0]) := by rw [hx2]; rfl
  refine hk_aload_n dX3_init_12 rfl rfl rfl ?_
  refine hk_bipush (v := nI 6) dX3_init_13 rfl (by decide) ?_
  refine ca_newa 8 (t := 1) (N := 6) hk1 (fun z => z.elim (by decide) hn8) dX3_init_15 rfl (by decide) rfl rfl (fun _ _ z => z) ac_1 (by decide) (by decide) (by decide) (by decide) ?_
  intro A3 E3 hA3 hE3 hx3 hk3
  have f1_3 := (hE3 1 (Or.inr hD1)).trans hx2
  rw [← hA3 7 (Or.inl rfl)] at f1_3
  have f7_3 := (hE3 7 (Or.inl rfl)).trans f7_2
  have a1_3 : A3 1 = A 1 := (hA3 1 (Or.inr hD1)).trans a1_1
  have a7_3 : A3 7 = A1 7 := (hA3 7 (Or.inl rfl)).trans rfl
  have cA3 : ∀ j, D j → A3 j = A j := fun j hj => (hA3 j (Or.inr hj)).trans (cA2 j hj)
  have cE3 : ∀ j, D j → j ≠ 1 → E3 j = E j := fun j hj hne => (hE3 j (Or.inr hj)).trans (cE2 j hj hne)
  refine ca_putf 1 hk3 (Or.inr (Or.inr hD1)) a1_3 f1_3 dX3_init_17 rfl (fw_X3_15 rfl rfl) rfl rfl (Nat.lt_of_lt_of_eq (by decide : 1 < 3) rfl) ?_
  intro E4 hE4 hx4
  have f7_4 := (hE4 7 (Or.inr (Or.inl rfl)) (by decide)).trans f7_3
  have f8_4 := (hE4 8 (Or.inl rfl) (by decide)).trans hx3
  have cA4 := cA3
  have cE4 : ∀ j, D j → j ≠ 1 → E4 j = E j := fun j hj hne => (hE4 j (Or.inr (Or.inr hj)) hne).trans (cE3 j hj hne)
  have hx4 : E4 1 = .inr (10, [.ref (A3 7), .ref (A3 8), .int 0]) := by rw [hx4]; rfl
  exact hk_vreturn rfl dX3_init_20 ⟨rfl, A3, E4, hk3, cA4, cE4, hx4, f7_4, f8_4, rfl⟩
theorem ct_X4_init (hfl : l.stackTraces = false) (hk0 : ha_ok D A h) (hD2 : D 2) (he0 : E 2 = .inr (11, [.null, .null, .null, .null])) (hn9 : ¬ D 9) (hn10 : ¬ D 10) (hn11 : ¬ D 11) (hn12 : ¬ D 12) : hk_Ctr G l 1 yX4_init cX4_init 1 none 4 18 [.ref (A 2)] (ha D A E h) (hk_qv (fun h1 => ∃ (A1 : Nat → Nat) (E1 : Nat → hk_E), ha_ok (fun j => j = 12 ∨ j = 11 ∨ j = 10 ∨ j = 9 ∨ D j) A1 h ∧ (∀ j, D j → A1 j = A j) ∧ (∀ j, D j → j ≠ 2 → E1 j = E j) ∧ E1 2 = .inr (11, [.ref (A1 9), .ref (A1 10), .ref (A1 11), .ref (A1 12)]) ∧ E1 9 = .inl (0, 2, .inl (upd (upd (fun _ => 0) 0 (nI 10)) 1 (nI 1))) ∧ E1 10 = .inl (0, 2, .inl (upd (upd (fun _ => 0) 0 (nI 5)) 1 (nI 5))) ∧ E1 11 = .inl (0, 2, .inl (fun _ => 0)) ∧ E1 12 = .inl (0, 12, .inl (fun _ => 0)) ∧ h1 = ha (fun j => j = 12 ∨ j = 11 ∨ j = 10 ∨ j = 9 ∨ D j) A1 E1 h)) hk_no := by
  refine hk_enter (by decide) hfl (Nat.le_of_ble_eq_true rfl) rfl ?_
  have cA0 : ∀ j, D j → A j = A j := fun _ _ => rfl
  have cE0 : ∀ j, D j → j ≠ 2 → E j = E j := fun _ _ _ => rfl
  refine hk_aload_n dX4_init_0 rfl rfl rfl ?_
  refine hk_objInit dX4_init_1 rfl ob_X4_3 (by decide) rfl ?_
  refine hk_aload_n dX4_init_4 rfl rfl rfl ?_
  refine hk_iconst (v := nI 2) dX4_init_5 rfl (by decide) ?_
  refine ca_newa 9 (t := 0) (N := 2) hk0 hn9 dX4_init_6 rfl (by decide) rfl rfl (fun _ _ z => z) ac_0 (by decide) (by decide) (by decide) (by decide) ?_
  intro A1 E1 hA1 hE1 hx1 hk1
  have f2_1 := (hE1 2 hD2).trans he0
  have a2_1 : A1 2 = A 2 := (hA1 2 hD2).trans rfl
  have cA1 : ∀ j, D j → A1 j = A j := fun j hj => (hA1 j hj).trans (cA0 j hj)
  have cE1 : ∀ j, D j → j ≠ 2 → E1 j = E j := fun j hj hne => (hE1 j hj).trans (cE0 j hj hne)
  refine hk_dup dX4_init_8 rfl rfl ?_
  refine hk_iconst (v := nI 0) dX4_init_9 rfl (by decide) ?_
  refine hk_bipush (v := nI 10) dX4_init_10 rfl (by decide) ?_
  refine ca_iast 9 hk1 (Or.inl rfl) rfl hx1 dX4_init_12 rfl (by decide) (by decide) ?_
  intro E2 hE2 hx2
  have f2_2 := (hE2 2 (Or.inr hD2) (by decide)).trans f2_1
  have cA2 := cA1
  have cE2 : ∀ j, D j → j ≠ 2 → E2 j = E j := fun j hj hne => (hE2 j (Or.inr hj) (fun e => absurd (e ▸ hj) hn9)).trans (cE1 j hj hne)
  refine hk_dup dX4_init_13 rfl rfl ?_
  refine hk_iconst (v := nI 1) dX4_init_14 rfl (by decide) ?_
  refine hk_iconst (v := nI 1) dX4_init_15 rfl (by decide) ?_
  refine ca_iast 9 hk1 (Or.inl rfl) rfl hx2 dX4_init_16 rfl (by decide) (by decide) ?_
  intro E3 hE3 hx3
  have f2_3 := (hE3 2 (Or.inr hD2) (by decide)).trans f2_2
  have cA3 := cA2
  have cE3 : ∀ j, D j → j ≠ 2 → E3 j = E j := fun j hj hne => (hE3 j (Or.inr hj) (fun e => absurd (e ▸ hj) hn9)).trans (cE2 j hj hne)
  refine ca_putf 2 hk1 (Or.inr hD2) a2_1 f2_3 dX4_init_17 rfl (fw_X4_9 rfl rfl) rfl rfl (Nat.lt_of_lt_of_eq (by decide : 0 < 4) rfl) ?_
  intro E4 hE4 hx4
  have f9_4 := (hE4 9 (Or.inl rfl) (by decide)).trans hx3
  have cA4 := cA3
  have cE4 : ∀ j, D j → j ≠ 2 → E4 j = E j := fun j hj hne => (hE4 j (Or.inr hj) hne).trans (cE3 j hj hne)
  have hx4 : E4 2 = .inr (11, [.ref (A1 9), .null, .null, .null]) := by rw [hx4]; rfl
  refine hk_aload_n dX4_init_20 rfl rfl rfl ?_
  refine hk_iconst (v := nI 2) dX4_init_21 rfl (by decide) ?_
  refine ca_newa 10 (t := 0) (N := 2) hk1 (fun z => z.elim (by decide) hn10) dX4_init_22 rfl (by decide) rfl rfl (fun _ _ z => z) ac_0 (by decide) (by decide) (by decide) (by decide) ?_
  intro A5 E5 hA5 hE5 hx5 hk5
  have f2_5 := (hE5 2 (Or.inr hD2)).trans hx4
  rw [← hA5 9 (Or.inl rfl)] at f2_5
  have f9_5 := (hE5 9 (Or.inl rfl)).trans f9_4
  have a2_5 : A5 2 = A 2 := (hA5 2 (Or.inr hD2)).trans a2_1
  have a9_5 : A5 9 = A1 9 := (hA5 9 (Or.inl rfl)).trans rfl
  have cA5 : ∀ j, D j → A5 j = A j := fun j hj => (hA5 j (Or.inr hj)).trans (cA4 j hj)
  have cE5 : ∀ j, D j → j ≠ 2 → E5 j = E j := fun j hj hne => (hE5 j (Or.inr hj)).trans (cE4 j hj hne)
  refine hk_dup dX4_init_24 rfl rfl ?_
  refine hk_iconst (v := nI 0) dX4_init_25 rfl (by decide) ?_
  refine hk_iconst (v := nI 5) dX4_init_26 rfl (by decide) ?_
  refine ca_iast 10 hk5 (Or.inl rfl) rfl hx5 dX4_init_27 rfl (by decide) (by decide) ?_
  intro E6 hE6 hx6
  have f2_6 := (hE6 2 (Or.inr (Or.inr hD2)) (by decide)).trans f2_5
  have f9_6 := (hE6 9 (Or.inr (Or.inl rfl)) (by decide)).trans f9_5
  have cA6 := cA5
  have cE6 : ∀ j, D j → j ≠ 2 → E6 j = E j := fun j hj hne => (hE6 j (Or.inr (Or.inr hj)) (fun e => absurd (e ▸ hj) hn10)).trans (cE5 j hj hne)
  refine hk_dup dX4_init_28 rfl rfl ?_
  refine hk_iconst (v := nI 1) dX4_init_29 rfl (by decide) ?_
  refine hk_iconst (v := nI 5) dX4_init_30 rfl (by decide) ?_
  refine ca_iast 10 hk5 (Or.inl rfl) rfl hx6 dX4_init_31 rfl (by decide) (by decide) ?_
  intro E7 hE7 hx7
  have f2_7 := (hE7 2 (Or.inr (Or.inr hD2)) (by decide)).trans f2_6
  have f9_7 := (hE7 9 (Or.inr (Or.inl rfl)) (by decide)).trans f9_6
  have cA7 := cA6
  have cE7 : ∀ j, D j → j ≠ 2 → E7 j = E j := fun j hj hne => (hE7 j (Or.inr (Or.inr hj)) (fun e => absurd (e ▸ hj) hn10)).trans (cE6 j hj hne)
  refine ca_putf 2 hk5 (Or.inr (Or.inr hD2)) a2_5 f2_7 dX4_init_32 rfl (fw_X4_15 rfl rfl) rfl rfl (Nat.lt_of_lt_of_eq (by decide : 1 < 4) rfl) ?_
  intro E8 hE8 hx8
  have f9_8 := (hE8 9 (Or.inr (Or.inl rfl)) (by decide)).trans f9_7
  have f10_8 := (hE8 10 (Or.inl rfl) (by decide)).trans hx7
  have cA8 := cA7
  have cE8 : ∀ j, D j → j ≠ 2 → E8 j = E j := fun j hj hne => (hE8 j (Or.inr (Or.inr hj)) hne).trans (cE7 j hj hne)
  have hx8 : E8 2 = .inr (11, [.ref (A5 9), .ref (A5 10), .null, .null]) := by rw [hx8]; rfl
  refine hk_aload_n dX4_init_35 rfl rfl rfl ?_
  refine hk_iconst (v := nI 2) dX4_init_36 rfl (by decide) ?_
  refine ca_newa 11 (t := 0) (N := 2) hk5 (fun z => z.elim (by decide) (fun z => z.elim (by decide) hn11)) dX4_init_37 rfl (by decide) rfl rfl (fun _ _ z => z) ac_0 (by decide) (by decide) (by decide) (by decide) ?_
  intro A9 E9 hA9 hE9 hx9 hk9
  have f2_9 := (hE9 2 (Or.inr (Or.inr hD2))).trans hx8
  rw [← hA9 9 (Or.inr (Or.inl rfl))] at f2_9
  rw [← hA9 10 (Or.inl rfl)] at f2_9
  have f9_9 := (hE9 9 (Or.inr (Or.inl rfl))).trans f9_8
  have f10_9 := (hE9 10 (Or.inl rfl)).trans f10_8
  have a2_9 : A9 2 = A 2 := (hA9 2 (Or.inr (Or.inr hD2))).trans a2_5
  have a9_9 : A9 9 = A1 9 := (hA9 9 (Or.inr (Or.inl rfl))).trans a9_5
  have a10_9 : A9 10 = A5 10 := (hA9 10 (Or.inl rfl)).trans rfl
  have cA9 : ∀ j, D j → A9 j = A j := fun j hj => (hA9 j (Or.inr (Or.inr hj))).trans (cA8 j hj)
  have cE9 : ∀ j, D j → j ≠ 2 → E9 j = E j := fun j hj hne => (hE9 j (Or.inr (Or.inr hj))).trans (cE8 j hj hne)
  refine ca_putf 2 hk9 (Or.inr (Or.inr (Or.inr hD2))) a2_9 f2_9 dX4_init_39 rfl (fw_X4_18 rfl rfl) rfl rfl (Nat.lt_of_lt_of_eq (by decide : 2 < 4) rfl) ?_
  intro E10 hE10 hx10
  have f9_10 := (hE10 9 (Or.inr (Or.inr (Or.inl rfl))) (by decide)).trans f9_9
  have f10_10 := (hE10 10 (Or.inr (Or.inl rfl)) (by decide)).trans f10_9
  have f11_10 := (hE10 11 (Or.inl rfl) (by decide)).trans hx9
  have cA10 := cA9
  have cE10 : ∀ j, D j → j ≠ 2 → E10 j = E j := fun j hj hne => (hE10 j (Or.inr (Or.inr (Or.inr hj))) hne).trans (cE9 j hj hne)
  have hx10 : E10 2 = .inr (11, [.ref (A9 9), .ref (A9 10), .ref (A9 11), .null]) := by rw [hx10]; rfl
  refine hk_aload_n dX4_init_42 rfl rfl rfl ?_
  refine hk_bipush (v := nI 12) dX4_init_43 rfl (by decide) ?_
  refine ca_newa 12 (t := 0) (N := 12) hk9 (fun z => z.elim (by decide) (fun z => z.elim (by decide) (fun z => z.elim (by decide) hn12))) dX4_init_45 rfl (by decide) rfl rfl (fun _ _ z => z) ac_0 (by decide) (by decide) (by decide) (by decide) ?_
  intro A11 E11 hA11 hE11 hx11 hk11
  have f2_11 := (hE11 2 (Or.inr (Or.inr (Or.inr hD2)))).trans hx10
  rw [← hA11 9 (Or.inr (Or.inr (Or.inl rfl)))] at f2_11
  rw [← hA11 10 (Or.inr (Or.inl rfl))] at f2_11
  rw [← hA11 11 (Or.inl rfl)] at f2_11
  have f9_11 := (hE11 9 (Or.inr (Or.inr (Or.inl rfl)))).trans f9_10
  have f10_11 := (hE11 10 (Or.inr (Or.inl rfl))).trans f10_10
  have f11_11 := (hE11 11 (Or.inl rfl)).trans f11_10
  have a2_11 : A11 2 = A 2 := (hA11 2 (Or.inr (Or.inr (Or.inr hD2)))).trans a2_9
  have a9_11 : A11 9 = A1 9 := (hA11 9 (Or.inr (Or.inr (Or.inl rfl)))).trans a9_9
  have a10_11 : A11 10 = A5 10 := (hA11 10 (Or.inr (Or.inl rfl))).trans a10_9
  have a11_11 : A11 11 = A9 11 := (hA11 11 (Or.inl rfl)).trans rfl
  have cA11 : ∀ j, D j → A11 j = A j := fun j hj => (hA11 j (Or.inr (Or.inr (Or.inr hj)))).trans (cA10 j hj)
  have cE11 : ∀ j, D j → j ≠ 2 → E11 j = E j := fun j hj hne => (hE11 j (Or.inr (Or.inr (Or.inr hj)))).trans (cE10 j hj hne)
  refine ca_putf 2 hk11 (Or.inr (Or.inr (Or.inr (Or.inr hD2)))) a2_11 f2_11 dX4_init_47 rfl (fw_X4_21 rfl rfl) rfl rfl (Nat.lt_of_lt_of_eq (by decide : 3 < 4) rfl) ?_
  intro E12 hE12 hx12
  have f9_12 := (hE12 9 (Or.inr (Or.inr (Or.inr (Or.inl rfl)))) (by decide)).trans f9_11
  have f10_12 := (hE12 10 (Or.inr (Or.inr (Or.inl rfl))) (by decide)).trans f10_11
  have f11_12 := (hE12 11 (Or.inr (Or.inl rfl)) (by decide)).trans f11_11
  have f12_12 := (hE12 12 (Or.inl rfl) (by decide)).trans hx11
  have cA12 := cA11
  have cE12 : ∀ j, D j → j ≠ 2 → E12 j = E j := fun j hj hne => (hE12 j (Or.inr (Or.inr (Or.inr (Or.inr hj)))) hne).trans (cE11 j hj hne)
  have hx12 : E12 2 = .inr (11, [.ref (A11 9), .ref (A11 10), .ref (A11 11), .ref (A11 12)]) := by rw [hx12]; rfl
  exact hk_vreturn rfl dX4_init_50 ⟨rfl, A11, E12, hk11, cA12, cE12, hx12, f9_12, f10_12, f11_12, f12_12, rfl⟩
theorem ct_X2_init (hfl : l.stackTraces = false) (hk0 : ha_ok D A h) (hD3 : D 3) (he0 : E 3 = .inr (9, [.null, .null, .null, .null, .null, .null, .int 0])) (hn13 : ¬ D 13) (hn14 : ¬ D 14) (hn15 : ¬ D 15) (hn16 : ¬ D 16) (hn17 : ¬ D 17) (hn18 : ¬ D 18) : hk_Ctr G l 1 yX2_init cX2_init 1 none 6 540 [.ref (A 3)] (ha D A E h) (hk_qv (fun h1 => ∃ (A1 : Nat → Nat) (E1 : Nat → hk_E), ha_ok (fun j => j = 18 ∨ j = 17 ∨ j = 16 ∨ j = 15 ∨ j = 14 ∨ j = 13 ∨ D j) A1 h ∧ (∀ j, D j → A1 j = A j) ∧ (∀ j, D j → j ≠ 3 → E1 j = E j) ∧ E1 3 = .inr (9, [.ref (A1 13), .ref (A1 14), .ref (A1 15), .ref (A1 16), .ref (A1 17), .ref (A1 18), .int 0]) ∧ E1 13 = .inl (0, 90, .inl (fun _ => 0)) ∧ E1 14 = .inl (0, 90, .inl (fun _ => 0)) ∧ E1 15 = .inl (0, 90, .inl (fun _ => 0)) ∧ E1 16 = .inl (0, 90, .inl (fun _ => 0)) ∧ E1 17 = .inl (1, 90, .inl (fun _ => 0)) ∧ E1 18 = .inl (0, 90, .inl (fun _ => 0)) ∧ h1 = ha (fun j => j = 18 ∨ j = 17 ∨ j = 16 ∨ j = 15 ∨ j = 14 ∨ j = 13 ∨ D j) A1 E1 h)) hk_no := by
  refine hk_enter (by decide) hfl (Nat.le_of_ble_eq_true rfl) rfl ?_
  have cA0 : ∀ j, D j → A j = A j := fun _ _ => rfl
  have cE0 : ∀ j, D j → j ≠ 3 → E j = E j := fun _ _ _ => rfl
  refine hk_aload_n dX2_init_0 rfl rfl rfl ?_
  refine hk_objInit dX2_init_1 rfl ob_X2_3 (by decide) rfl ?_
  refine hk_aload_n dX2_init_4 rfl rfl rfl ?_
  refine hk_bipush (v := nI 90) dX2_init_5 rfl (by decide) ?_
  refine ca_newa 13 (t := 0) (N := 90) hk0 hn13 dX2_init_7 rfl (by decide) rfl rfl (fun _ _ z => z) ac_0 (by decide) (by decide) (by decide) (by decide) ?_
  intro A1 E1 hA1 hE1 hx1 hk1
  have f3_1 := (hE1 3 hD3).trans he0
  have a3_1 : A1 3 = A 3 := (hA1 3 hD3).trans rfl
  have cA1 : ∀ j, D j → A1 j = A j := fun j hj => (hA1 j hj).trans (cA0 j hj)
  have cE1 : ∀ j, D j → j ≠ 3 → E1 j = E j := fun j hj hne => (hE1 j hj).trans (cE0 j hj hne)
  refine ca_putf 3 hk1 (Or.inr hD3) a3_1 f3_1 dX2_init_9 rfl (fw_X2_9 rfl rfl) rfl rfl (Nat.lt_of_lt_of_eq (by decide : 0 < 7) rfl) ?_
  intro E2 hE2 hx2
  have f13_2 := (hE2 13 (Or.inl rfl) (by decide)).trans hx1
  have cA2 := cA1
  have cE2 : ∀ j, D j → j ≠ 3 → E2 j = E j := fun j hj hne => (hE2 j (Or.inr hj) hne).trans (cE1 j hj hne)
  have hx2 : E2 3 = .inr (9, [.ref (A1 13), .null, .null, .null, .null, .null, .int 0]) := by rw [hx2]; rfl
  refine hk_aload_n dX2_init_12 rfl rfl rfl ?_
  refine hk_bipush (v := nI 90) dX2_init_13 rfl (by decide) ?_
  refine ca_newa 14 (t := 0) (N := 90) hk1 (fun z => z.elim (by decide) hn14) dX2_init_15 rfl (by decide) rfl rfl (fun _ _ z => z) ac_0 (by decide) (by decide) (by decide) (by decide) ?_
  intro A3 E3 hA3 hE3 hx3 hk3
  have f3_3 := (hE3 3 (Or.inr hD3)).trans hx2
  rw [← hA3 13 (Or.inl rfl)] at f3_3
  have f13_3 := (hE3 13 (Or.inl rfl)).trans f13_2
  have a3_3 : A3 3 = A 3 := (hA3 3 (Or.inr hD3)).trans a3_1
  have a13_3 : A3 13 = A1 13 := (hA3 13 (Or.inl rfl)).trans rfl
  have cA3 : ∀ j, D j → A3 j = A j := fun j hj => (hA3 j (Or.inr hj)).trans (cA2 j hj)
  have cE3 : ∀ j, D j → j ≠ 3 → E3 j = E j := fun j hj hne => (hE3 j (Or.inr hj)).trans (cE2 j hj hne)
  refine ca_putf 3 hk3 (Or.inr (Or.inr hD3)) a3_3 f3_3 dX2_init_17 rfl (fw_X2_15 rfl rfl) rfl rfl (Nat.lt_of_lt_of_eq (by decide : 1 < 7) rfl) ?_
  intro E4 hE4 hx4
  have f13_4 := (hE4 13 (Or.inr (Or.inl rfl)) (by decide)).trans f13_3
  have f14_4 := (hE4 14 (Or.inl rfl) (by decide)).trans hx3
  have cA4 := cA3
  have cE4 : ∀ j, D j → j ≠ 3 → E4 j = E j := fun j hj hne => (hE4 j (Or.inr (Or.inr hj)) hne).trans (cE3 j hj hne)
  have hx4 : E4 3 = .inr (9, [.ref (A3 13), .ref (A3 14), .null, .null, .null, .null, .int 0]) := by rw [hx4]; rfl
  refine hk_aload_n dX2_init_20 rfl rfl rfl ?_
  refine hk_bipush (v := nI 90) dX2_init_21 rfl (by decide) ?_
  refine ca_newa 15 (t := 0) (N := 90) hk3 (fun z => z.elim (by decide) (fun z => z.elim (by decide) hn15)) dX2_init_23 rfl (by decide) rfl rfl (fun _ _ z => z) ac_0 (by decide) (by decide) (by decide) (by decide) ?_
  intro A5 E5 hA5 hE5 hx5 hk5
  have f3_5 := (hE5 3 (Or.inr (Or.inr hD3))).trans hx4
  rw [← hA5 13 (Or.inr (Or.inl rfl))] at f3_5
  rw [← hA5 14 (Or.inl rfl)] at f3_5
  have f13_5 := (hE5 13 (Or.inr (Or.inl rfl))).trans f13_4
  have f14_5 := (hE5 14 (Or.inl rfl)).trans f14_4
  have a3_5 : A5 3 = A 3 := (hA5 3 (Or.inr (Or.inr hD3))).trans a3_3
  have a13_5 : A5 13 = A1 13 := (hA5 13 (Or.inr (Or.inl rfl))).trans a13_3
  have a14_5 : A5 14 = A3 14 := (hA5 14 (Or.inl rfl)).trans rfl
  have cA5 : ∀ j, D j → A5 j = A j := fun j hj => (hA5 j (Or.inr (Or.inr hj))).trans (cA4 j hj)
  have cE5 : ∀ j, D j → j ≠ 3 → E5 j = E j := fun j hj hne => (hE5 j (Or.inr (Or.inr hj))).trans (cE4 j hj hne)
  refine ca_putf 3 hk5 (Or.inr (Or.inr (Or.inr hD3))) a3_5 f3_5 dX2_init_25 rfl (fw_X2_18 rfl rfl) rfl rfl (Nat.lt_of_lt_of_eq (by decide : 2 < 7) rfl) ?_
  intro E6 hE6 hx6
  have f13_6 := (hE6 13 (Or.inr (Or.inr (Or.inl rfl))) (by decide)).trans f13_5
  have f14_6 := (hE6 14 (Or.inr (Or.inl rfl)) (by decide)).trans f14_5
  have f15_6 := (hE6 15 (Or.inl rfl) (by decide)).trans hx5
  have cA6 := cA5
  have cE6 : ∀ j, D j → j ≠ 3 → E6 j = E j := fun j hj hne => (hE6 j (Or.inr (Or.inr (Or.inr hj))) hne).trans (cE5 j hj hne)
  have hx6 : E6 3 = .inr (9, [.ref (A5 13), .ref (A5 14), .ref (A5 15), .null, .null, .null, .int 0]) := by rw [hx6]; rfl
  refine hk_aload_n dX2_init_28 rfl rfl rfl ?_
  refine hk_bipush (v := nI 90) dX2_init_29 rfl (by decide) ?_
  refine ca_newa 16 (t := 0) (N := 90) hk5 (fun z => z.elim (by decide) (fun z => z.elim (by decide) (fun z => z.elim (by decide) hn16))) dX2_init_31 rfl (by decide) rfl rfl (fun _ _ z => z) ac_0 (by decide) (by decide) (by decide) (by decide) ?_
  intro A7 E7 hA7 hE7 hx7 hk7
  have f3_7 := (hE7 3 (Or.inr (Or.inr (Or.inr hD3)))).trans hx6
  rw [← hA7 13 (Or.inr (Or.inr (Or.inl rfl)))] at f3_7
  rw [← hA7 14 (Or.inr (Or.inl rfl))] at f3_7
  rw [← hA7 15 (Or.inl rfl)] at f3_7
  have f13_7 := (hE7 13 (Or.inr (Or.inr (Or.inl rfl)))).trans f13_6
  have f14_7 := (hE7 14 (Or.inr (Or.inl rfl))).trans f14_6
  have f15_7 := (hE7 15 (Or.inl rfl)).trans f15_6
  have a3_7 : A7 3 = A 3 := (hA7 3 (Or.inr (Or.inr (Or.inr hD3)))).trans a3_5
  have a13_7 : A7 13 = A1 13 := (hA7 13 (Or.inr (Or.inr (Or.inl rfl)))).trans a13_5
  have a14_7 : A7 14 = A3 14 := (hA7 14 (Or.inr (Or.inl rfl))).trans a14_5
  have a15_7 : A7 15 = A5 15 := (hA7 15 (Or.inl rfl)).trans rfl
  have cA7 : ∀ j, D j → A7 j = A j := fun j hj => (hA7 j (Or.inr (Or.inr (Or.inr hj)))).trans (cA6 j hj)
  have cE7 : ∀ j, D j → j ≠ 3 → E7 j = E j := fun j hj hne => (hE7 j (Or.inr (Or.inr (Or.inr hj)))).trans (cE6 j hj hne)
  refine ca_putf 3 hk7 (Or.inr (Or.inr (Or.inr (Or.inr hD3)))) a3_7 f3_7 dX2_init_33 rfl (fw_X2_21 rfl rfl) rfl rfl (Nat.lt_of_lt_of_eq (by decide : 3 < 7) rfl) ?_
  intro E8 hE8 hx8
  have f13_8 := (hE8 13 (Or.inr (Or.inr (Or.inr (Or.inl rfl)))) (by decide)).trans f13_7
  have f14_8 := (hE8 14 (Or.inr (Or.inr (Or.inl rfl))) (by decide)).trans f14_7
  have f15_8 := (hE8 15 (Or.inr (Or.inl rfl)) (by decide)).trans f15_7
  have f16_8 := (hE8 16 (Or.inl rfl) (by decide)).trans hx7
  have cA8 := cA7
  have cE8 : ∀ j, D j → j ≠ 3 → E8 j = E j := fun j hj hne => (hE8 j (Or.inr (Or.inr (Or.inr (Or.inr hj)))) hne).trans (cE7 j hj hne)
  have hx8 : E8 3 = .inr (9, [.ref (A7 13), .ref (A7 14), .ref (A7 15), .ref (A7 16), .null, .null, .int 0]) := by rw [hx8]; rfl
  refine hk_aload_n dX2_init_36 rfl rfl rfl ?_
  refine hk_bipush (v := nI 90) dX2_init_37 rfl (by decide) ?_
  refine ca_newa 17 (t := 1) (N := 90) hk7 (fun z => z.elim (by decide) (fun z => z.elim (by decide) (fun z => z.elim (by decide) (fun z => z.elim (by decide) hn17)))) dX2_init_39 rfl (by decide) rfl rfl (fun _ _ z => z) ac_1 (by decide) (by decide) (by decide) (by decide) ?_
  intro A9 E9 hA9 hE9 hx9 hk9
  have f3_9 := (hE9 3 (Or.inr (Or.inr (Or.inr (Or.inr hD3))))).trans hx8
  rw [← hA9 13 (Or.inr (Or.inr (Or.inr (Or.inl rfl))))] at f3_9
  rw [← hA9 14 (Or.inr (Or.inr (Or.inl rfl)))] at f3_9
  rw [← hA9 15 (Or.inr (Or.inl rfl))] at f3_9
  rw [← hA9 16 (Or.inl rfl)] at f3_9
  have f13_9 := (hE9 13 (Or.inr (Or.inr (Or.inr (Or.inl rfl))))).trans f13_8
  have f14_9 := (hE9 14 (Or.inr (Or.inr (Or.inl rfl)))).trans f14_8
  have f15_9 := (hE9 15 (Or.inr (Or.inl rfl))).trans f15_8
  have f16_9 := (hE9 16 (Or.inl rfl)).trans f16_8
  have a3_9 : A9 3 = A 3 := (hA9 3 (Or.inr (Or.inr (Or.inr (Or.inr hD3))))).trans a3_7
  have a13_9 : A9 13 = A1 13 := (hA9 13 (Or.inr (Or.inr (Or.inr (Or.inl rfl))))).trans a13_7
  have a14_9 : A9 14 = A3 14 := (hA9 14 (Or.inr (Or.inr (Or.inl rfl)))).trans a14_7
  have a15_9 : A9 15 = A5 15 := (hA9 15 (Or.inr (Or.inl rfl))).trans a15_7
  have a16_9 : A9 16 = A7 16 := (hA9 16 (Or.inl rfl)).trans rfl
  have cA9 : ∀ j, D j → A9 j = A j := fun j hj => (hA9 j (Or.inr (Or.inr (Or.inr (Or.inr hj))))).trans (cA8 j hj)
  have cE9 : ∀ j, D j → j ≠ 3 → E9 j = E j := fun j hj hne => (hE9 j (Or.inr (Or.inr (Or.inr (Or.inr hj))))).trans (cE8 j hj hne)
  refine ca_putf 3 hk9 (Or.inr (Or.inr (Or.inr (Or.inr (Or.inr hD3))))) a3_9 f3_9 dX2_init_41 rfl (fw_X2_24 rfl rfl) rfl rfl (Nat.lt_of_lt_of_eq (by decide : 4 < 7) rfl) ?_
  intro E10 hE10 hx10
  have f13_10 := (hE10 13 (Or.inr (Or.inr (Or.inr (Or.inr (Or.inl rfl))))) (by decide)).trans f13_9
  have f14_10 := (hE10 14 (Or.inr (Or.inr (Or.inr (Or.inl rfl)))) (by decide)).trans f14_9
  have f15_10 := (hE10 15 (Or.inr (Or.inr (Or.inl rfl))) (by decide)).trans f15_9
  have f16_10 := (hE10 16 (Or.inr (Or.inl rfl)) (by decide)).trans f16_9
  have f17_10 := (hE10 17 (Or.inl rfl) (by decide)).trans hx9
  have cA10 := cA9
  have cE10 : ∀ j, D j → j ≠ 3 → E10 j = E j := fun j hj hne => (hE10 j (Or.inr (Or.inr (Or.inr (Or.inr (Or.inr hj))))) hne).trans (cE9 j hj hne)
  have hx10 : E10 3 = .inr (9, [.ref (A9 13), .ref (A9 14), .ref (A9 15), .ref (A9 16), .ref (A9 17), .null, .int 0]) := by rw [hx10]; rfl
  refine hk_aload_n dX2_init_44 rfl rfl rfl ?_
  refine hk_bipush (v := nI 90) dX2_init_45 rfl (by decide) ?_
  refine ca_newa 18 (t := 0) (N := 90) hk9 (fun z => z.elim (by decide) (fun z => z.elim (by decide) (fun z => z.elim (by decide) (fun z => z.elim (by decide) (fun z => z.elim (by decide) hn18))))) dX2_init_47 rfl (by decide) rfl rfl (fun _ _ z => z) ac_0 (by decide) (by decide) (by decide) (by decide) ?_
  intro A11 E11 hA11 hE11 hx11 hk11
  have f3_11 := (hE11 3 (Or.inr (Or.inr (Or.inr (Or.inr (Or.inr hD3)))))).trans hx10
  rw [← hA11 13 (Or.inr (Or.inr (Or.inr (Or.inr (Or.inl rfl)))))] at f3_11
  rw [← hA11 14 (Or.inr (Or.inr (Or.inr (Or.inl rfl))))] at f3_11
  rw [← hA11 15 (Or.inr (Or.inr (Or.inl rfl)))] at f3_11
  rw [← hA11 16 (Or.inr (Or.inl rfl))] at f3_11
  rw [← hA11 17 (Or.inl rfl)] at f3_11
  have f13_11 := (hE11 13 (Or.inr (Or.inr (Or.inr (Or.inr (Or.inl rfl)))))).trans f13_10
  have f14_11 := (hE11 14 (Or.inr (Or.inr (Or.inr (Or.inl rfl))))).trans f14_10
  have f15_11 := (hE11 15 (Or.inr (Or.inr (Or.inl rfl)))).trans f15_10
  have f16_11 := (hE11 16 (Or.inr (Or.inl rfl))).trans f16_10
  have f17_11 := (hE11 17 (Or.inl rfl)).trans f17_10
  have a3_11 : A11 3 = A 3 := (hA11 3 (Or.inr (Or.inr (Or.inr (Or.inr (Or.inr hD3)))))).trans a3_9
  have a13_11 : A11 13 = A1 13 := (hA11 13 (Or.inr (Or.inr (Or.inr (Or.inr (Or.inl rfl)))))).trans a13_9
  have a14_11 : A11 14 = A3 14 := (hA11 14 (Or.inr (Or.inr (Or.inr (Or.inl rfl))))).trans a14_9
  have a15_11 : A11 15 = A5 15 := (hA11 15 (Or.inr (Or.inr (Or.inl rfl)))).trans a15_9
  have a16_11 : A11 16 = A7 16 := (hA11 16 (Or.inr (Or.inl rfl))).trans a16_9
  have a17_11 : A11 17 = A9 17 := (hA11 17 (Or.inl rfl)).trans rfl
  have cA11 : ∀ j, D j → A11 j = A j := fun j hj => (hA11 j (Or.inr (Or.inr (Or.inr (Or.inr (Or.inr hj)))))).trans (cA10 j hj)
  have cE11 : ∀ j, D j → j ≠ 3 → E11 j = E j := fun j hj hne => (hE11 j (Or.inr (Or.inr (Or.inr (Or.inr (Or.inr hj)))))).trans (cE10 j hj hne)
  refine ca_putf 3 hk11 (Or.inr (Or.inr (Or.inr (Or.inr (Or.inr (Or.inr hD3)))))) a3_11 f3_11 dX2_init_49 rfl (fw_X2_28 rfl rfl) rfl rfl (Nat.lt_of_lt_of_eq (by decide : 5 < 7) rfl) ?_
  intro E12 hE12 hx12
  have f13_12 := (hE12 13 (Or.inr (Or.inr (Or.inr (Or.inr (Or.inr (Or.inl rfl)))))) (by decide)).trans f13_11
  have f14_12 := (hE12 14 (Or.inr (Or.inr (Or.inr (Or.inr (Or.inl rfl))))) (by decide)).trans f14_11
  have f15_12 := (hE12 15 (Or.inr (Or.inr (Or.inr (Or.inl rfl)))) (by decide)).trans f15_11
  have f16_12 := (hE12 16 (Or.inr (Or.inr (Or.inl rfl))) (by decide)).trans f16_11
  have f17_12 := (hE12 17 (Or.inr (Or.inl rfl)) (by decide)).trans f17_11
  have f18_12 := (hE12 18 (Or.inl rfl) (by decide)).trans hx11
  have cA12 := cA11
  have cE12 : ∀ j, D j → j ≠ 3 → E12 j = E j := fun j hj hne => (hE12 j (Or.inr (Or.inr (Or.inr (Or.inr (Or.inr (Or.inr hj)))))) hne).trans (cE11 j hj hne)
  have hx12 : E12 3 = .inr (9, [.ref (A11 13), .ref (A11 14), .ref (A11 15), .ref (A11 16), .ref (A11 17), .ref (A11 18), .int 0]) := by rw [hx12]; rfl
  exact hk_vreturn rfl dX2_init_52 ⟨rfl, A11, E12, hk11, cA12, cE12, hx12, f13_12, f14_12, f15_12, f16_12, f17_12, f18_12, rfl⟩
theorem ct_X1_init (hfl : l.stackTraces = false) (hk0 : ha_ok D A h) (hD4 : D 4) (he0 : E 4 = .inr (8, [.null])) (hn19 : ¬ D 19) : hk_Ctr G l 1 yX1_init cX1_init 1 none 1 36 [.ref (A 4)] (ha D A E h) (hk_qv (fun h1 => ∃ (A1 : Nat → Nat) (E1 : Nat → hk_E), ha_ok (fun j => j = 19 ∨ D j) A1 h ∧ (∀ j, D j → A1 j = A j) ∧ (∀ j, D j → j ≠ 4 → E1 j = E j) ∧ E1 4 = .inr (8, [.ref (A1 19)]) ∧ E1 19 = .inl (0, 36, .inl (fun _ => 0)) ∧ h1 = ha (fun j => j = 19 ∨ D j) A1 E1 h)) hk_no := by
  refine hk_enter (by decide) hfl (Nat.le_of_ble_eq_true rfl) rfl ?_
  have cA0 : ∀ j, D j → A j = A j := fun _ _ => rfl
  have cE0 : ∀ j, D j → j ≠ 4 → E j = E j := fun _ _ _ => rfl
  refine hk_aload_n dX1_init_0 rfl rfl rfl ?_
  refine hk_objInit dX1_init_1 rfl ob_X1_3 (by decide) rfl ?_
  refine hk_aload_n dX1_init_4 rfl rfl rfl ?_
  refine hk_bipush (v := nI 36) dX1_init_5 rfl (by decide) ?_
  refine ca_newa 19 (t := 0) (N := 36) hk0 hn19 dX1_init_7 rfl (by decide) rfl rfl (fun _ _ z => z) ac_0 (by decide) (by decide) (by decide) (by decide) ?_
  intro A1 E1 hA1 hE1 hx1 hk1
  have f4_1 := (hE1 4 hD4).trans he0
  have a4_1 : A1 4 = A 4 := (hA1 4 hD4).trans rfl
  have cA1 : ∀ j, D j → A1 j = A j := fun j hj => (hA1 j hj).trans (cA0 j hj)
  have cE1 : ∀ j, D j → j ≠ 4 → E1 j = E j := fun j hj hne => (hE1 j hj).trans (cE0 j hj hne)
  refine ca_putf 4 hk1 (Or.inr hD4) a4_1 f4_1 dX1_init_9 rfl (fw_X1_9 rfl rfl) rfl rfl (Nat.lt_of_lt_of_eq (by decide : 0 < 1) rfl) ?_
  intro E2 hE2 hx2
  have f19_2 := (hE2 19 (Or.inl rfl) (by decide)).trans hx1
  have cA2 := cA1
  have cE2 : ∀ j, D j → j ≠ 4 → E2 j = E j := fun j hj hne => (hE2 j (Or.inr hj) hne).trans (cE1 j hj hne)
  have hx2 : E2 4 = .inr (8, [.ref (A1 19)]) := by rw [hx2]; rfl
  exact hk_vreturn rfl dX1_init_12 ⟨rfl, A1, E2, hk1, cA2, cE2, hx2, f19_2, rfl⟩
theorem ct_X0_init (hfl : l.stackTraces = false) (hk0 : ha_ok D A h) (hD5 : D 5) (he0 : E 5 = .inr (7, [.null, .null, .null, .null, .null, .null, .null, .int 0, .int 0])) (hn20 : ¬ D 20) (hn21 : ¬ D 21) (hn22 : ¬ D 22) (hn23 : ¬ D 23) (hn24 : ¬ D 24) (hn25 : ¬ D 25) (hn26 : ¬ D 26) : hk_Ctr G l 1 yX0_init cX0_init 1 none 7 132 [.ref (A 5)] (ha D A E h) (hk_qv (fun h1 => ∃ (A1 : Nat → Nat) (E1 : Nat → hk_E), ha_ok (fun j => j = 26 ∨ j = 25 ∨ j = 24 ∨ j = 23 ∨ j = 22 ∨ j = 21 ∨ j = 20 ∨ D j) A1 h ∧ (∀ j, D j → A1 j = A j) ∧ (∀ j, D j → j ≠ 5 → E1 j = E j) ∧ E1 5 = .inr (7, [.ref (A1 20), .ref (A1 21), .ref (A1 22), .ref (A1 23), .ref (A1 24), .ref (A1 25), .ref (A1 26), .int 0, .int 0]) ∧ E1 20 = .inl (0, 12, .inl (fun _ => 0)) ∧ E1 21 = .inl (0, 12, .inl (fun _ => 0)) ∧ E1 22 = .inl (0, 12, .inl (fun _ => 0)) ∧ E1 23 = .inl (0, 12, .inl (fun _ => 0)) ∧ E1 24 = .inl (0, 12, .inl (fun _ => 0)) ∧ E1 25 = .inl (0, 60, .inl (fun _ => 0)) ∧ E1 26 = .inl (0, 12, .inl (fun _ => 0)) ∧ h1 = ha (fun j => j = 26 ∨ j = 25 ∨ j = 24 ∨ j = 23 ∨ j = 22 ∨ j = 21 ∨ j = 20 ∨ D j) A1 E1 h)) hk_no := by
  refine hk_enter (by decide) hfl (Nat.le_of_ble_eq_true rfl) rfl ?_
  have cA0 : ∀ j, D j → A j = A j := fun _ _ => rfl
  have cE0 : ∀ j, D j → j ≠ 5 → E j = E j := fun _ _ _ => rfl
  refine hk_aload_n dX0_init_0 rfl rfl rfl ?_
  refine hk_objInit dX0_init_1 rfl ob_X0_3 (by decide) rfl ?_
  refine hk_aload_n dX0_init_4 rfl rfl rfl ?_
  refine hk_bipush (v := nI 12) dX0_init_5 rfl (by decide) ?_
  refine ca_newa 20 (t := 0) (N := 12) hk0 hn20 dX0_init_7 rfl (by decide) rfl rfl (fun _ _ z => z) ac_0 (by decide) (by decide) (by decide) (by decide) ?_
  intro A1 E1 hA1 hE1 hx1 hk1
  have f5_1 := (hE1 5 hD5).trans he0
  have a5_1 : A1 5 = A 5 := (hA1 5 hD5).trans rfl
  have cA1 : ∀ j, D j → A1 j = A j := fun j hj => (hA1 j hj).trans (cA0 j hj)
  have cE1 : ∀ j, D j → j ≠ 5 → E1 j = E j := fun j hj hne => (hE1 j hj).trans (cE0 j hj hne)
  refine ca_putf 5 hk1 (Or.inr hD5) a5_1 f5_1 dX0_init_9 rfl (fw_X0_9 rfl rfl) rfl rfl (Nat.lt_of_lt_of_eq (by decide : 0 < 9) rfl) ?_
  intro E2 hE2 hx2
  have f20_2 := (hE2 20 (Or.inl rfl) (by decide)).trans hx1
  have cA2 := cA1
  have cE2 : ∀ j, D j → j ≠ 5 → E2 j = E j := fun j hj hne => (hE2 j (Or.inr hj) hne).trans (cE1 j hj hne)
  have hx2 : E2 5 = .inr (7, [.ref (A1 20), .null, .null, .null, .null, .null, .null, .int 0, .int 0]) := by rw [hx2]; rfl
  refine hk_aload_n dX0_init_12 rfl rfl rfl ?_
  refine hk_bipush (v := nI 12) dX0_init_13 rfl (by decide) ?_
  refine ca_newa 21 (t := 0) (N := 12) hk1 (fun z => z.elim (by decide) hn21) dX0_init_15 rfl (by decide) rfl rfl (fun _ _ z => z) ac_0 (by decide) (by decide) (by decide) (by decide) ?_
  intro A3 E3 hA3 hE3 hx3 hk3
  have f5_3 := (hE3 5 (Or.inr hD5)).trans hx2
  rw [← hA3 20 (Or.inl rfl)] at f5_3
  have f20_3 := (hE3 20 (Or.inl rfl)).trans f20_2
  have a5_3 : A3 5 = A 5 := (hA3 5 (Or.inr hD5)).trans a5_1
  have a20_3 : A3 20 = A1 20 := (hA3 20 (Or.inl rfl)).trans rfl
  have cA3 : ∀ j, D j → A3 j = A j := fun j hj => (hA3 j (Or.inr hj)).trans (cA2 j hj)
  have cE3 : ∀ j, D j → j ≠ 5 → E3 j = E j := fun j hj hne => (hE3 j (Or.inr hj)).trans (cE2 j hj hne)
  refine ca_putf 5 hk3 (Or.inr (Or.inr hD5)) a5_3 f5_3 dX0_init_17 rfl (fw_X0_15 rfl rfl) rfl rfl (Nat.lt_of_lt_of_eq (by decide : 1 < 9) rfl) ?_
  intro E4 hE4 hx4
  have f20_4 := (hE4 20 (Or.inr (Or.inl rfl)) (by decide)).trans f20_3
  have f21_4 := (hE4 21 (Or.inl rfl) (by decide)).trans hx3
  have cA4 := cA3
  have cE4 : ∀ j, D j → j ≠ 5 → E4 j = E j := fun j hj hne => (hE4 j (Or.inr (Or.inr hj)) hne).trans (cE3 j hj hne)
  have hx4 : E4 5 = .inr (7, [.ref (A3 20), .ref (A3 21), .null, .null, .null, .null, .null, .int 0, .int 0]) := by rw [hx4]; rfl
  refine hk_aload_n dX0_init_20 rfl rfl rfl ?_
  refine hk_bipush (v := nI 12) dX0_init_21 rfl (by decide) ?_
  refine ca_newa 22 (t := 0) (N := 12) hk3 (fun z => z.elim (by decide) (fun z => z.elim (by decide) hn22)) dX0_init_23 rfl (by decide) rfl rfl (fun _ _ z => z) ac_0 (by decide) (by decide) (by decide) (by decide) ?_
  intro A5 E5 hA5 hE5 hx5 hk5
  have f5_5 := (hE5 5 (Or.inr (Or.inr hD5))).trans hx4
  rw [← hA5 20 (Or.inr (Or.inl rfl))] at f5_5
  rw [← hA5 21 (Or.inl rfl)] at f5_5
  have f20_5 := (hE5 20 (Or.inr (Or.inl rfl))).trans f20_4
  have f21_5 := (hE5 21 (Or.inl rfl)).trans f21_4
  have a5_5 : A5 5 = A 5 := (hA5 5 (Or.inr (Or.inr hD5))).trans a5_3
  have a20_5 : A5 20 = A1 20 := (hA5 20 (Or.inr (Or.inl rfl))).trans a20_3
  have a21_5 : A5 21 = A3 21 := (hA5 21 (Or.inl rfl)).trans rfl
  have cA5 : ∀ j, D j → A5 j = A j := fun j hj => (hA5 j (Or.inr (Or.inr hj))).trans (cA4 j hj)
  have cE5 : ∀ j, D j → j ≠ 5 → E5 j = E j := fun j hj hne => (hE5 j (Or.inr (Or.inr hj))).trans (cE4 j hj hne)
  refine ca_putf 5 hk5 (Or.inr (Or.inr (Or.inr hD5))) a5_5 f5_5 dX0_init_25 rfl (fw_X0_18 rfl rfl) rfl rfl (Nat.lt_of_lt_of_eq (by decide : 2 < 9) rfl) ?_
  intro E6 hE6 hx6
  have f20_6 := (hE6 20 (Or.inr (Or.inr (Or.inl rfl))) (by decide)).trans f20_5
  have f21_6 := (hE6 21 (Or.inr (Or.inl rfl)) (by decide)).trans f21_5
  have f22_6 := (hE6 22 (Or.inl rfl) (by decide)).trans hx5
  have cA6 := cA5
  have cE6 : ∀ j, D j → j ≠ 5 → E6 j = E j := fun j hj hne => (hE6 j (Or.inr (Or.inr (Or.inr hj))) hne).trans (cE5 j hj hne)
  have hx6 : E6 5 = .inr (7, [.ref (A5 20), .ref (A5 21), .ref (A5 22), .null, .null, .null, .null, .int 0, .int 0]) := by rw [hx6]; rfl
  refine hk_aload_n dX0_init_28 rfl rfl rfl ?_
  refine hk_bipush (v := nI 12) dX0_init_29 rfl (by decide) ?_
  refine ca_newa 23 (t := 0) (N := 12) hk5 (fun z => z.elim (by decide) (fun z => z.elim (by decide) (fun z => z.elim (by decide) hn23))) dX0_init_31 rfl (by decide) rfl rfl (fun _ _ z => z) ac_0 (by decide) (by decide) (by decide) (by decide) ?_
  intro A7 E7 hA7 hE7 hx7 hk7
  have f5_7 := (hE7 5 (Or.inr (Or.inr (Or.inr hD5)))).trans hx6
  rw [← hA7 20 (Or.inr (Or.inr (Or.inl rfl)))] at f5_7
  rw [← hA7 21 (Or.inr (Or.inl rfl))] at f5_7
  rw [← hA7 22 (Or.inl rfl)] at f5_7
  have f20_7 := (hE7 20 (Or.inr (Or.inr (Or.inl rfl)))).trans f20_6
  have f21_7 := (hE7 21 (Or.inr (Or.inl rfl))).trans f21_6
  have f22_7 := (hE7 22 (Or.inl rfl)).trans f22_6
  have a5_7 : A7 5 = A 5 := (hA7 5 (Or.inr (Or.inr (Or.inr hD5)))).trans a5_5
  have a20_7 : A7 20 = A1 20 := (hA7 20 (Or.inr (Or.inr (Or.inl rfl)))).trans a20_5
  have a21_7 : A7 21 = A3 21 := (hA7 21 (Or.inr (Or.inl rfl))).trans a21_5
  have a22_7 : A7 22 = A5 22 := (hA7 22 (Or.inl rfl)).trans rfl
  have cA7 : ∀ j, D j → A7 j = A j := fun j hj => (hA7 j (Or.inr (Or.inr (Or.inr hj)))).trans (cA6 j hj)
  have cE7 : ∀ j, D j → j ≠ 5 → E7 j = E j := fun j hj hne => (hE7 j (Or.inr (Or.inr (Or.inr hj)))).trans (cE6 j hj hne)
  refine ca_putf 5 hk7 (Or.inr (Or.inr (Or.inr (Or.inr hD5)))) a5_7 f5_7 dX0_init_33 rfl (fw_X0_21 rfl rfl) rfl rfl (Nat.lt_of_lt_of_eq (by decide : 3 < 9) rfl) ?_
  intro E8 hE8 hx8
  have f20_8 := (hE8 20 (Or.inr (Or.inr (Or.inr (Or.inl rfl)))) (by decide)).trans f20_7
  have f21_8 := (hE8 21 (Or.inr (Or.inr (Or.inl rfl))) (by decide)).trans f21_7
  have f22_8 := (hE8 22 (Or.inr (Or.inl rfl)) (by decide)).trans f22_7
  have f23_8 := (hE8 23 (Or.inl rfl) (by decide)).trans hx7
  have cA8 := cA7
  have cE8 : ∀ j, D j → j ≠ 5 → E8 j = E j := fun j hj hne => (hE8 j (Or.inr (Or.inr (Or.inr (Or.inr hj)))) hne).trans (cE7 j hj hne)
  have hx8 : E8 5 = .inr (7, [.ref (A7 20), .ref (A7 21), .ref (A7 22), .ref (A7 23), .null, .null, .null, .int 0, .int 0]) := by rw [hx8]; rfl
  refine hk_aload_n dX0_init_36 rfl rfl rfl ?_
  refine hk_bipush (v := nI 12) dX0_init_37 rfl (by decide) ?_
  refine ca_newa 24 (t := 0) (N := 12) hk7 (fun z => z.elim (by decide) (fun z => z.elim (by decide) (fun z => z.elim (by decide) (fun z => z.elim (by decide) hn24)))) dX0_init_39 rfl (by decide) rfl rfl (fun _ _ z => z) ac_0 (by decide) (by decide) (by decide) (by decide) ?_
  intro A9 E9 hA9 hE9 hx9 hk9
  have f5_9 := (hE9 5 (Or.inr (Or.inr (Or.inr (Or.inr hD5))))).trans hx8
  rw [← hA9 20 (Or.inr (Or.inr (Or.inr (Or.inl rfl))))] at f5_9
  rw [← hA9 21 (Or.inr (Or.inr (Or.inl rfl)))] at f5_9
  rw [← hA9 22 (Or.inr (Or.inl rfl))] at f5_9
  rw [← hA9 23 (Or.inl rfl)] at f5_9
  have f20_9 := (hE9 20 (Or.inr (Or.inr (Or.inr (Or.inl rfl))))).trans f20_8
  have f21_9 := (hE9 21 (Or.inr (Or.inr (Or.inl rfl)))).trans f21_8
  have f22_9 := (hE9 22 (Or.inr (Or.inl rfl))).trans f22_8
  have f23_9 := (hE9 23 (Or.inl rfl)).trans f23_8
  have a5_9 : A9 5 = A 5 := (hA9 5 (Or.inr (Or.inr (Or.inr (Or.inr hD5))))).trans a5_7
  have a20_9 : A9 20 = A1 20 := (hA9 20 (Or.inr (Or.inr (Or.inr (Or.inl rfl))))).trans a20_7
  have a21_9 : A9 21 = A3 21 := (hA9 21 (Or.inr (Or.inr (Or.inl rfl)))).trans a21_7
  have a22_9 : A9 22 = A5 22 := (hA9 22 (Or.inr (Or.inl rfl))).trans a22_7
  have a23_9 : A9 23 = A7 23 := (hA9 23 (Or.inl rfl)).trans rfl
  have cA9 : ∀ j, D j → A9 j = A j := fun j hj => (hA9 j (Or.inr (Or.inr (Or.inr (Or.inr hj))))).trans (cA8 j hj)
  have cE9 : ∀ j, D j → j ≠ 5 → E9 j = E j := fun j hj hne => (hE9 j (Or.inr (Or.inr (Or.inr (Or.inr hj))))).trans (cE8 j hj hne)
  refine ca_putf 5 hk9 (Or.inr (Or.inr (Or.inr (Or.inr (Or.inr hD5))))) a5_9 f5_9 dX0_init_41 rfl (fw_X0_24 rfl rfl) rfl rfl (Nat.lt_of_lt_of_eq (by decide : 4 < 9) rfl) ?_
  intro E10 hE10 hx10
  have f20_10 := (hE10 20 (Or.inr (Or.inr (Or.inr (Or.inr (Or.inl rfl))))) (by decide)).trans f20_9
  have f21_10 := (hE10 21 (Or.inr (Or.inr (Or.inr (Or.inl rfl)))) (by decide)).trans f21_9
  have f22_10 := (hE10 22 (Or.inr (Or.inr (Or.inl rfl))) (by decide)).trans f22_9
  have f23_10 := (hE10 23 (Or.inr (Or.inl rfl)) (by decide)).trans f23_9
  have f24_10 := (hE10 24 (Or.inl rfl) (by decide)).trans hx9
  have cA10 := cA9
  have cE10 : ∀ j, D j → j ≠ 5 → E10 j = E j := fun j hj hne => (hE10 j (Or.inr (Or.inr (Or.inr (Or.inr (Or.inr hj))))) hne).trans (cE9 j hj hne)
  have hx10 : E10 5 = .inr (7, [.ref (A9 20), .ref (A9 21), .ref (A9 22), .ref (A9 23), .ref (A9 24), .null, .null, .int 0, .int 0]) := by rw [hx10]; rfl
  refine hk_aload_n dX0_init_44 rfl rfl rfl ?_
  refine hk_bipush (v := nI 60) dX0_init_45 rfl (by decide) ?_
  refine ca_newa 25 (t := 0) (N := 60) hk9 (fun z => z.elim (by decide) (fun z => z.elim (by decide) (fun z => z.elim (by decide) (fun z => z.elim (by decide) (fun z => z.elim (by decide) hn25))))) dX0_init_47 rfl (by decide) rfl rfl (fun _ _ z => z) ac_0 (by decide) (by decide) (by decide) (by decide) ?_
  intro A11 E11 hA11 hE11 hx11 hk11
  have f5_11 := (hE11 5 (Or.inr (Or.inr (Or.inr (Or.inr (Or.inr hD5)))))).trans hx10
  rw [← hA11 20 (Or.inr (Or.inr (Or.inr (Or.inr (Or.inl rfl)))))] at f5_11
  rw [← hA11 21 (Or.inr (Or.inr (Or.inr (Or.inl rfl))))] at f5_11
  rw [← hA11 22 (Or.inr (Or.inr (Or.inl rfl)))] at f5_11
  rw [← hA11 23 (Or.inr (Or.inl rfl))] at f5_11
  rw [← hA11 24 (Or.inl rfl)] at f5_11
  have f20_11 := (hE11 20 (Or.inr (Or.inr (Or.inr (Or.inr (Or.inl rfl)))))).trans f20_10
  have f21_11 := (hE11 21 (Or.inr (Or.inr (Or.inr (Or.inl rfl))))).trans f21_10
  have f22_11 := (hE11 22 (Or.inr (Or.inr (Or.inl rfl)))).trans f22_10
  have f23_11 := (hE11 23 (Or.inr (Or.inl rfl))).trans f23_10
  have f24_11 := (hE11 24 (Or.inl rfl)).trans f24_10
  have a5_11 : A11 5 = A 5 := (hA11 5 (Or.inr (Or.inr (Or.inr (Or.inr (Or.inr hD5)))))).trans a5_9
  have a20_11 : A11 20 = A1 20 := (hA11 20 (Or.inr (Or.inr (Or.inr (Or.inr (Or.inl rfl)))))).trans a20_9
  have a21_11 : A11 21 = A3 21 := (hA11 21 (Or.inr (Or.inr (Or.inr (Or.inl rfl))))).trans a21_9
  have a22_11 : A11 22 = A5 22 := (hA11 22 (Or.inr (Or.inr (Or.inl rfl)))).trans a22_9
  have a23_11 : A11 23 = A7 23 := (hA11 23 (Or.inr (Or.inl rfl))).trans a23_9
  have a24_11 : A11 24 = A9 24 := (hA11 24 (Or.inl rfl)).trans rfl
  have cA11 : ∀ j, D j → A11 j = A j := fun j hj => (hA11 j (Or.inr (Or.inr (Or.inr (Or.inr (Or.inr hj)))))).trans (cA10 j hj)
  have cE11 : ∀ j, D j → j ≠ 5 → E11 j = E j := fun j hj hne => (hE11 j (Or.inr (Or.inr (Or.inr (Or.inr (Or.inr hj)))))).trans (cE10 j hj hne)
  refine ca_putf 5 hk11 (Or.inr (Or.inr (Or.inr (Or.inr (Or.inr (Or.inr hD5)))))) a5_11 f5_11 dX0_init_49 rfl (fw_X0_27 rfl rfl) rfl rfl (Nat.lt_of_lt_of_eq (by decide : 5 < 9) rfl) ?_
  intro E12 hE12 hx12
  have f20_12 := (hE12 20 (Or.inr (Or.inr (Or.inr (Or.inr (Or.inr (Or.inl rfl)))))) (by decide)).trans f20_11
  have f21_12 := (hE12 21 (Or.inr (Or.inr (Or.inr (Or.inr (Or.inl rfl))))) (by decide)).trans f21_11
  have f22_12 := (hE12 22 (Or.inr (Or.inr (Or.inr (Or.inl rfl)))) (by decide)).trans f22_11
  have f23_12 := (hE12 23 (Or.inr (Or.inr (Or.inl rfl))) (by decide)).trans f23_11
  have f24_12 := (hE12 24 (Or.inr (Or.inl rfl)) (by decide)).trans f24_11
  have f25_12 := (hE12 25 (Or.inl rfl) (by decide)).trans hx11
  have cA12 := cA11
  have cE12 : ∀ j, D j → j ≠ 5 → E12 j = E j := fun j hj hne => (hE12 j (Or.inr (Or.inr (Or.inr (Or.inr (Or.inr (Or.inr hj)))))) hne).trans (cE11 j hj hne)
  have hx12 : E12 5 = .inr (7, [.ref (A11 20), .ref (A11 21), .ref (A11 22), .ref (A11 23), .ref (A11 24), .ref (A11 25), .null, .int 0, .int 0]) := by rw [hx12]; rfl
  refine hk_aload_n dX0_init_52 rfl rfl rfl ?_
  refine hk_bipush (v := nI 12) dX0_init_53 rfl (by decide) ?_
  refine ca_newa 26 (t := 0) (N := 12) hk11 (fun z => z.elim (by decide) (fun z => z.elim (by decide) (fun z => z.elim (by decide) (fun z => z.elim (by decide) (fun z => z.elim (by decide) (fun z => z.elim (by decide) hn26)))))) dX0_init_55 rfl (by decide) rfl rfl (fun _ _ z => z) ac_0 (by decide) (by decide) (by decide) (by decide) ?_
  intro A13 E13 hA13 hE13 hx13 hk13
  have f5_13 := (hE13 5 (Or.inr (Or.inr (Or.inr (Or.inr (Or.inr (Or.inr hD5))))))).trans hx12
  rw [← hA13 20 (Or.inr (Or.inr (Or.inr (Or.inr (Or.inr (Or.inl rfl))))))] at f5_13
  rw [← hA13 21 (Or.inr (Or.inr (Or.inr (Or.inr (Or.inl rfl)))))] at f5_13
  rw [← hA13 22 (Or.inr (Or.inr (Or.inr (Or.inl rfl))))] at f5_13
  rw [← hA13 23 (Or.inr (Or.inr (Or.inl rfl)))] at f5_13
  rw [← hA13 24 (Or.inr (Or.inl rfl))] at f5_13
  rw [← hA13 25 (Or.inl rfl)] at f5_13
  have f20_13 := (hE13 20 (Or.inr (Or.inr (Or.inr (Or.inr (Or.inr (Or.inl rfl))))))).trans f20_12
  have f21_13 := (hE13 21 (Or.inr (Or.inr (Or.inr (Or.inr (Or.inl rfl)))))).trans f21_12
  have f22_13 := (hE13 22 (Or.inr (Or.inr (Or.inr (Or.inl rfl))))).trans f22_12
  have f23_13 := (hE13 23 (Or.inr (Or.inr (Or.inl rfl)))).trans f23_12
  have f24_13 := (hE13 24 (Or.inr (Or.inl rfl))).trans f24_12
  have f25_13 := (hE13 25 (Or.inl rfl)).trans f25_12
  have a5_13 : A13 5 = A 5 := (hA13 5 (Or.inr (Or.inr (Or.inr (Or.inr (Or.inr (Or.inr hD5))))))).trans a5_11
  have a20_13 : A13 20 = A1 20 := (hA13 20 (Or.inr (Or.inr (Or.inr (Or.inr (Or.inr (Or.inl rfl))))))).trans a20_11
  have a21_13 : A13 21 = A3 21 := (hA13 21 (Or.inr (Or.inr (Or.inr (Or.inr (Or.inl rfl)))))).trans a21_11
  have a22_13 : A13 22 = A5 22 := (hA13 22 (Or.inr (Or.inr (Or.inr (Or.inl rfl))))).trans a22_11
  have a23_13 : A13 23 = A7 23 := (hA13 23 (Or.inr (Or.inr (Or.inl rfl)))).trans a23_11
  have a24_13 : A13 24 = A9 24 := (hA13 24 (Or.inr (Or.inl rfl))).trans a24_11
  have a25_13 : A13 25 = A11 25 := (hA13 25 (Or.inl rfl)).trans rfl
  have cA13 : ∀ j, D j → A13 j = A j := fun j hj => (hA13 j (Or.inr (Or.inr (Or.inr (Or.inr (Or.inr (Or.inr hj))))))).trans (cA12 j hj)
  have cE13 : ∀ j, D j → j ≠ 5 → E13 j = E j := fun j hj hne => (hE13 j (Or.inr (Or.inr (Or.inr (Or.inr (Or.inr (Or.inr hj))))))).trans (cE12 j hj hne)
  refine ca_putf 5 hk13 (Or.inr (Or.inr (Or.inr (Or.inr (Or.inr (Or.inr (Or.inr hD5))))))) a5_13 f5_13 dX0_init_57 rfl (fw_X0_30 rfl rfl) rfl rfl (Nat.lt_of_lt_of_eq (by decide : 6 < 9) rfl) ?_
  intro E14 hE14 hx14
  have f20_14 := (hE14 20 (Or.inr (Or.inr (Or.inr (Or.inr (Or.inr (Or.inr (Or.inl rfl))))))) (by decide)).trans f20_13
  have f21_14 := (hE14 21 (Or.inr (Or.inr (Or.inr (Or.inr (Or.inr (Or.inl rfl)))))) (by decide)).trans f21_13
  have f22_14 := (hE14 22 (Or.inr (Or.inr (Or.inr (Or.inr (Or.inl rfl))))) (by decide)).trans f22_13
  have f23_14 := (hE14 23 (Or.inr (Or.inr (Or.inr (Or.inl rfl)))) (by decide)).trans f23_13
  have f24_14 := (hE14 24 (Or.inr (Or.inr (Or.inl rfl))) (by decide)).trans f24_13
  have f25_14 := (hE14 25 (Or.inr (Or.inl rfl)) (by decide)).trans f25_13
  have f26_14 := (hE14 26 (Or.inl rfl) (by decide)).trans hx13
  have cA14 := cA13
  have cE14 : ∀ j, D j → j ≠ 5 → E14 j = E j := fun j hj hne => (hE14 j (Or.inr (Or.inr (Or.inr (Or.inr (Or.inr (Or.inr (Or.inr hj))))))) hne).trans (cE13 j hj hne)
  have hx14 : E14 5 = .inr (7, [.ref (A13 20), .ref (A13 21), .ref (A13 22), .ref (A13 23), .ref (A13 24), .ref (A13 25), .ref (A13 26), .int 0, .int 0]) := by rw [hx14]; rfl
  exact hk_vreturn rfl dX0_init_60 ⟨rfl, A13, E14, hk13, cA14, cE14, hx14, f20_14, f21_14, f22_14, f23_14, f24_14, f25_14, f26_14, rfl⟩
theorem ct_X5_init (hfl : l.stackTraces = false) (hk0 : ha_ok D A h) (hD6 : D 6) (he0 : E 6 = .inr (12, [.null, .null, .null])) (hn27 : ¬ D 27) (hn28 : ¬ D 28) (hn29 : ¬ D 29) : hk_Ctr G l 1 yX5_init cX5_init 1 none 3 36 [.ref (A 6)] (ha D A E h) (hk_qv (fun h1 => ∃ (A1 : Nat → Nat) (E1 : Nat → hk_E), ha_ok (fun j => j = 29 ∨ j = 28 ∨ j = 27 ∨ D j) A1 h ∧ (∀ j, D j → A1 j = A j) ∧ (∀ j, D j → j ≠ 6 → E1 j = E j) ∧ E1 6 = .inr (12, [.ref (A1 27), .ref (A1 28), .ref (A1 29)]) ∧ E1 27 = .inl (0, 24, .inl (fun _ => 0)) ∧ E1 28 = .inl (0, 6, .inl (fun _ => 0)) ∧ E1 29 = .inl (0, 6, .inl (fun _ => 0)) ∧ h1 = ha (fun j => j = 29 ∨ j = 28 ∨ j = 27 ∨ D j) A1 E1 h)) hk_no := by
  refine hk_enter (by decide) hfl (Nat.le_of_ble_eq_true rfl) rfl ?_
  have cA0 : ∀ j, D j → A j = A j := fun _ _ => rfl
  have cE0 : ∀ j, D j → j ≠ 6 → E j = E j := fun _ _ _ => rfl
  refine hk_aload_n dX5_init_0 rfl rfl rfl ?_
  refine hk_objInit dX5_init_1 rfl ob_X5_3 (by decide) rfl ?_
  refine hk_aload_n dX5_init_4 rfl rfl rfl ?_
  refine hk_bipush (v := nI 24) dX5_init_5 rfl (by decide) ?_
  refine ca_newa 27 (t := 0) (N := 24) hk0 hn27 dX5_init_7 rfl (by decide) rfl rfl (fun _ _ z => z) ac_0 (by decide) (by decide) (by decide) (by decide) ?_
  intro A1 E1 hA1 hE1 hx1 hk1
  have f6_1 := (hE1 6 hD6).trans he0
  have a6_1 : A1 6 = A 6 := (hA1 6 hD6).trans rfl
  have cA1 : ∀ j, D j → A1 j = A j := fun j hj => (hA1 j hj).trans (cA0 j hj)
  have cE1 : ∀ j, D j → j ≠ 6 → E1 j = E j := fun j hj hne => (hE1 j hj).trans (cE0 j hj hne)
  refine ca_putf 6 hk1 (Or.inr hD6) a6_1 f6_1 dX5_init_9 rfl (fw_X5_9 rfl rfl) rfl rfl (Nat.lt_of_lt_of_eq (by decide : 0 < 3) rfl) ?_
  intro E2 hE2 hx2
  have f27_2 := (hE2 27 (Or.inl rfl) (by decide)).trans hx1
  have cA2 := cA1
  have cE2 : ∀ j, D j → j ≠ 6 → E2 j = E j := fun j hj hne => (hE2 j (Or.inr hj) hne).trans (cE1 j hj hne)
  have hx2 : E2 6 = .inr (12, [.ref (A1 27), .null, .null]) := by rw [hx2]; rfl
  refine hk_aload_n dX5_init_12 rfl rfl rfl ?_
  refine hk_bipush (v := nI 6) dX5_init_13 rfl (by decide) ?_
  refine ca_newa 28 (t := 0) (N := 6) hk1 (fun z => z.elim (by decide) hn28) dX5_init_15 rfl (by decide) rfl rfl (fun _ _ z => z) ac_0 (by decide) (by decide) (by decide) (by decide) ?_
  intro A3 E3 hA3 hE3 hx3 hk3
  have f6_3 := (hE3 6 (Or.inr hD6)).trans hx2
  rw [← hA3 27 (Or.inl rfl)] at f6_3
  have f27_3 := (hE3 27 (Or.inl rfl)).trans f27_2
  have a6_3 : A3 6 = A 6 := (hA3 6 (Or.inr hD6)).trans a6_1
  have a27_3 : A3 27 = A1 27 := (hA3 27 (Or.inl rfl)).trans rfl
  have cA3 : ∀ j, D j → A3 j = A j := fun j hj => (hA3 j (Or.inr hj)).trans (cA2 j hj)
  have cE3 : ∀ j, D j → j ≠ 6 → E3 j = E j := fun j hj hne => (hE3 j (Or.inr hj)).trans (cE2 j hj hne)
  refine ca_putf 6 hk3 (Or.inr (Or.inr hD6)) a6_3 f6_3 dX5_init_17 rfl (fw_X5_15 rfl rfl) rfl rfl (Nat.lt_of_lt_of_eq (by decide : 1 < 3) rfl) ?_
  intro E4 hE4 hx4
  have f27_4 := (hE4 27 (Or.inr (Or.inl rfl)) (by decide)).trans f27_3
  have f28_4 := (hE4 28 (Or.inl rfl) (by decide)).trans hx3
  have cA4 := cA3
  have cE4 : ∀ j, D j → j ≠ 6 → E4 j = E j := fun j hj hne => (hE4 j (Or.inr (Or.inr hj)) hne).trans (cE3 j hj hne)
  have hx4 : E4 6 = .inr (12, [.ref (A3 27), .ref (A3 28), .null]) := by rw [hx4]; rfl
  refine hk_aload_n dX5_init_20 rfl rfl rfl ?_
  refine hk_bipush (v := nI 6) dX5_init_21 rfl (by decide) ?_
  refine ca_newa 29 (t := 0) (N := 6) hk3 (fun z => z.elim (by decide) (fun z => z.elim (by decide) hn29)) dX5_init_23 rfl (by decide) rfl rfl (fun _ _ z => z) ac_0 (by decide) (by decide) (by decide) (by decide) ?_
  intro A5 E5 hA5 hE5 hx5 hk5
  have f6_5 := (hE5 6 (Or.inr (Or.inr hD6))).trans hx4
  rw [← hA5 27 (Or.inr (Or.inl rfl))] at f6_5
  rw [← hA5 28 (Or.inl rfl)] at f6_5
  have f27_5 := (hE5 27 (Or.inr (Or.inl rfl))).trans f27_4
  have f28_5 := (hE5 28 (Or.inl rfl)).trans f28_4
  have a6_5 : A5 6 = A 6 := (hA5 6 (Or.inr (Or.inr hD6))).trans a6_3
  have a27_5 : A5 27 = A1 27 := (hA5 27 (Or.inr (Or.inl rfl))).trans a27_3
  have a28_5 : A5 28 = A3 28 := (hA5 28 (Or.inl rfl)).trans rfl
  have cA5 : ∀ j, D j → A5 j = A j := fun j hj => (hA5 j (Or.inr (Or.inr hj))).trans (cA4 j hj)
  have cE5 : ∀ j, D j → j ≠ 6 → E5 j = E j := fun j hj hne => (hE5 j (Or.inr (Or.inr hj))).trans (cE4 j hj hne)
  refine ca_putf 6 hk5 (Or.inr (Or.inr (Or.inr hD6))) a6_5 f6_5 dX5_init_25 rfl (fw_X5_18 rfl rfl) rfl rfl (Nat.lt_of_lt_of_eq (by decide : 2 < 3) rfl) ?_
  intro E6 hE6 hx6
  have f27_6 := (hE6 27 (Or.inr (Or.inr (Or.inl rfl))) (by decide)).trans f27_5
  have f28_6 := (hE6 28 (Or.inr (Or.inl rfl)) (by decide)).trans f28_5
  have f29_6 := (hE6 29 (Or.inl rfl) (by decide)).trans hx5
  have cA6 := cA5
  have cE6 : ∀ j, D j → j ≠ 6 → E6 j = E j := fun j hj hne => (hE6 j (Or.inr (Or.inr (Or.inr hj))) hne).trans (cE5 j hj hne)
  have hx6 : E6 6 = .inr (12, [.ref (A5 27), .ref (A5 28), .ref (A5 29)]) := by rw [hx6]; rfl
  exact hk_vreturn rfl dX5_init_28 ⟨rfl, A5, E6, hk5, cA6, cE6, hx6, f27_6, f28_6, f29_6, rfl⟩
def cs_Sz : hs_S := (fun i => match i with
  | 9 => upd (upd (fun _ => 0) 0 (nI 10)) 1 (nI 1)
  | 10 => upd (upd (fun _ => 0) 0 (nI 5)) 1 (nI 5)
  | _ => fun _ => 0, 0)
def cs_S0 : hs_S := cs_open cs_Sz 0 (nI 99)
theorem ct_X6_init (hfl : l.stackTraces = false) (hk0 : ha_ok D A h) (hDD : ∀ j, D j ↔ j = 0) (he0 : E 0 = .inr (13, [.null, .null, .null, .null, .null, .null, .long 0])) : hk_Ctr G l 3 yX6_init cX6_init 1 none 29 935 [.ref (A 0)] (ha D A E h) (hk_qv (fun h1 => ∃ A1 : Nat → Nat, hs_inj A1 ∧ (∀ i, i < 30 → h (A1 i) = none) ∧ A1 0 = A 0 ∧ h1 = hs_ov A1 cs_S0 h)) hk_no := by
  have hD0 : D 0 := (hDD 0).mpr rfl
  have hn1 : ¬ D 1 := fun z => absurd ((hDD 1).mp z) (by decide)
  have hn2 : ¬ D 2 := fun z => absurd ((hDD 2).mp z) (by decide)
  have hn3 : ¬ D 3 := fun z => absurd ((hDD 3).mp z) (by decide)
  have hn4 : ¬ D 4 := fun z => absurd ((hDD 4).mp z) (by decide)
  have hn5 : ¬ D 5 := fun z => absurd ((hDD 5).mp z) (by decide)
  have hn6 : ¬ D 6 := fun z => absurd ((hDD 6).mp z) (by decide)
  have hn7 : ¬ D 7 := fun z => absurd ((hDD 7).mp z) (by decide)
  have hn8 : ¬ D 8 := fun z => absurd ((hDD 8).mp z) (by decide)
  have hn9 : ¬ D 9 := fun z => absurd ((hDD 9).mp z) (by decide)
  have hn10 : ¬ D 10 := fun z => absurd ((hDD 10).mp z) (by decide)
  have hn11 : ¬ D 11 := fun z => absurd ((hDD 11).mp z) (by decide)
  have hn12 : ¬ D 12 := fun z => absurd ((hDD 12).mp z) (by decide)
  have hn13 : ¬ D 13 := fun z => absurd ((hDD 13).mp z) (by decide)
  have hn14 : ¬ D 14 := fun z => absurd ((hDD 14).mp z) (by decide)
  have hn15 : ¬ D 15 := fun z => absurd ((hDD 15).mp z) (by decide)
  have hn16 : ¬ D 16 := fun z => absurd ((hDD 16).mp z) (by decide)
  have hn17 : ¬ D 17 := fun z => absurd ((hDD 17).mp z) (by decide)
  have hn18 : ¬ D 18 := fun z => absurd ((hDD 18).mp z) (by decide)
  have hn19 : ¬ D 19 := fun z => absurd ((hDD 19).mp z) (by decide)
  have hn20 : ¬ D 20 := fun z => absurd ((hDD 20).mp z) (by decide)
  have hn21 : ¬ D 21 := fun z => absurd ((hDD 21).mp z) (by decide)
  have hn22 : ¬ D 22 := fun z => absurd ((hDD 22).mp z) (by decide)
  have hn23 : ¬ D 23 := fun z => absurd ((hDD 23).mp z) (by decide)
  have hn24 : ¬ D 24 := fun z => absurd ((hDD 24).mp z) (by decide)
  have hn25 : ¬ D 25 := fun z => absurd ((hDD 25).mp z) (by decide)
  have hn26 : ¬ D 26 := fun z => absurd ((hDD 26).mp z) (by decide)
  have hn27 : ¬ D 27 := fun z => absurd ((hDD 27).mp z) (by decide)
  have hn28 : ¬ D 28 := fun z => absurd ((hDD 28).mp z) (by decide)
  have hn29 : ¬ D 29 := fun z => absurd ((hDD 29).mp z) (by decide)
  refine hk_enter (by decide) hfl (Nat.le_of_ble_eq_true rfl) rfl ?_
  have cA0 : ∀ j, D j → A j = A j := fun _ _ => rfl
  have cE0 : ∀ j, D j → j ≠ 0 → E j = E j := fun _ _ _ => rfl
  refine hk_aload_n dX6_init_0 rfl rfl rfl ?_
  refine hk_objInit dX6_init_1 rfl ob_X6_1 (by decide) rfl ?_
  refine hk_aload_n dX6_init_4 rfl rfl rfl ?_
  refine ca_new 1 hk0 hn1 dX6_init_5 rfl nw_X6_7 (by decide) ?_
  intro A1 E1 hA1 hE1 hx1 hk1
  have f0_1 := (hE1 0 hD0).trans he0
  have a0_1 : A1 0 = A 0 := (hA1 0 hD0).trans rfl
  have cA1 : ∀ j, D j → A1 j = A j := fun j hj => (hA1 j hj).trans (cA0 j hj)
  have cE1 : ∀ j, D j → j ≠ 0 → E1 j = E j := fun j hj hne => (hE1 j hj).trans (cE0 j hj hne)
  refine hk_dup dX6_init_8 rfl rfl ?_
  refine hk_callI (a := A1 1) dX6_init_9 rfl mi_X6_9 (ct_X3_init hfl hk1 (Or.inl rfl) hx1 (fun z => z.elim (by decide) hn7) (fun z => z.elim (by decide) hn8)) rfl rfl (by decide) (by decide) (Nat.le_of_ble_eq_true rfl) (hk_kv ?_) hk_nx
  rintro _ ⟨A2, E2, hk2, hA2, hE2, hx2, hy7_2, hy8_2, rfl⟩
  have f0_2 := (hE2 0 (Or.inr hD0) (by decide)).trans f0_1
  have a0_2 : A2 0 = A 0 := (hA2 0 (Or.inr hD0)).trans a0_1
  have a1_2 : A2 1 = A1 1 := (hA2 1 (Or.inl rfl)).trans rfl
  have cA2 : ∀ j, D j → A2 j = A j := fun j hj => (hA2 j (Or.inr hj)).trans (cA1 j hj)
  have cE2 : ∀ j, D j → j ≠ 0 → E2 j = E j := fun j hj hne => (hE2 j (Or.inr hj) (fun e => absurd (e ▸ hj) hn1)).trans (cE1 j hj hne)
  refine ca_putf 0 hk2 (Or.inr (Or.inr (Or.inr hD0))) a0_2 f0_2 dX6_init_12 rfl (fw_X6_10 rfl rfl) rfl rfl (Nat.lt_of_lt_of_eq (by decide : 0 < 7) rfl) ?_
  intro E3 hE3 hx3
  have f1_3 := (hE3 1 (Or.inr (Or.inr (Or.inl rfl))) (by decide)).trans hx2
  have f7_3 := (hE3 7 (Or.inr (Or.inl rfl)) (by decide)).trans hy7_2
  have f8_3 := (hE3 8 (Or.inl rfl) (by decide)).trans hy8_2
  have cA3 := cA2
  have cE3 : ∀ j, D j → j ≠ 0 → E3 j = E j := fun j hj hne => (hE3 j (Or.inr (Or.inr (Or.inr hj))) hne).trans (cE2 j hj hne)
  have hx3 : E3 0 = .inr (13, [.ref (A2 1), .null, .null, .null, .null, .null, .long 0]) := by rw [hx3, a1_2]; rfl
  refine hk_aload_n dX6_init_15 rfl rfl rfl ?_
  refine ca_new 2 hk2 (fun z => z.elim (by decide) (fun z => z.elim (by decide) (fun z => z.elim (by decide) hn2))) dX6_init_16 rfl nw_X6_16 (by decide) ?_
  intro A4 E4 hA4 hE4 hx4 hk4
  have f0_4 := (hE4 0 (Or.inr (Or.inr (Or.inr hD0)))).trans hx3
  rw [← hA4 1 (Or.inr (Or.inr (Or.inl rfl)))] at f0_4
  have f1_4 := (hE4 1 (Or.inr (Or.inr (Or.inl rfl)))).trans f1_3
  rw [← hA4 7 (Or.inr (Or.inl rfl))] at f1_4
  rw [← hA4 8 (Or.inl rfl)] at f1_4
  have f7_4 := (hE4 7 (Or.inr (Or.inl rfl))).trans f7_3
  have f8_4 := (hE4 8 (Or.inl rfl)).trans f8_3
  have a0_4 : A4 0 = A 0 := (hA4 0 (Or.inr (Or.inr (Or.inr hD0)))).trans a0_2
  have a1_4 : A4 1 = A1 1 := (hA4 1 (Or.inr (Or.inr (Or.inl rfl)))).trans a1_2
  have cA4 : ∀ j, D j → A4 j = A j := fun j hj => (hA4 j (Or.inr (Or.inr (Or.inr hj)))).trans (cA3 j hj)
  have cE4 : ∀ j, D j → j ≠ 0 → E4 j = E j := fun j hj hne => (hE4 j (Or.inr (Or.inr (Or.inr hj)))).trans (cE3 j hj hne)
  refine hk_dup dX6_init_19 rfl rfl ?_
  refine hk_callI (a := A4 2) dX6_init_20 rfl mi_X6_18 (ct_X4_init hfl hk4 (Or.inl rfl) hx4 (fun z => z.elim (by decide) (fun z => z.elim (by decide) (fun z => z.elim (by decide) (fun z => z.elim (by decide) hn9)))) (fun z => z.elim (by decide) (fun z => z.elim (by decide) (fun z => z.elim (by decide) (fun z => z.elim (by decide) hn10)))) (fun z => z.elim (by decide) (fun z => z.elim (by decide) (fun z => z.elim (by decide) (fun z => z.elim (by decide) hn11)))) (fun z => z.elim (by decide) (fun z => z.elim (by decide) (fun z => z.elim (by decide) (fun z => z.elim (by decide) hn12))))) rfl rfl (by decide) (by decide) (Nat.le_of_ble_eq_true rfl) (hk_kv ?_) hk_nx
  rintro _ ⟨A5, E5, hk5, hA5, hE5, hx5, hy9_5, hy10_5, hy11_5, hy12_5, rfl⟩
  have f0_5 := (hE5 0 (Or.inr (Or.inr (Or.inr (Or.inr hD0)))) (by decide)).trans f0_4
  rw [← hA5 1 (Or.inr (Or.inr (Or.inr (Or.inl rfl))))] at f0_5
  have f1_5 := (hE5 1 (Or.inr (Or.inr (Or.inr (Or.inl rfl)))) (by decide)).trans f1_4
  rw [← hA5 7 (Or.inr (Or.inr (Or.inl rfl)))] at f1_5
  rw [← hA5 8 (Or.inr (Or.inl rfl))] at f1_5
  have f7_5 := (hE5 7 (Or.inr (Or.inr (Or.inl rfl))) (by decide)).trans f7_4
  have f8_5 := (hE5 8 (Or.inr (Or.inl rfl)) (by decide)).trans f8_4
  have a0_5 : A5 0 = A 0 := (hA5 0 (Or.inr (Or.inr (Or.inr (Or.inr hD0))))).trans a0_4
  have a1_5 : A5 1 = A1 1 := (hA5 1 (Or.inr (Or.inr (Or.inr (Or.inl rfl))))).trans a1_4
  have a2_5 : A5 2 = A4 2 := (hA5 2 (Or.inl rfl)).trans rfl
  have cA5 : ∀ j, D j → A5 j = A j := fun j hj => (hA5 j (Or.inr (Or.inr (Or.inr (Or.inr hj))))).trans (cA4 j hj)
  have cE5 : ∀ j, D j → j ≠ 0 → E5 j = E j := fun j hj hne => (hE5 j (Or.inr (Or.inr (Or.inr (Or.inr hj)))) (fun e => absurd (e ▸ hj) hn2)).trans (cE4 j hj hne)
  refine ca_putf 0 hk5 (Or.inr (Or.inr (Or.inr (Or.inr (Or.inr (Or.inr (Or.inr (Or.inr hD0)))))))) a0_5 f0_5 dX6_init_23 rfl (fw_X6_19 rfl rfl) rfl rfl (Nat.lt_of_lt_of_eq (by decide : 1 < 7) rfl) ?_
  intro E6 hE6 hx6
  have f1_6 := (hE6 1 (Or.inr (Or.inr (Or.inr (Or.inr (Or.inr (Or.inr (Or.inr (Or.inl rfl)))))))) (by decide)).trans f1_5
  have f7_6 := (hE6 7 (Or.inr (Or.inr (Or.inr (Or.inr (Or.inr (Or.inr (Or.inl rfl))))))) (by decide)).trans f7_5
  have f8_6 := (hE6 8 (Or.inr (Or.inr (Or.inr (Or.inr (Or.inr (Or.inl rfl)))))) (by decide)).trans f8_5
  have f2_6 := (hE6 2 (Or.inr (Or.inr (Or.inr (Or.inr (Or.inl rfl))))) (by decide)).trans hx5
  have f9_6 := (hE6 9 (Or.inr (Or.inr (Or.inr (Or.inl rfl)))) (by decide)).trans hy9_5
  have f10_6 := (hE6 10 (Or.inr (Or.inr (Or.inl rfl))) (by decide)).trans hy10_5
  have f11_6 := (hE6 11 (Or.inr (Or.inl rfl)) (by decide)).trans hy11_5
  have f12_6 := (hE6 12 (Or.inl rfl) (by decide)).trans hy12_5
  have cA6 := cA5
  have cE6 : ∀ j, D j → j ≠ 0 → E6 j = E j := fun j hj hne => (hE6 j (Or.inr (Or.inr (Or.inr (Or.inr (Or.inr (Or.inr (Or.inr (Or.inr hj)))))))) hne).trans (cE5 j hj hne)
  have hx6 : E6 0 = .inr (13, [.ref (A5 1), .ref (A5 2), .null, .null, .null, .null, .long 0]) := by rw [hx6, a2_5]; rfl
  refine hk_aload_n dX6_init_26 rfl rfl rfl ?_
  refine ca_new 3 hk5 (fun z => z.elim (by decide) (fun z => z.elim (by decide) (fun z => z.elim (by decide) (fun z => z.elim (by decide) (fun z => z.elim (by decide) (fun z => z.elim (by decide) (fun z => z.elim (by decide) (fun z => z.elim (by decide) hn3)))))))) dX6_init_27 rfl nw_X6_23 (by decide) ?_
  intro A7 E7 hA7 hE7 hx7 hk7
  have f0_7 := (hE7 0 (Or.inr (Or.inr (Or.inr (Or.inr (Or.inr (Or.inr (Or.inr (Or.inr hD0))))))))).trans hx6
  rw [← hA7 1 (Or.inr (Or.inr (Or.inr (Or.inr (Or.inr (Or.inr (Or.inr (Or.inl rfl))))))))] at f0_7
  rw [← hA7 2 (Or.inr (Or.inr (Or.inr (Or.inr (Or.inl rfl)))))] at f0_7
  have f1_7 := (hE7 1 (Or.inr (Or.inr (Or.inr (Or.inr (Or.inr (Or.inr (Or.inr (Or.inl rfl))))))))).trans f1_6
  rw [← hA7 7 (Or.inr (Or.inr (Or.inr (Or.inr (Or.inr (Or.inr (Or.inl rfl)))))))] at f1_7
  rw [← hA7 8 (Or.inr (Or.inr (Or.inr (Or.inr (Or.inr (Or.inl rfl))))))] at f1_7
  have f7_7 := (hE7 7 (Or.inr (Or.inr (Or.inr (Or.inr (Or.inr (Or.inr (Or.inl rfl)))))))).trans f7_6
  have f8_7 := (hE7 8 (Or.inr (Or.inr (Or.inr (Or.inr (Or.inr (Or.inl rfl))))))).trans f8_6
  have f2_7 := (hE7 2 (Or.inr (Or.inr (Or.inr (Or.inr (Or.inl rfl)))))).trans f2_6
  rw [← hA7 9 (Or.inr (Or.inr (Or.inr (Or.inl rfl))))] at f2_7
  rw [← hA7 10 (Or.inr (Or.inr (Or.inl rfl)))] at f2_7
  rw [← hA7 11 (Or.inr (Or.inl rfl))] at f2_7
  rw [← hA7 12 (Or.inl rfl)] at f2_7
  have f9_7 := (hE7 9 (Or.inr (Or.inr (Or.inr (Or.inl rfl))))).trans f9_6
  have f10_7 := (hE7 10 (Or.inr (Or.inr (Or.inl rfl)))).trans f10_6
  have f11_7 := (hE7 11 (Or.inr (Or.inl rfl))).trans f11_6
  have f12_7 := (hE7 12 (Or.inl rfl)).trans f12_6
  have a0_7 : A7 0 = A 0 := (hA7 0 (Or.inr (Or.inr (Or.inr (Or.inr (Or.inr (Or.inr (Or.inr (Or.inr hD0))))))))).trans a0_5
  have a1_7 : A7 1 = A1 1 := (hA7 1 (Or.inr (Or.inr (Or.inr (Or.inr (Or.inr (Or.inr (Or.inr (Or.inl rfl))))))))).trans a1_5
  have a2_7 : A7 2 = A4 2 := (hA7 2 (Or.inr (Or.inr (Or.inr (Or.inr (Or.inl rfl)))))).trans a2_5
  have cA7 : ∀ j, D j → A7 j = A j := fun j hj => (hA7 j (Or.inr (Or.inr (Or.inr (Or.inr (Or.inr (Or.inr (Or.inr (Or.inr hj))))))))).trans (cA6 j hj)
  have cE7 : ∀ j, D j → j ≠ 0 → E7 j = E j := fun j hj hne => (hE7 j (Or.inr (Or.inr (Or.inr (Or.inr (Or.inr (Or.inr (Or.inr (Or.inr hj))))))))).trans (cE6 j hj hne)
  refine hk_dup dX6_init_30 rfl rfl ?_
  refine hk_callI (a := A7 3) dX6_init_31 rfl mi_X6_25 (ct_X2_init hfl hk7 (Or.inl rfl) hx7 (fun z => z.elim (by decide) (fun z => z.elim (by decide) (fun z => z.elim (by decide) (fun z => z.elim (by decide) (fun z => z.elim (by decide) (fun z => z.elim (by decide) (fun z => z.elim (by decide) (fun z => z.elim (by decide) (fun z => z.elim (by decide) hn13))))))))) (fun z => z.elim (by decide) (fun z => z.elim (by decide) (fun z => z.elim (by decide) (fun z => z.elim (by decide) (fun z => z.elim (by decide) (fun z => z.elim (by decide) (fun z => z.elim (by decide) (fun z => z.elim (by decide) (fun z => z.elim (by decide) hn14))))))))) (fun z => z.elim (by decide) (fun z => z.elim (by decide) (fun z => z.elim (by decide) (fun z => z.elim (by decide) (fun z => z.elim (by decide) (fun z => z.elim (by decide) (fun z => z.elim (by decide) (fun z => z.elim (by decide) (fun z => z.elim (by decide) hn15))))))))) (fun z => z.elim (by decide) (fun z => z.elim (by decide) (fun z => z.elim (by decide) (fun z => z.elim (by decide) (fun z => z.elim (by decide) (fun z => z.elim (by decide) (fun z => z.elim (by decide) (fun z => z.elim (by decide) (fun z => z.elim (by decide) hn16))))))))) (fun z => z.elim (by decide) (fun z => z.elim (by decide) (fun z => z.elim (by decide) (fun z => z.elim (by decide) (fun z => z.elim (by decide) (fun z => z.elim (by decide) (fun z => z.elim (by decide) (fun z => z.elim (by decide) (fun z => z.elim (by decide) hn17))))))))) (fun z => z.elim (by decide) (fun z => z.elim (by decide) (fun z => z.elim (by decide) (fun z => z.elim (by decide) (fun z => z.elim (by decide) (fun z => z.elim (by decide) (fun z => z.elim (by decide) (fun z => z.elim (by decide) (fun z => z.elim (by decide) hn18)))))))))) rfl rfl (by decide) (by decide) (Nat.le_of_ble_eq_true rfl) (hk_kv ?_) hk_nx
  rintro _ ⟨A8, E8, hk8, hA8, hE8, hx8, hy13_8, hy14_8, hy15_8, hy16_8, hy17_8, hy18_8, rfl⟩
  have f0_8 := (hE8 0 (Or.inr (Or.inr (Or.inr (Or.inr (Or.inr (Or.inr (Or.inr (Or.inr (Or.inr hD0))))))))) (by decide)).trans f0_7
  rw [← hA8 1 (Or.inr (Or.inr (Or.inr (Or.inr (Or.inr (Or.inr (Or.inr (Or.inr (Or.inl rfl)))))))))] at f0_8
  rw [← hA8 2 (Or.inr (Or.inr (Or.inr (Or.inr (Or.inr (Or.inl rfl))))))] at f0_8
  have f1_8 := (hE8 1 (Or.inr (Or.inr (Or.inr (Or.inr (Or.inr (Or.inr (Or.inr (Or.inr (Or.inl rfl))))))))) (by decide)).trans f1_7
  rw [← hA8 7 (Or.inr (Or.inr (Or.inr (Or.inr (Or.inr (Or.inr (Or.inr (Or.inl rfl))))))))] at f1_8
  rw [← hA8 8 (Or.inr (Or.inr (Or.inr (Or.inr (Or.inr (Or.inr (Or.inl rfl)))))))] at f1_8
  have f7_8 := (hE8 7 (Or.inr (Or.inr (Or.inr (Or.inr (Or.inr (Or.inr (Or.inr (Or.inl rfl)))))))) (by decide)).trans f7_7
  have f8_8 := (hE8 8 (Or.inr (Or.inr (Or.inr (Or.inr (Or.inr (Or.inr (Or.inl rfl))))))) (by decide)).trans f8_7
  have f2_8 := (hE8 2 (Or.inr (Or.inr (Or.inr (Or.inr (Or.inr (Or.inl rfl)))))) (by decide)).trans f2_7
  rw [← hA8 9 (Or.inr (Or.inr (Or.inr (Or.inr (Or.inl rfl)))))] at f2_8
  rw [← hA8 10 (Or.inr (Or.inr (Or.inr (Or.inl rfl))))] at f2_8
  rw [← hA8 11 (Or.inr (Or.inr (Or.inl rfl)))] at f2_8
  rw [← hA8 12 (Or.inr (Or.inl rfl))] at f2_8
  have f9_8 := (hE8 9 (Or.inr (Or.inr (Or.inr (Or.inr (Or.inl rfl))))) (by decide)).trans f9_7
  have f10_8 := (hE8 10 (Or.inr (Or.inr (Or.inr (Or.inl rfl)))) (by decide)).trans f10_7
  have f11_8 := (hE8 11 (Or.inr (Or.inr (Or.inl rfl))) (by decide)).trans f11_7
  have f12_8 := (hE8 12 (Or.inr (Or.inl rfl)) (by decide)).trans f12_7
  have a0_8 : A8 0 = A 0 := (hA8 0 (Or.inr (Or.inr (Or.inr (Or.inr (Or.inr (Or.inr (Or.inr (Or.inr (Or.inr hD0)))))))))).trans a0_7
  have a1_8 : A8 1 = A1 1 := (hA8 1 (Or.inr (Or.inr (Or.inr (Or.inr (Or.inr (Or.inr (Or.inr (Or.inr (Or.inl rfl)))))))))).trans a1_7
  have a2_8 : A8 2 = A4 2 := (hA8 2 (Or.inr (Or.inr (Or.inr (Or.inr (Or.inr (Or.inl rfl))))))).trans a2_7
  have a3_8 : A8 3 = A7 3 := (hA8 3 (Or.inl rfl)).trans rfl
  have cA8 : ∀ j, D j → A8 j = A j := fun j hj => (hA8 j (Or.inr (Or.inr (Or.inr (Or.inr (Or.inr (Or.inr (Or.inr (Or.inr (Or.inr hj)))))))))).trans (cA7 j hj)
  have cE8 : ∀ j, D j → j ≠ 0 → E8 j = E j := fun j hj hne => (hE8 j (Or.inr (Or.inr (Or.inr (Or.inr (Or.inr (Or.inr (Or.inr (Or.inr (Or.inr hj))))))))) (fun e => absurd (e ▸ hj) hn3)).trans (cE7 j hj hne)
  refine ca_putf 0 hk8 (Or.inr (Or.inr (Or.inr (Or.inr (Or.inr (Or.inr (Or.inr (Or.inr (Or.inr (Or.inr (Or.inr (Or.inr (Or.inr (Or.inr (Or.inr hD0))))))))))))))) a0_8 f0_8 dX6_init_34 rfl (fw_X6_26 rfl rfl) rfl rfl (Nat.lt_of_lt_of_eq (by decide : 2 < 7) rfl) ?_
  intro E9 hE9 hx9
  have f1_9 := (hE9 1 (Or.inr (Or.inr (Or.inr (Or.inr (Or.inr (Or.inr (Or.inr (Or.inr (Or.inr (Or.inr (Or.inr (Or.inr (Or.inr (Or.inr (Or.inl rfl))))))))))))))) (by decide)).trans f1_8
  have f7_9 := (hE9 7 (Or.inr (Or.inr (Or.inr (Or.inr (Or.inr (Or.inr (Or.inr (Or.inr (Or.inr (Or.inr (Or.inr (Or.inr (Or.inr (Or.inl rfl)))))))))))))) (by decide)).trans f7_8
  have f8_9 := (hE9 8 (Or.inr (Or.inr (Or.inr (Or.inr (Or.inr (Or.inr (Or.inr (Or.inr (Or.inr (Or.inr (Or.inr (Or.inr (Or.inl rfl))))))))))))) (by decide)).trans f8_8
  have f2_9 := (hE9 2 (Or.inr (Or.inr (Or.inr (Or.inr (Or.inr (Or.inr (Or.inr (Or.inr (Or.inr (Or.inr (Or.inr (Or.inl rfl)))))))))))) (by decide)).trans f2_8
  have f9_9 := (hE9 9 (Or.inr (Or.inr (Or.inr (Or.inr (Or.inr (Or.inr (Or.inr (Or.inr (Or.inr (Or.inr (Or.inl rfl))))))))))) (by decide)).trans f9_8
  have f10_9 := (hE9 10 (Or.inr (Or.inr (Or.inr (Or.inr (Or.inr (Or.inr (Or.inr (Or.inr (Or.inr (Or.inl rfl)))))))))) (by decide)).trans f10_8
  have f11_9 := (hE9 11 (Or.inr (Or.inr (Or.inr (Or.inr (Or.inr (Or.inr (Or.inr (Or.inr (Or.inl rfl))))))))) (by decide)).trans f11_8
  have f12_9 := (hE9 12 (Or.inr (Or.inr (Or.inr (Or.inr (Or.inr (Or.inr (Or.inr (Or.inl rfl)))))))) (by decide)).trans f12_8
  have f3_9 := (hE9 3 (Or.inr (Or.inr (Or.inr (Or.inr (Or.inr (Or.inr (Or.inl rfl))))))) (by decide)).trans hx8
  have f13_9 := (hE9 13 (Or.inr (Or.inr (Or.inr (Or.inr (Or.inr (Or.inl rfl)))))) (by decide)).trans hy13_8
  have f14_9 := (hE9 14 (Or.inr (Or.inr (Or.inr (Or.inr (Or.inl rfl))))) (by decide)).trans hy14_8
  have f15_9 := (hE9 15 (Or.inr (Or.inr (Or.inr (Or.inl rfl)))) (by decide)).trans hy15_8
  have f16_9 := (hE9 16 (Or.inr (Or.inr (Or.inl rfl))) (by decide)).trans hy16_8
  have f17_9 := (hE9 17 (Or.inr (Or.inl rfl)) (by decide)).trans hy17_8
  have f18_9 := (hE9 18 (Or.inl rfl) (by decide)).trans hy18_8
  have cA9 := cA8
  have cE9 : ∀ j, D j → j ≠ 0 → E9 j = E j := fun j hj hne => (hE9 j (Or.inr (Or.inr (Or.inr (Or.inr (Or.inr (Or.inr (Or.inr (Or.inr (Or.inr (Or.inr (Or.inr (Or.inr (Or.inr (Or.inr (Or.inr hj))))))))))))))) hne).trans (cE8 j hj hne)
  have hx9 : E9 0 = .inr (13, [.ref (A8 1), .ref (A8 2), .ref (A8 3), .null, .null, .null, .long 0]) := by rw [hx9, a3_8]; rfl
  refine hk_aload_n dX6_init_37 rfl rfl rfl ?_
  refine ca_new 4 hk8 (fun z => z.elim (by decide) (fun z => z.elim (by decide) (fun z => z.elim (by decide) (fun z => z.elim (by decide) (fun z => z.elim (by decide) (fun z => z.elim (by decide) (fun z => z.elim (by decide) (fun z => z.elim (by decide) (fun z => z.elim (by decide) (fun z => z.elim (by decide) (fun z => z.elim (by decide) (fun z => z.elim (by decide) (fun z => z.elim (by decide) (fun z => z.elim (by decide) (fun z => z.elim (by decide) hn4))))))))))))))) dX6_init_38 rfl nw_X6_30 (by decide) ?_
  intro A10 E10 hA10 hE10 hx10 hk10
  have f0_10 := (hE10 0 (Or.inr (Or.inr (Or.inr (Or.inr (Or.inr (Or.inr (Or.inr (Or.inr (Or.inr (Or.inr (Or.inr (Or.inr (Or.inr (Or.inr (Or.inr hD0)))))))))))))))).trans hx9
  rw [← hA10 1 (Or.inr (Or.inr (Or.inr (Or.inr (Or.inr (Or.inr (Or.inr (Or.inr (Or.inr (Or.inr (Or.inr (Or.inr (Or.inr (Or.inr (Or.inl rfl)))))))))))))))] at f0_10
  rw [← hA10 2 (Or.inr (Or.inr (Or.inr (Or.inr (Or.inr (Or.inr (Or.inr (Or.inr (Or.inr (Or.inr (Or.inr (Or.inl rfl))))))))))))] at f0_10
  rw [← hA10 3 (Or.inr (Or.inr (Or.inr (Or.inr (Or.inr (Or.inr (Or.inl rfl)))))))] at f0_10
  have f1_10 := (hE10 1 (Or.inr (Or.inr (Or.inr (Or.inr (Or.inr (Or.inr (Or.inr (Or.inr (Or.inr (Or.inr (Or.inr (Or.inr (Or.inr (Or.inr (Or.inl rfl)))))))))))))))).trans f1_9
  rw [← hA10 7 (Or.inr (Or.inr (Or.inr (Or.inr (Or.inr (Or.inr (Or.inr (Or.inr (Or.inr (Or.inr (Or.inr (Or.inr (Or.inr (Or.inl rfl))))))))))))))] at f1_10
  rw [← hA10 8 (Or.inr (Or.inr (Or.inr (Or.inr (Or.inr (Or.inr (Or.inr (Or.inr (Or.inr (Or.inr (Or.inr (Or.inr (Or.inl rfl)))))))))))))] at f1_10
  have f7_10 := (hE10 7 (Or.inr (Or.inr (Or.inr (Or.inr (Or.inr (Or.inr (Or.inr (Or.inr (Or.inr (Or.inr (Or.inr (Or.inr (Or.inr (Or.inl rfl))))))))))))))).trans f7_9
  have f8_10 := (hE10 8 (Or.inr (Or.inr (Or.inr (Or.inr (Or.inr (Or.inr (Or.inr (Or.inr (Or.inr (Or.inr (Or.inr (Or.inr (Or.inl rfl)))))))))))))).trans f8_9
  have f2_10 := (hE10 2 (Or.inr (Or.inr (Or.inr (Or.inr (Or.inr (Or.inr (Or.inr (Or.inr (Or.inr (Or.inr (Or.inr (Or.inl rfl))))))))))))).trans f2_9
  rw [← hA10 9 (Or.inr (Or.inr (Or.inr (Or.inr (Or.inr (Or.inr (Or.inr (Or.inr (Or.inr (Or.inr (Or.inl rfl)))))))))))] at f2_10
  rw [← hA10 10 (Or.inr (Or.inr (Or.inr (Or.inr (Or.inr (Or.inr (Or.inr (Or.inr (Or.inr (Or.inl rfl))))))))))] at f2_10
  rw [← hA10 11 (Or.inr (Or.inr (Or.inr (Or.inr (Or.inr (Or.inr (Or.inr (Or.inr (Or.inl rfl)))))))))] at f2_10
  rw [← hA10 12 (Or.inr (Or.inr (Or.inr (Or.inr (Or.inr (Or.inr (Or.inr (Or.inl rfl))))))))] at f2_10
  have f9_10 := (hE10 9 (Or.inr (Or.inr (Or.inr (Or.inr (Or.inr (Or.inr (Or.inr (Or.inr (Or.inr (Or.inr (Or.inl rfl)))))))))))).trans f9_9
  have f10_10 := (hE10 10 (Or.inr (Or.inr (Or.inr (Or.inr (Or.inr (Or.inr (Or.inr (Or.inr (Or.inr (Or.inl rfl))))))))))).trans f10_9
  have f11_10 := (hE10 11 (Or.inr (Or.inr (Or.inr (Or.inr (Or.inr (Or.inr (Or.inr (Or.inr (Or.inl rfl)))))))))).trans f11_9
  have f12_10 := (hE10 12 (Or.inr (Or.inr (Or.inr (Or.inr (Or.inr (Or.inr (Or.inr (Or.inl rfl))))))))).trans f12_9
  have f3_10 := (hE10 3 (Or.inr (Or.inr (Or.inr (Or.inr (Or.inr (Or.inr (Or.inl rfl)))))))).trans f3_9
  rw [← hA10 13 (Or.inr (Or.inr (Or.inr (Or.inr (Or.inr (Or.inl rfl))))))] at f3_10
  rw [← hA10 14 (Or.inr (Or.inr (Or.inr (Or.inr (Or.inl rfl)))))] at f3_10
  rw [← hA10 15 (Or.inr (Or.inr (Or.inr (Or.inl rfl))))] at f3_10
  rw [← hA10 16 (Or.inr (Or.inr (Or.inl rfl)))] at f3_10
  rw [← hA10 17 (Or.inr (Or.inl rfl))] at f3_10
  rw [← hA10 18 (Or.inl rfl)] at f3_10
  have f13_10 := (hE10 13 (Or.inr (Or.inr (Or.inr (Or.inr (Or.inr (Or.inl rfl))))))).trans f13_9
  have f14_10 := (hE10 14 (Or.inr (Or.inr (Or.inr (Or.inr (Or.inl rfl)))))).trans f14_9
  have f15_10 := (hE10 15 (Or.inr (Or.inr (Or.inr (Or.inl rfl))))).trans f15_9
  have f16_10 := (hE10 16 (Or.inr (Or.inr (Or.inl rfl)))).trans f16_9
  have f17_10 := (hE10 17 (Or.inr (Or.inl rfl))).trans f17_9
  have f18_10 := (hE10 18 (Or.inl rfl)).trans f18_9
  have a0_10 : A10 0 = A 0 := (hA10 0 (Or.inr (Or.inr (Or.inr (Or.inr (Or.inr (Or.inr (Or.inr (Or.inr (Or.inr (Or.inr (Or.inr (Or.inr (Or.inr (Or.inr (Or.inr hD0)))))))))))))))).trans a0_8
  have a1_10 : A10 1 = A1 1 := (hA10 1 (Or.inr (Or.inr (Or.inr (Or.inr (Or.inr (Or.inr (Or.inr (Or.inr (Or.inr (Or.inr (Or.inr (Or.inr (Or.inr (Or.inr (Or.inl rfl)))))))))))))))).trans a1_8
  have a2_10 : A10 2 = A4 2 := (hA10 2 (Or.inr (Or.inr (Or.inr (Or.inr (Or.inr (Or.inr (Or.inr (Or.inr (Or.inr (Or.inr (Or.inr (Or.inl rfl))))))))))))).trans a2_8
  have a3_10 : A10 3 = A7 3 := (hA10 3 (Or.inr (Or.inr (Or.inr (Or.inr (Or.inr (Or.inr (Or.inl rfl)))))))).trans a3_8
  have cA10 : ∀ j, D j → A10 j = A j := fun j hj => (hA10 j (Or.inr (Or.inr (Or.inr (Or.inr (Or.inr (Or.inr (Or.inr (Or.inr (Or.inr (Or.inr (Or.inr (Or.inr (Or.inr (Or.inr (Or.inr hj)))))))))))))))).trans (cA9 j hj)
  have cE10 : ∀ j, D j → j ≠ 0 → E10 j = E j := fun j hj hne => (hE10 j (Or.inr (Or.inr (Or.inr (Or.inr (Or.inr (Or.inr (Or.inr (Or.inr (Or.inr (Or.inr (Or.inr (Or.inr (Or.inr (Or.inr (Or.inr hj)))))))))))))))).trans (cE9 j hj hne)
  refine hk_dup dX6_init_41 rfl rfl ?_
  refine hk_callI (a := A10 4) dX6_init_42 rfl mi_X6_32 (ct_X1_init hfl hk10 (Or.inl rfl) hx10 (fun z => z.elim (by decide) (fun z => z.elim (by decide) (fun z => z.elim (by decide) (fun z => z.elim (by decide) (fun z => z.elim (by decide) (fun z => z.elim (by decide) (fun z => z.elim (by decide) (fun z => z.elim (by decide) (fun z => z.elim (by decide) (fun z => z.elim (by decide) (fun z => z.elim (by decide) (fun z => z.elim (by decide) (fun z => z.elim (by decide) (fun z => z.elim (by decide) (fun z => z.elim (by decide) (fun z => z.elim (by decide) hn19))))))))))))))))) rfl rfl (by decide) (by decide) (Nat.le_of_ble_eq_true rfl) (hk_kv ?_) hk_nx
  rintro _ ⟨A11, E11, hk11, hA11, hE11, hx11, hy19_11, rfl⟩
  have f0_11 := (hE11 0 (Or.inr (Or.inr (Or.inr (Or.inr (Or.inr (Or.inr (Or.inr (Or.inr (Or.inr (Or.inr (Or.inr (Or.inr (Or.inr (Or.inr (Or.inr (Or.inr hD0)))))))))))))))) (by decide)).trans f0_10
  rw [← hA11 1 (Or.inr (Or.inr (Or.inr (Or.inr (Or.inr (Or.inr (Or.inr (Or.inr (Or.inr (Or.inr (Or.inr (Or.inr (Or.inr (Or.inr (Or.inr (Or.inl rfl))))))))))))))))] at f0_11
  rw [← hA11 2 (Or.inr (Or.inr (Or.inr (Or.inr (Or.inr (Or.inr (Or.inr (Or.inr (Or.inr (Or.inr (Or.inr (Or.inr (Or.inl rfl)))))))))))))] at f0_11
  rw [← hA11 3 (Or.inr (Or.inr (Or.inr (Or.inr (Or.inr (Or.inr (Or.inr (Or.inl rfl))))))))] at f0_11
  have f1_11 := (hE11 1 (Or.inr (Or.inr (Or.inr (Or.inr (Or.inr (Or.inr (Or.inr (Or.inr (Or.inr (Or.inr (Or.inr (Or.inr (Or.inr (Or.inr (Or.inr (Or.inl rfl)))))))))))))))) (by decide)).trans f1_10
  rw [← hA11 7 (Or.inr (Or.inr (Or.inr (Or.inr (Or.inr (Or.inr (Or.inr (Or.inr (Or.inr (Or.inr (Or.inr (Or.inr (Or.inr (Or.inr (Or.inl rfl)))))))))))))))] at f1_11
  rw [← hA11 8 (Or.inr (Or.inr (Or.inr (Or.inr (Or.inr (Or.inr (Or.inr (Or.inr (Or.inr (Or.inr (Or.inr (Or.inr (Or.inr (Or.inl rfl))))))))))))))] at f1_11
  have f7_11 := (hE11 7 (Or.inr (Or.inr (Or.inr (Or.inr (Or.inr (Or.inr (Or.inr (Or.inr (Or.inr (Or.inr (Or.inr (Or.inr (Or.inr (Or.inr (Or.inl rfl))))))))))))))) (by decide)).trans f7_10
  have f8_11 := (hE11 8 (Or.inr (Or.inr (Or.inr (Or.inr (Or.inr (Or.inr (Or.inr (Or.inr (Or.inr (Or.inr (Or.inr (Or.inr (Or.inr (Or.inl rfl)))))))))))))) (by decide)).trans f8_10
  have f2_11 := (hE11 2 (Or.inr (Or.inr (Or.inr (Or.inr (Or.inr (Or.inr (Or.inr (Or.inr (Or.inr (Or.inr (Or.inr (Or.inr (Or.inl rfl))))))))))))) (by decide)).trans f2_10
  rw [← hA11 9 (Or.inr (Or.inr (Or.inr (Or.inr (Or.inr (Or.inr (Or.inr (Or.inr (Or.inr (Or.inr (Or.inr (Or.inl rfl))))))))))))] at f2_11
  rw [← hA11 10 (Or.inr (Or.inr (Or.inr (Or.inr (Or.inr (Or.inr (Or.inr (Or.inr (Or.inr (Or.inr (Or.inl rfl)))))))))))] at f2_11
  rw [← hA11 11 (Or.inr (Or.inr (Or.inr (Or.inr (Or.inr (Or.inr (Or.inr (Or.inr (Or.inr (Or.inl rfl))))))))))] at f2_11
  rw [← hA11 12 (Or.inr (Or.inr (Or.inr (Or.inr (Or.inr (Or.inr (Or.inr (Or.inr (Or.inl rfl)))))))))] at f2_11
  have f9_11 := (hE11 9 (Or.inr (Or.inr (Or.inr (Or.inr (Or.inr (Or.inr (Or.inr (Or.inr (Or.inr (Or.inr (Or.inr (Or.inl rfl)))))))))))) (by decide)).trans f9_10
  have f10_11 := (hE11 10 (Or.inr (Or.inr (Or.inr (Or.inr (Or.inr (Or.inr (Or.inr (Or.inr (Or.inr (Or.inr (Or.inl rfl))))))))))) (by decide)).trans f10_10
  have f11_11 := (hE11 11 (Or.inr (Or.inr (Or.inr (Or.inr (Or.inr (Or.inr (Or.inr (Or.inr (Or.inr (Or.inl rfl)))))))))) (by decide)).trans f11_10
  have f12_11 := (hE11 12 (Or.inr (Or.inr (Or.inr (Or.inr (Or.inr (Or.inr (Or.inr (Or.inr (Or.inl rfl))))))))) (by decide)).trans f12_10
  have f3_11 := (hE11 3 (Or.inr (Or.inr (Or.inr (Or.inr (Or.inr (Or.inr (Or.inr (Or.inl rfl)))))))) (by decide)).trans f3_10
  rw [← hA11 13 (Or.inr (Or.inr (Or.inr (Or.inr (Or.inr (Or.inr (Or.inl rfl)))))))] at f3_11
  rw [← hA11 14 (Or.inr (Or.inr (Or.inr (Or.inr (Or.inr (Or.inl rfl))))))] at f3_11
  rw [← hA11 15 (Or.inr (Or.inr (Or.inr (Or.inr (Or.inl rfl)))))] at f3_11
  rw [← hA11 16 (Or.inr (Or.inr (Or.inr (Or.inl rfl))))] at f3_11
  rw [← hA11 17 (Or.inr (Or.inr (Or.inl rfl)))] at f3_11
  rw [← hA11 18 (Or.inr (Or.inl rfl))] at f3_11
  have f13_11 := (hE11 13 (Or.inr (Or.inr (Or.inr (Or.inr (Or.inr (Or.inr (Or.inl rfl))))))) (by decide)).trans f13_10
  have f14_11 := (hE11 14 (Or.inr (Or.inr (Or.inr (Or.inr (Or.inr (Or.inl rfl)))))) (by decide)).trans f14_10
  have f15_11 := (hE11 15 (Or.inr (Or.inr (Or.inr (Or.inr (Or.inl rfl))))) (by decide)).trans f15_10
  have f16_11 := (hE11 16 (Or.inr (Or.inr (Or.inr (Or.inl rfl)))) (by decide)).trans f16_10
  have f17_11 := (hE11 17 (Or.inr (Or.inr (Or.inl rfl))) (by decide)).trans f17_10
  have f18_11 := (hE11 18 (Or.inr (Or.inl rfl)) (by decide)).trans f18_10
  have a0_11 : A11 0 = A 0 := (hA11 0 (Or.inr (Or.inr (Or.inr (Or.inr (Or.inr (Or.inr (Or.inr (Or.inr (Or.inr (Or.inr (Or.inr (Or.inr (Or.inr (Or.inr (Or.inr (Or.inr hD0))))))))))))))))).trans a0_10
  have a1_11 : A11 1 = A1 1 := (hA11 1 (Or.inr (Or.inr (Or.inr (Or.inr (Or.inr (Or.inr (Or.inr (Or.inr (Or.inr (Or.inr (Or.inr (Or.inr (Or.inr (Or.inr (Or.inr (Or.inl rfl))))))))))))))))).trans a1_10
  have a2_11 : A11 2 = A4 2 := (hA11 2 (Or.inr (Or.inr (Or.inr (Or.inr (Or.inr (Or.inr (Or.inr (Or.inr (Or.inr (Or.inr (Or.inr (Or.inr (Or.inl rfl)))))))))))))).trans a2_10
  have a3_11 : A11 3 = A7 3 := (hA11 3 (Or.inr (Or.inr (Or.inr (Or.inr (Or.inr (Or.inr (Or.inr (Or.inl rfl))))))))).trans a3_10
  have a4_11 : A11 4 = A10 4 := (hA11 4 (Or.inl rfl)).trans rfl
  have cA11 : ∀ j, D j → A11 j = A j := fun j hj => (hA11 j (Or.inr (Or.inr (Or.inr (Or.inr (Or.inr (Or.inr (Or.inr (Or.inr (Or.inr (Or.inr (Or.inr (Or.inr (Or.inr (Or.inr (Or.inr (Or.inr hj))))))))))))))))).trans (cA10 j hj)
  have cE11 : ∀ j, D j → j ≠ 0 → E11 j = E j := fun j hj hne => (hE11 j (Or.inr (Or.inr (Or.inr (Or.inr (Or.inr (Or.inr (Or.inr (Or.inr (Or.inr (Or.inr (Or.inr (Or.inr (Or.inr (Or.inr (Or.inr (Or.inr hj)))))))))))))))) (fun e => absurd (e ▸ hj) hn4)).trans (cE10 j hj hne)
  refine ca_putf 0 hk11 (Or.inr (Or.inr (Or.inr (Or.inr (Or.inr (Or.inr (Or.inr (Or.inr (Or.inr (Or.inr (Or.inr (Or.inr (Or.inr (Or.inr (Or.inr (Or.inr (Or.inr hD0))))))))))))))))) a0_11 f0_11 dX6_init_45 rfl (fw_X6_33 rfl rfl) rfl rfl (Nat.lt_of_lt_of_eq (by decide : 3 < 7) rfl) ?_
  intro E12 hE12 hx12
  have f1_12 := (hE12 1 (Or.inr (Or.inr (Or.inr (Or.inr (Or.inr (Or.inr (Or.inr (Or.inr (Or.inr (Or.inr (Or.inr (Or.inr (Or.inr (Or.inr (Or.inr (Or.inr (Or.inl rfl))))))))))))))))) (by decide)).trans f1_11
  have f7_12 := (hE12 7 (Or.inr (Or.inr (Or.inr (Or.inr (Or.inr (Or.inr (Or.inr (Or.inr (Or.inr (Or.inr (Or.inr (Or.inr (Or.inr (Or.inr (Or.inr (Or.inl rfl)))))))))))))))) (by decide)).trans f7_11
  have f8_12 := (hE12 8 (Or.inr (Or.inr (Or.inr (Or.inr (Or.inr (Or.inr (Or.inr (Or.inr (Or.inr (Or.inr (Or.inr (Or.inr (Or.inr (Or.inr (Or.inl rfl))))))))))))))) (by decide)).trans f8_11
  have f2_12 := (hE12 2 (Or.inr (Or.inr (Or.inr (Or.inr (Or.inr (Or.inr (Or.inr (Or.inr (Or.inr (Or.inr (Or.inr (Or.inr (Or.inr (Or.inl rfl)))))))))))))) (by decide)).trans f2_11
  have f9_12 := (hE12 9 (Or.inr (Or.inr (Or.inr (Or.inr (Or.inr (Or.inr (Or.inr (Or.inr (Or.inr (Or.inr (Or.inr (Or.inr (Or.inl rfl))))))))))))) (by decide)).trans f9_11
  have f10_12 := (hE12 10 (Or.inr (Or.inr (Or.inr (Or.inr (Or.inr (Or.inr (Or.inr (Or.inr (Or.inr (Or.inr (Or.inr (Or.inl rfl)))))))))))) (by decide)).trans f10_11
  have f11_12 := (hE12 11 (Or.inr (Or.inr (Or.inr (Or.inr (Or.inr (Or.inr (Or.inr (Or.inr (Or.inr (Or.inr (Or.inl rfl))))))))))) (by decide)).trans f11_11
  have f12_12 := (hE12 12 (Or.inr (Or.inr (Or.inr (Or.inr (Or.inr (Or.inr (Or.inr (Or.inr (Or.inr (Or.inl rfl)))))))))) (by decide)).trans f12_11
  have f3_12 := (hE12 3 (Or.inr (Or.inr (Or.inr (Or.inr (Or.inr (Or.inr (Or.inr (Or.inr (Or.inl rfl))))))))) (by decide)).trans f3_11
  have f13_12 := (hE12 13 (Or.inr (Or.inr (Or.inr (Or.inr (Or.inr (Or.inr (Or.inr (Or.inl rfl)))))))) (by decide)).trans f13_11
  have f14_12 := (hE12 14 (Or.inr (Or.inr (Or.inr (Or.inr (Or.inr (Or.inr (Or.inl rfl))))))) (by decide)).trans f14_11
  have f15_12 := (hE12 15 (Or.inr (Or.inr (Or.inr (Or.inr (Or.inr (Or.inl rfl)))))) (by decide)).trans f15_11
  have f16_12 := (hE12 16 (Or.inr (Or.inr (Or.inr (Or.inr (Or.inl rfl))))) (by decide)).trans f16_11
  have f17_12 := (hE12 17 (Or.inr (Or.inr (Or.inr (Or.inl rfl)))) (by decide)).trans f17_11
  have f18_12 := (hE12 18 (Or.inr (Or.inr (Or.inl rfl))) (by decide)).trans f18_11
  have f4_12 := (hE12 4 (Or.inr (Or.inl rfl)) (by decide)).trans hx11
  have f19_12 := (hE12 19 (Or.inl rfl) (by decide)).trans hy19_11
  have cA12 := cA11
  have cE12 : ∀ j, D j → j ≠ 0 → E12 j = E j := fun j hj hne => (hE12 j (Or.inr (Or.inr (Or.inr (Or.inr (Or.inr (Or.inr (Or.inr (Or.inr (Or.inr (Or.inr (Or.inr (Or.inr (Or.inr (Or.inr (Or.inr (Or.inr (Or.inr hj))))))))))))))))) hne).trans (cE11 j hj hne)
  have hx12 : E12 0 = .inr (13, [.ref (A11 1), .ref (A11 2), .ref (A11 3), .ref (A11 4), .null, .null, .long 0]) := by rw [hx12, a4_11]; rfl
  refine hk_aload_n dX6_init_48 rfl rfl rfl ?_
  refine ca_new 5 hk11 (fun z => z.elim (by decide) (fun z => z.elim (by decide) (fun z => z.elim (by decide) (fun z => z.elim (by decide) (fun z => z.elim (by decide) (fun z => z.elim (by decide) (fun z => z.elim (by decide) (fun z => z.elim (by decide) (fun z => z.elim (by decide) (fun z => z.elim (by decide) (fun z => z.elim (by decide) (fun z => z.elim (by decide) (fun z => z.elim (by decide) (fun z => z.elim (by decide) (fun z => z.elim (by decide) (fun z => z.elim (by decide) (fun z => z.elim (by decide) hn5))))))))))))))))) dX6_init_49 rfl nw_X6_37 (by decide) ?_
  intro A13 E13 hA13 hE13 hx13 hk13
  have f0_13 := (hE13 0 (Or.inr (Or.inr (Or.inr (Or.inr (Or.inr (Or.inr (Or.inr (Or.inr (Or.inr (Or.inr (Or.inr (Or.inr (Or.inr (Or.inr (Or.inr (Or.inr (Or.inr hD0)))))))))))))))))).trans hx12
  rw [← hA13 1 (Or.inr (Or.inr (Or.inr (Or.inr (Or.inr (Or.inr (Or.inr (Or.inr (Or.inr (Or.inr (Or.inr (Or.inr (Or.inr (Or.inr (Or.inr (Or.inr (Or.inl rfl)))))))))))))))))] at f0_13
  rw [← hA13 2 (Or.inr (Or.inr (Or.inr (Or.inr (Or.inr (Or.inr (Or.inr (Or.inr (Or.inr (Or.inr (Or.inr (Or.inr (Or.inr (Or.inl rfl))))))))))))))] at f0_13
  rw [← hA13 3 (Or.inr (Or.inr (Or.inr (Or.inr (Or.inr (Or.inr (Or.inr (Or.inr (Or.inl rfl)))))))))] at f0_13
  rw [← hA13 4 (Or.inr (Or.inl rfl))] at f0_13
  have f1_13 := (hE13 1 (Or.inr (Or.inr (Or.inr (Or.inr (Or.inr (Or.inr (Or.inr (Or.inr (Or.inr (Or.inr (Or.inr (Or.inr (Or.inr (Or.inr (Or.inr (Or.inr (Or.inl rfl)))))))))))))))))).trans f1_12
  rw [← hA13 7 (Or.inr (Or.inr (Or.inr (Or.inr (Or.inr (Or.inr (Or.inr (Or.inr (Or.inr (Or.inr (Or.inr (Or.inr (Or.inr (Or.inr (Or.inr (Or.inl rfl))))))))))))))))] at f1_13
  rw [← hA13 8 (Or.inr (Or.inr (Or.inr (Or.inr (Or.inr (Or.inr (Or.inr (Or.inr (Or.inr (Or.inr (Or.inr (Or.inr (Or.inr (Or.inr (Or.inl rfl)))))))))))))))] at f1_13
  have f7_13 := (hE13 7 (Or.inr (Or.inr (Or.inr (Or.inr (Or.inr (Or.inr (Or.inr (Or.inr (Or.inr (Or.inr (Or.inr (Or.inr (Or.inr (Or.inr (Or.inr (Or.inl rfl))))))))))))))))).trans f7_12
  have f8_13 := (hE13 8 (Or.inr (Or.inr (Or.inr (Or.inr (Or.inr (Or.inr (Or.inr (Or.inr (Or.inr (Or.inr (Or.inr (Or.inr (Or.inr (Or.inr (Or.inl rfl)))))))))))))))).trans f8_12
  have f2_13 := (hE13 2 (Or.inr (Or.inr (Or.inr (Or.inr (Or.inr (Or.inr (Or.inr (Or.inr (Or.inr (Or.inr (Or.inr (Or.inr (Or.inr (Or.inl rfl))))))))))))))).trans f2_12
  rw [← hA13 9 (Or.inr (Or.inr (Or.inr (Or.inr (Or.inr (Or.inr (Or.inr (Or.inr (Or.inr (Or.inr (Or.inr (Or.inr (Or.inl rfl)))))))))))))] at f2_13
  rw [← hA13 10 (Or.inr (Or.inr (Or.inr (Or.inr (Or.inr (Or.inr (Or.inr (Or.inr (Or.inr (Or.inr (Or.inr (Or.inl rfl))))))))))))] at f2_13
  rw [← hA13 11 (Or.inr (Or.inr (Or.inr (Or.inr (Or.inr (Or.inr (Or.inr (Or.inr (Or.inr (Or.inr (Or.inl rfl)))))))))))] at f2_13
  rw [← hA13 12 (Or.inr (Or.inr (Or.inr (Or.inr (Or.inr (Or.inr (Or.inr (Or.inr (Or.inr (Or.inl rfl))))))))))] at f2_13
  have f9_13 := (hE13 9 (Or.inr (Or.inr (Or.inr (Or.inr (Or.inr (Or.inr (Or.inr (Or.inr (Or.inr (Or.inr (Or.inr (Or.inr (Or.inl rfl)))))))))))))).trans f9_12
  have f10_13 := (hE13 10 (Or.inr (Or.inr (Or.inr (Or.inr (Or.inr (Or.inr (Or.inr (Or.inr (Or.inr (Or.inr (Or.inr (Or.inl rfl))))))))))))).trans f10_12
  have f11_13 := (hE13 11 (Or.inr (Or.inr (Or.inr (Or.inr (Or.inr (Or.inr (Or.inr (Or.inr (Or.inr (Or.inr (Or.inl rfl)))))))))))).trans f11_12
  have f12_13 := (hE13 12 (Or.inr (Or.inr (Or.inr (Or.inr (Or.inr (Or.inr (Or.inr (Or.inr (Or.inr (Or.inl rfl))))))))))).trans f12_12
  have f3_13 := (hE13 3 (Or.inr (Or.inr (Or.inr (Or.inr (Or.inr (Or.inr (Or.inr (Or.inr (Or.inl rfl)))))))))).trans f3_12
  rw [← hA13 13 (Or.inr (Or.inr (Or.inr (Or.inr (Or.inr (Or.inr (Or.inr (Or.inl rfl))))))))] at f3_13
  rw [← hA13 14 (Or.inr (Or.inr (Or.inr (Or.inr (Or.inr (Or.inr (Or.inl rfl)))))))] at f3_13
  rw [← hA13 15 (Or.inr (Or.inr (Or.inr (Or.inr (Or.inr (Or.inl rfl))))))] at f3_13
  rw [← hA13 16 (Or.inr (Or.inr (Or.inr (Or.inr (Or.inl rfl)))))] at f3_13
  rw [← hA13 17 (Or.inr (Or.inr (Or.inr (Or.inl rfl))))] at f3_13
  rw [← hA13 18 (Or.inr (Or.inr (Or.inl rfl)))] at f3_13
  have f13_13 := (hE13 13 (Or.inr (Or.inr (Or.inr (Or.inr (Or.inr (Or.inr (Or.inr (Or.inl rfl))))))))).trans f13_12
  have f14_13 := (hE13 14 (Or.inr (Or.inr (Or.inr (Or.inr (Or.inr (Or.inr (Or.inl rfl)))))))).trans f14_12
  have f15_13 := (hE13 15 (Or.inr (Or.inr (Or.inr (Or.inr (Or.inr (Or.inl rfl))))))).trans f15_12
  have f16_13 := (hE13 16 (Or.inr (Or.inr (Or.inr (Or.inr (Or.inl rfl)))))).trans f16_12
  have f17_13 := (hE13 17 (Or.inr (Or.inr (Or.inr (Or.inl rfl))))).trans f17_12
  have f18_13 := (hE13 18 (Or.inr (Or.inr (Or.inl rfl)))).trans f18_12
  have f4_13 := (hE13 4 (Or.inr (Or.inl rfl))).trans f4_12
  rw [← hA13 19 (Or.inl rfl)] at f4_13
  have f19_13 := (hE13 19 (Or.inl rfl)).trans f19_12
  have a0_13 : A13 0 = A 0 := (hA13 0 (Or.inr (Or.inr (Or.inr (Or.inr (Or.inr (Or.inr (Or.inr (Or.inr (Or.inr (Or.inr (Or.inr (Or.inr (Or.inr (Or.inr (Or.inr (Or.inr (Or.inr hD0)))))))))))))))))).trans a0_11
  have a1_13 : A13 1 = A1 1 := (hA13 1 (Or.inr (Or.inr (Or.inr (Or.inr (Or.inr (Or.inr (Or.inr (Or.inr (Or.inr (Or.inr (Or.inr (Or.inr (Or.inr (Or.inr (Or.inr (Or.inr (Or.inl rfl)))))))))))))))))).trans a1_11
  have a2_13 : A13 2 = A4 2 := (hA13 2 (Or.inr (Or.inr (Or.inr (Or.inr (Or.inr (Or.inr (Or.inr (Or.inr (Or.inr (Or.inr (Or.inr (Or.inr (Or.inr (Or.inl rfl))))))))))))))).trans a2_11
  have a3_13 : A13 3 = A7 3 := (hA13 3 (Or.inr (Or.inr (Or.inr (Or.inr (Or.inr (Or.inr (Or.inr (Or.inr (Or.inl rfl)))))))))).trans a3_11
  have a4_13 : A13 4 = A10 4 := (hA13 4 (Or.inr (Or.inl rfl))).trans a4_11
  have cA13 : ∀ j, D j → A13 j = A j := fun j hj => (hA13 j (Or.inr (Or.inr (Or.inr (Or.inr (Or.inr (Or.inr (Or.inr (Or.inr (Or.inr (Or.inr (Or.inr (Or.inr (Or.inr (Or.inr (Or.inr (Or.inr (Or.inr hj)))))))))))))))))).trans (cA12 j hj)
  have cE13 : ∀ j, D j → j ≠ 0 → E13 j = E j := fun j hj hne => (hE13 j (Or.inr (Or.inr (Or.inr (Or.inr (Or.inr (Or.inr (Or.inr (Or.inr (Or.inr (Or.inr (Or.inr (Or.inr (Or.inr (Or.inr (Or.inr (Or.inr (Or.inr hj)))))))))))))))))).trans (cE12 j hj hne)
  refine hk_dup dX6_init_52 rfl rfl ?_
  refine hk_callI (a := A13 5) dX6_init_53 rfl mi_X6_39 (ct_X0_init hfl hk13 (Or.inl rfl) hx13 (fun z => z.elim (by decide) (fun z => z.elim (by decide) (fun z => z.elim (by decide) (fun z => z.elim (by decide) (fun z => z.elim (by decide) (fun z => z.elim (by decide) (fun z => z.elim (by decide) (fun z => z.elim (by decide) (fun z => z.elim (by decide) (fun z => z.elim (by decide) (fun z => z.elim (by decide) (fun z => z.elim (by decide) (fun z => z.elim (by decide) (fun z => z.elim (by decide) (fun z => z.elim (by decide) (fun z => z.elim (by decide) (fun z => z.elim (by decide) (fun z => z.elim (by decide) hn20)))))))))))))))))) (fun z => z.elim (by decide) (fun z => z.elim (by decide) (fun z => z.elim (by decide) (fun z => z.elim (by decide) (fun z => z.elim (by decide) (fun z => z.elim (by decide) (fun z => z.elim (by decide) (fun z => z.elim (by decide) (fun z => z.elim (by decide) (fun z => z.elim (by decide) (fun z => z.elim (by decide) (fun z => z.elim (by decide) (fun z => z.elim (by decide) (fun z => z.elim (by decide) (fun z => z.elim (by decide) (fun z => z.elim (by decide) (fun z => z.elim (by decide) (fun z => z.elim (by decide) hn21)))))))))))))))))) (fun z => z.elim (by decide) (fun z => z.elim (by decide) (fun z => z.elim (by decide) (fun z => z.elim (by decide) (fun z => z.elim (by decide) (fun z => z.elim (by decide) (fun z => z.elim (by decide) (fun z => z.elim (by decide) (fun z => z.elim (by decide) (fun z => z.elim (by decide) (fun z => z.elim (by decide) (fun z => z.elim (by decide) (fun z => z.elim (by decide) (fun z => z.elim (by decide) (fun z => z.elim (by decide) (fun z => z.elim (by decide) (fun z => z.elim (by decide) (fun z => z.elim (by decide) hn22)))))))))))))))))) (fun z => z.elim (by decide) (fun z => z.elim (by decide) (fun z => z.elim (by decide) (fun z => z.elim (by decide) (fun z => z.elim (by decide) (fun z => z.elim (by decide) (fun z => z.elim (by decide) (fun z => z.elim (by decide) (fun z => z.elim (by decide) (fun z => z.elim (by decide) (fun z => z.elim (by decide) (fun z => z.elim (by decide) (fun z => z.elim (by decide) (fun z => z.elim (by decide) (fun z => z.elim (by decide) (fun z => z.elim (by decide) (fun z => z.elim (by decide) (fun z => z.elim (by decide) hn23)))))))))))))))))) (fun z => z.elim (by decide) (fun z => z.elim (by decide) (fun z => z.elim (by decide) (fun z => z.elim (by decide) (fun z => z.elim (by decide) (fun z => z.elim (by decide) (fun z => z.elim (by decide) (fun z => z.elim (by decide) (fun z => z.elim (by decide) (fun z => z.elim (by decide) (fun z => z.elim (by decide) (fun z => z.elim (by decide) (fun z => z.elim (by decide) (fun z => z.elim (by decide) (fun z => z.elim (by decide) (fun z => z.elim (by decide) (fun z => z.elim (by decide) (fun z => z.elim (by decide) hn24)))))))))))))))))) (fun z => z.elim (by decide) (fun z => z.elim (by decide) (fun z => z.elim (by decide) (fun z => z.elim (by decide) (fun z => z.elim (by decide) (fun z => z.elim (by decide) (fun z => z.elim (by decide) (fun z => z.elim (by decide) (fun z => z.elim (by decide) (fun z => z.elim (by decide) (fun z => z.elim (by decide) (fun z => z.elim (by decide) (fun z => z.elim (by decide) (fun z => z.elim (by decide) (fun z => z.elim (by decide) (fun z => z.elim (by decide) (fun z => z.elim (by decide) (fun z => z.elim (by decide) hn25)))))))))))))))))) (fun z => z.elim (by decide) (fun z => z.elim (by decide) (fun z => z.elim (by decide) (fun z => z.elim (by decide) (fun z => z.elim (by decide) (fun z => z.elim (by decide) (fun z => z.elim (by decide) (fun z => z.elim (by decide) (fun z => z.elim (by decide) (fun z => z.elim (by decide) (fun z => z.elim (by decide) (fun z => z.elim (by decide) (fun z => z.elim (by decide) (fun z => z.elim (by decide) (fun z => z.elim (by decide) (fun z => z.elim (by decide) (fun z => z.elim (by decide) (fun z => z.elim (by decide) hn26))))))))))))))))))) rfl rfl (by decide) (by decide) (Nat.le_of_ble_eq_true rfl) (hk_kv ?_) hk_nx
  rintro _ ⟨A14, E14, hk14, hA14, hE14, hx14, hy20_14, hy21_14, hy22_14, hy23_14, hy24_14, hy25_14, hy26_14, rfl⟩
  have f0_14 := (hE14 0 (Or.inr (Or.inr (Or.inr (Or.inr (Or.inr (Or.inr (Or.inr (Or.inr (Or.inr (Or.inr (Or.inr (Or.inr (Or.inr (Or.inr (Or.inr (Or.inr (Or.inr (Or.inr hD0)))))))))))))))))) (by decide)).trans f0_13
  rw [← hA14 1 (Or.inr (Or.inr (Or.inr (Or.inr (Or.inr (Or.inr (Or.inr (Or.inr (Or.inr (Or.inr (Or.inr (Or.inr (Or.inr (Or.inr (Or.inr (Or.inr (Or.inr (Or.inl rfl))))))))))))))))))] at f0_14
  rw [← hA14 2 (Or.inr (Or.inr (Or.inr (Or.inr (Or.inr (Or.inr (Or.inr (Or.inr (Or.inr (Or.inr (Or.inr (Or.inr (Or.inr (Or.inr (Or.inl rfl)))))))))))))))] at f0_14
  rw [← hA14 3 (Or.inr (Or.inr (Or.inr (Or.inr (Or.inr (Or.inr (Or.inr (Or.inr (Or.inr (Or.inl rfl))))))))))] at f0_14
  rw [← hA14 4 (Or.inr (Or.inr (Or.inl rfl)))] at f0_14
  have f1_14 := (hE14 1 (Or.inr (Or.inr (Or.inr (Or.inr (Or.inr (Or.inr (Or.inr (Or.inr (Or.inr (Or.inr (Or.inr (Or.inr (Or.inr (Or.inr (Or.inr (Or.inr (Or.inr (Or.inl rfl)))))))))))))))))) (by decide)).trans f1_13
  rw [← hA14 7 (Or.inr (Or.inr (Or.inr (Or.inr (Or.inr (Or.inr (Or.inr (Or.inr (Or.inr (Or.inr (Or.inr (Or.inr (Or.inr (Or.inr (Or.inr (Or.inr (Or.inl rfl)))))))))))))))))] at f1_14
  rw [← hA14 8 (Or.inr (Or.inr (Or.inr (Or.inr (Or.inr (Or.inr (Or.inr (Or.inr (Or.inr (Or.inr (Or.inr (Or.inr (Or.inr (Or.inr (Or.inr (Or.inl rfl))))))))))))))))] at f1_14
  have f7_14 := (hE14 7 (Or.inr (Or.inr (Or.inr (Or.inr (Or.inr (Or.inr (Or.inr (Or.inr (Or.inr (Or.inr (Or.inr (Or.inr (Or.inr (Or.inr (Or.inr (Or.inr (Or.inl rfl))))))))))))))))) (by decide)).trans f7_13
  have f8_14 := (hE14 8 (Or.inr (Or.inr (Or.inr (Or.inr (Or.inr (Or.inr (Or.inr (Or.inr (Or.inr (Or.inr (Or.inr (Or.inr (Or.inr (Or.inr (Or.inr (Or.inl rfl)))))))))))))))) (by decide)).trans f8_13
  have f2_14 := (hE14 2 (Or.inr (Or.inr (Or.inr (Or.inr (Or.inr (Or.inr (Or.inr (Or.inr (Or.inr (Or.inr (Or.inr (Or.inr (Or.inr (Or.inr (Or.inl rfl))))))))))))))) (by decide)).trans f2_13
  rw [← hA14 9 (Or.inr (Or.inr (Or.inr (Or.inr (Or.inr (Or.inr (Or.inr (Or.inr (Or.inr (Or.inr (Or.inr (Or.inr (Or.inr (Or.inl rfl))))))))))))))] at f2_14
  rw [← hA14 10 (Or.inr (Or.inr (Or.inr (Or.inr (Or.inr (Or.inr (Or.inr (Or.inr (Or.inr (Or.inr (Or.inr (Or.inr (Or.inl rfl)))))))))))))] at f2_14
  rw [← hA14 11 (Or.inr (Or.inr (Or.inr (Or.inr (Or.inr (Or.inr (Or.inr (Or.inr (Or.inr (Or.inr (Or.inr (Or.inl rfl))))))))))))] at f2_14
  rw [← hA14 12 (Or.inr (Or.inr (Or.inr (Or.inr (Or.inr (Or.inr (Or.inr (Or.inr (Or.inr (Or.inr (Or.inl rfl)))))))))))] at f2_14
  have f9_14 := (hE14 9 (Or.inr (Or.inr (Or.inr (Or.inr (Or.inr (Or.inr (Or.inr (Or.inr (Or.inr (Or.inr (Or.inr (Or.inr (Or.inr (Or.inl rfl)))))))))))))) (by decide)).trans f9_13
  have f10_14 := (hE14 10 (Or.inr (Or.inr (Or.inr (Or.inr (Or.inr (Or.inr (Or.inr (Or.inr (Or.inr (Or.inr (Or.inr (Or.inr (Or.inl rfl))))))))))))) (by decide)).trans f10_13
  have f11_14 := (hE14 11 (Or.inr (Or.inr (Or.inr (Or.inr (Or.inr (Or.inr (Or.inr (Or.inr (Or.inr (Or.inr (Or.inr (Or.inl rfl)))))))))))) (by decide)).trans f11_13
  have f12_14 := (hE14 12 (Or.inr (Or.inr (Or.inr (Or.inr (Or.inr (Or.inr (Or.inr (Or.inr (Or.inr (Or.inr (Or.inl rfl))))))))))) (by decide)).trans f12_13
  have f3_14 := (hE14 3 (Or.inr (Or.inr (Or.inr (Or.inr (Or.inr (Or.inr (Or.inr (Or.inr (Or.inr (Or.inl rfl)))))))))) (by decide)).trans f3_13
  rw [← hA14 13 (Or.inr (Or.inr (Or.inr (Or.inr (Or.inr (Or.inr (Or.inr (Or.inr (Or.inl rfl)))))))))] at f3_14
  rw [← hA14 14 (Or.inr (Or.inr (Or.inr (Or.inr (Or.inr (Or.inr (Or.inr (Or.inl rfl))))))))] at f3_14
  rw [← hA14 15 (Or.inr (Or.inr (Or.inr (Or.inr (Or.inr (Or.inr (Or.inl rfl)))))))] at f3_14
  rw [← hA14 16 (Or.inr (Or.inr (Or.inr (Or.inr (Or.inr (Or.inl rfl))))))] at f3_14
  rw [← hA14 17 (Or.inr (Or.inr (Or.inr (Or.inr (Or.inl rfl)))))] at f3_14
  rw [← hA14 18 (Or.inr (Or.inr (Or.inr (Or.inl rfl))))] at f3_14
  have f13_14 := (hE14 13 (Or.inr (Or.inr (Or.inr (Or.inr (Or.inr (Or.inr (Or.inr (Or.inr (Or.inl rfl))))))))) (by decide)).trans f13_13
  have f14_14 := (hE14 14 (Or.inr (Or.inr (Or.inr (Or.inr (Or.inr (Or.inr (Or.inr (Or.inl rfl)))))))) (by decide)).trans f14_13
  have f15_14 := (hE14 15 (Or.inr (Or.inr (Or.inr (Or.inr (Or.inr (Or.inr (Or.inl rfl))))))) (by decide)).trans f15_13
  have f16_14 := (hE14 16 (Or.inr (Or.inr (Or.inr (Or.inr (Or.inr (Or.inl rfl)))))) (by decide)).trans f16_13
  have f17_14 := (hE14 17 (Or.inr (Or.inr (Or.inr (Or.inr (Or.inl rfl))))) (by decide)).trans f17_13
  have f18_14 := (hE14 18 (Or.inr (Or.inr (Or.inr (Or.inl rfl)))) (by decide)).trans f18_13
  have f4_14 := (hE14 4 (Or.inr (Or.inr (Or.inl rfl))) (by decide)).trans f4_13
  rw [← hA14 19 (Or.inr (Or.inl rfl))] at f4_14
  have f19_14 := (hE14 19 (Or.inr (Or.inl rfl)) (by decide)).trans f19_13
  have a0_14 : A14 0 = A 0 := (hA14 0 (Or.inr (Or.inr (Or.inr (Or.inr (Or.inr (Or.inr (Or.inr (Or.inr (Or.inr (Or.inr (Or.inr (Or.inr (Or.inr (Or.inr (Or.inr (Or.inr (Or.inr (Or.inr hD0))))))))))))))))))).trans a0_13
  have a1_14 : A14 1 = A1 1 := (hA14 1 (Or.inr (Or.inr (Or.inr (Or.inr (Or.inr (Or.inr (Or.inr (Or.inr (Or.inr (Or.inr (Or.inr (Or.inr (Or.inr (Or.inr (Or.inr (Or.inr (Or.inr (Or.inl rfl))))))))))))))))))).trans a1_13
  have a2_14 : A14 2 = A4 2 := (hA14 2 (Or.inr (Or.inr (Or.inr (Or.inr (Or.inr (Or.inr (Or.inr (Or.inr (Or.inr (Or.inr (Or.inr (Or.inr (Or.inr (Or.inr (Or.inl rfl)))))))))))))))).trans a2_13
  have a3_14 : A14 3 = A7 3 := (hA14 3 (Or.inr (Or.inr (Or.inr (Or.inr (Or.inr (Or.inr (Or.inr (Or.inr (Or.inr (Or.inl rfl))))))))))).trans a3_13
  have a4_14 : A14 4 = A10 4 := (hA14 4 (Or.inr (Or.inr (Or.inl rfl)))).trans a4_13
  have a5_14 : A14 5 = A13 5 := (hA14 5 (Or.inl rfl)).trans rfl
  have cA14 : ∀ j, D j → A14 j = A j := fun j hj => (hA14 j (Or.inr (Or.inr (Or.inr (Or.inr (Or.inr (Or.inr (Or.inr (Or.inr (Or.inr (Or.inr (Or.inr (Or.inr (Or.inr (Or.inr (Or.inr (Or.inr (Or.inr (Or.inr hj))))))))))))))))))).trans (cA13 j hj)
  have cE14 : ∀ j, D j → j ≠ 0 → E14 j = E j := fun j hj hne => (hE14 j (Or.inr (Or.inr (Or.inr (Or.inr (Or.inr (Or.inr (Or.inr (Or.inr (Or.inr (Or.inr (Or.inr (Or.inr (Or.inr (Or.inr (Or.inr (Or.inr (Or.inr (Or.inr hj)))))))))))))))))) (fun e => absurd (e ▸ hj) hn5)).trans (cE13 j hj hne)
  refine ca_putf 0 hk14 (Or.inr (Or.inr (Or.inr (Or.inr (Or.inr (Or.inr (Or.inr (Or.inr (Or.inr (Or.inr (Or.inr (Or.inr (Or.inr (Or.inr (Or.inr (Or.inr (Or.inr (Or.inr (Or.inr (Or.inr (Or.inr (Or.inr (Or.inr (Or.inr (Or.inr hD0))))))))))))))))))))))))) a0_14 f0_14 dX6_init_56 rfl (fw_X6_40 rfl rfl) rfl rfl (Nat.lt_of_lt_of_eq (by decide : 4 < 7) rfl) ?_
  intro E15 hE15 hx15
  have f1_15 := (hE15 1 (Or.inr (Or.inr (Or.inr (Or.inr (Or.inr (Or.inr (Or.inr (Or.inr (Or.inr (Or.inr (Or.inr (Or.inr (Or.inr (Or.inr (Or.inr (Or.inr (Or.inr (Or.inr (Or.inr (Or.inr (Or.inr (Or.inr (Or.inr (Or.inr (Or.inl rfl))))))))))))))))))))))))) (by decide)).trans f1_14
  have f7_15 := (hE15 7 (Or.inr (Or.inr (Or.inr (Or.inr (Or.inr (Or.inr (Or.inr (Or.inr (Or.inr (Or.inr (Or.inr (Or.inr (Or.inr (Or.inr (Or.inr (Or.inr (Or.inr (Or.inr (Or.inr (Or.inr (Or.inr (Or.inr (Or.inr (Or.inl rfl)))))))))))))))))))))))) (by decide)).trans f7_14
  have f8_15 := (hE15 8 (Or.inr (Or.inr (Or.inr (Or.inr (Or.inr (Or.inr (Or.inr (Or.inr (Or.inr (Or.inr (Or.inr (Or.inr (Or.inr (Or.inr (Or.inr (Or.inr (Or.inr (Or.inr (Or.inr (Or.inr (Or.inr (Or.inr (Or.inl rfl))))))))))))))))))))))) (by decide)).trans f8_14
  have f2_15 := (hE15 2 (Or.inr (Or.inr (Or.inr (Or.inr (Or.inr (Or.inr (Or.inr (Or.inr (Or.inr (Or.inr (Or.inr (Or.inr (Or.inr (Or.inr (Or.inr (Or.inr (Or.inr (Or.inr (Or.inr (Or.inr (Or.inr (Or.inl rfl)))))))))))))))))))))) (by decide)).trans f2_14
  have f9_15 := (hE15 9 (Or.inr (Or.inr (Or.inr (Or.inr (Or.inr (Or.inr (Or.inr (Or.inr (Or.inr (Or.inr (Or.inr (Or.inr (Or.inr (Or.inr (Or.inr (Or.inr (Or.inr (Or.inr (Or.inr (Or.inr (Or.inl rfl))))))))))))))))))))) (by decide)).trans f9_14
  have f10_15 := (hE15 10 (Or.inr (Or.inr (Or.inr (Or.inr (Or.inr (Or.inr (Or.inr (Or.inr (Or.inr (Or.inr (Or.inr (Or.inr (Or.inr (Or.inr (Or.inr (Or.inr (Or.inr (Or.inr (Or.inr (Or.inl rfl)))))))))))))))))))) (by decide)).trans f10_14
  have f11_15 := (hE15 11 (Or.inr (Or.inr (Or.inr (Or.inr (Or.inr (Or.inr (Or.inr (Or.inr (Or.inr (Or.inr (Or.inr (Or.inr (Or.inr (Or.inr (Or.inr (Or.inr (Or.inr (Or.inr (Or.inl rfl))))))))))))))))))) (by decide)).trans f11_14
  have f12_15 := (hE15 12 (Or.inr (Or.inr (Or.inr (Or.inr (Or.inr (Or.inr (Or.inr (Or.inr (Or.inr (Or.inr (Or.inr (Or.inr (Or.inr (Or.inr (Or.inr (Or.inr (Or.inr (Or.inl rfl)))))))))))))))))) (by decide)).trans f12_14
  have f3_15 := (hE15 3 (Or.inr (Or.inr (Or.inr (Or.inr (Or.inr (Or.inr (Or.inr (Or.inr (Or.inr (Or.inr (Or.inr (Or.inr (Or.inr (Or.inr (Or.inr (Or.inr (Or.inl rfl))))))))))))))))) (by decide)).trans f3_14
  have f13_15 := (hE15 13 (Or.inr (Or.inr (Or.inr (Or.inr (Or.inr (Or.inr (Or.inr (Or.inr (Or.inr (Or.inr (Or.inr (Or.inr (Or.inr (Or.inr (Or.inr (Or.inl rfl)))))))))))))))) (by decide)).trans f13_14
  have f14_15 := (hE15 14 (Or.inr (Or.inr (Or.inr (Or.inr (Or.inr (Or.inr (Or.inr (Or.inr (Or.inr (Or.inr (Or.inr (Or.inr (Or.inr (Or.inr (Or.inl rfl))))))))))))))) (by decide)).trans f14_14
  have f15_15 := (hE15 15 (Or.inr (Or.inr (Or.inr (Or.inr (Or.inr (Or.inr (Or.inr (Or.inr (Or.inr (Or.inr (Or.inr (Or.inr (Or.inr (Or.inl rfl)))))))))))))) (by decide)).trans f15_14
  have f16_15 := (hE15 16 (Or.inr (Or.inr (Or.inr (Or.inr (Or.inr (Or.inr (Or.inr (Or.inr (Or.inr (Or.inr (Or.inr (Or.inr (Or.inl rfl))))))))))))) (by decide)).trans f16_14
  have f17_15 := (hE15 17 (Or.inr (Or.inr (Or.inr (Or.inr (Or.inr (Or.inr (Or.inr (Or.inr (Or.inr (Or.inr (Or.inr (Or.inl rfl)))))))))))) (by decide)).trans f17_14
  have f18_15 := (hE15 18 (Or.inr (Or.inr (Or.inr (Or.inr (Or.inr (Or.inr (Or.inr (Or.inr (Or.inr (Or.inr (Or.inl rfl))))))))))) (by decide)).trans f18_14
  have f4_15 := (hE15 4 (Or.inr (Or.inr (Or.inr (Or.inr (Or.inr (Or.inr (Or.inr (Or.inr (Or.inr (Or.inl rfl)))))))))) (by decide)).trans f4_14
  have f19_15 := (hE15 19 (Or.inr (Or.inr (Or.inr (Or.inr (Or.inr (Or.inr (Or.inr (Or.inr (Or.inl rfl))))))))) (by decide)).trans f19_14
  have f5_15 := (hE15 5 (Or.inr (Or.inr (Or.inr (Or.inr (Or.inr (Or.inr (Or.inr (Or.inl rfl)))))))) (by decide)).trans hx14
  have f20_15 := (hE15 20 (Or.inr (Or.inr (Or.inr (Or.inr (Or.inr (Or.inr (Or.inl rfl))))))) (by decide)).trans hy20_14
  have f21_15 := (hE15 21 (Or.inr (Or.inr (Or.inr (Or.inr (Or.inr (Or.inl rfl)))))) (by decide)).trans hy21_14
  have f22_15 := (hE15 22 (Or.inr (Or.inr (Or.inr (Or.inr (Or.inl rfl))))) (by decide)).trans hy22_14
  have f23_15 := (hE15 23 (Or.inr (Or.inr (Or.inr (Or.inl rfl)))) (by decide)).trans hy23_14
  have f24_15 := (hE15 24 (Or.inr (Or.inr (Or.inl rfl))) (by decide)).trans hy24_14
  have f25_15 := (hE15 25 (Or.inr (Or.inl rfl)) (by decide)).trans hy25_14
  have f26_15 := (hE15 26 (Or.inl rfl) (by decide)).trans hy26_14
  have cA15 := cA14
  have cE15 : ∀ j, D j → j ≠ 0 → E15 j = E j := fun j hj hne => (hE15 j (Or.inr (Or.inr (Or.inr (Or.inr (Or.inr (Or.inr (Or.inr (Or.inr (Or.inr (Or.inr (Or.inr (Or.inr (Or.inr (Or.inr (Or.inr (Or.inr (Or.inr (Or.inr (Or.inr (Or.inr (Or.inr (Or.inr (Or.inr (Or.inr (Or.inr hj))))))))))))))))))))))))) hne).trans (cE14 j hj hne)
  have hx15 : E15 0 = .inr (13, [.ref (A14 1), .ref (A14 2), .ref (A14 3), .ref (A14 4), .ref (A14 5), .null, .long 0]) := by rw [hx15, a5_14]; rfl
  refine hk_aload_n dX6_init_59 rfl rfl rfl ?_
  refine ca_new 6 hk14 (fun z => z.elim (by decide) (fun z => z.elim (by decide) (fun z => z.elim (by decide) (fun z => z.elim (by decide) (fun z => z.elim (by decide) (fun z => z.elim (by decide) (fun z => z.elim (by decide) (fun z => z.elim (by decide) (fun z => z.elim (by decide) (fun z => z.elim (by decide) (fun z => z.elim (by decide) (fun z => z.elim (by decide) (fun z => z.elim (by decide) (fun z => z.elim (by decide) (fun z => z.elim (by decide) (fun z => z.elim (by decide) (fun z => z.elim (by decide) (fun z => z.elim (by decide) (fun z => z.elim (by decide) (fun z => z.elim (by decide) (fun z => z.elim (by decide) (fun z => z.elim (by decide) (fun z => z.elim (by decide) (fun z => z.elim (by decide) (fun z => z.elim (by decide) hn6))))))))))))))))))))))))) dX6_init_60 rfl nw_X6_44 (by decide) ?_
  intro A16 E16 hA16 hE16 hx16 hk16
  have f0_16 := (hE16 0 (Or.inr (Or.inr (Or.inr (Or.inr (Or.inr (Or.inr (Or.inr (Or.inr (Or.inr (Or.inr (Or.inr (Or.inr (Or.inr (Or.inr (Or.inr (Or.inr (Or.inr (Or.inr (Or.inr (Or.inr (Or.inr (Or.inr (Or.inr (Or.inr (Or.inr hD0)))))))))))))))))))))))))).trans hx15
  rw [← hA16 1 (Or.inr (Or.inr (Or.inr (Or.inr (Or.inr (Or.inr (Or.inr (Or.inr (Or.inr (Or.inr (Or.inr (Or.inr (Or.inr (Or.inr (Or.inr (Or.inr (Or.inr (Or.inr (Or.inr (Or.inr (Or.inr (Or.inr (Or.inr (Or.inr (Or.inl rfl)))))))))))))))))))))))))] at f0_16
  rw [← hA16 2 (Or.inr (Or.inr (Or.inr (Or.inr (Or.inr (Or.inr (Or.inr (Or.inr (Or.inr (Or.inr (Or.inr (Or.inr (Or.inr (Or.inr (Or.inr (Or.inr (Or.inr (Or.inr (Or.inr (Or.inr (Or.inr (Or.inl rfl))))))))))))))))))))))] at f0_16
  rw [← hA16 3 (Or.inr (Or.inr (Or.inr (Or.inr (Or.inr (Or.inr (Or.inr (Or.inr (Or.inr (Or.inr (Or.inr (Or.inr (Or.inr (Or.inr (Or.inr (Or.inr (Or.inl rfl)))))))))))))))))] at f0_16
  rw [← hA16 4 (Or.inr (Or.inr (Or.inr (Or.inr (Or.inr (Or.inr (Or.inr (Or.inr (Or.inr (Or.inl rfl))))))))))] at f0_16
  rw [← hA16 5 (Or.inr (Or.inr (Or.inr (Or.inr (Or.inr (Or.inr (Or.inr (Or.inl rfl))))))))] at f0_16
  have f1_16 := (hE16 1 (Or.inr (Or.inr (Or.inr (Or.inr (Or.inr (Or.inr (Or.inr (Or.inr (Or.inr (Or.inr (Or.inr (Or.inr (Or.inr (Or.inr (Or.inr (Or.inr (Or.inr (Or.inr (Or.inr (Or.inr (Or.inr (Or.inr (Or.inr (Or.inr (Or.inl rfl)))))))))))))))))))))))))).trans f1_15
  rw [← hA16 7 (Or.inr (Or.inr (Or.inr (Or.inr (Or.inr (Or.inr (Or.inr (Or.inr (Or.inr (Or.inr (Or.inr (Or.inr (Or.inr (Or.inr (Or.inr (Or.inr (Or.inr (Or.inr (Or.inr (Or.inr (Or.inr (Or.inr (Or.inr (Or.inl rfl))))))))))))))))))))))))] at f1_16
  rw [← hA16 8 (Or.inr (Or.inr (Or.inr (Or.inr (Or.inr (Or.inr (Or.inr (Or.inr (Or.inr (Or.inr (Or.inr (Or.inr (Or.inr (Or.inr (Or.inr (Or.inr (Or.inr (Or.inr (Or.inr (Or.inr (Or.inr (Or.inr (Or.inl rfl)))))))))))))))))))))))] at f1_16
  have f7_16 := (hE16 7 (Or.inr (Or.inr (Or.inr (Or.inr (Or.inr (Or.inr (Or.inr (Or.inr (Or.inr (Or.inr (Or.inr (Or.inr (Or.inr (Or.inr (Or.inr (Or.inr (Or.inr (Or.inr (Or.inr (Or.inr (Or.inr (Or.inr (Or.inr (Or.inl rfl))))))))))))))))))))))))).trans f7_15
  have f8_16 := (hE16 8 (Or.inr (Or.inr (Or.inr (Or.inr (Or.inr (Or.inr (Or.inr (Or.inr (Or.inr (Or.inr (Or.inr (Or.inr (Or.inr (Or.inr (Or.inr (Or.inr (Or.inr (Or.inr (Or.inr (Or.inr (Or.inr (Or.inr (Or.inl rfl)))))))))))))))))))))))).trans f8_15
  have f2_16 := (hE16 2 (Or.inr (Or.inr (Or.inr (Or.inr (Or.inr (Or.inr (Or.inr (Or.inr (Or.inr (Or.inr (Or.inr (Or.inr (Or.inr (Or.inr (Or.inr (Or.inr (Or.inr (Or.inr (Or.inr (Or.inr (Or.inr (Or.inl rfl))))))))))))))))))))))).trans f2_15
  rw [← hA16 9 (Or.inr (Or.inr (Or.inr (Or.inr (Or.inr (Or.inr (Or.inr (Or.inr (Or.inr (Or.inr (Or.inr (Or.inr (Or.inr (Or.inr (Or.inr (Or.inr (Or.inr (Or.inr (Or.inr (Or.inr (Or.inl rfl)))))))))))))))))))))] at f2_16
  rw [← hA16 10 (Or.inr (Or.inr (Or.inr (Or.inr (Or.inr (Or.inr (Or.inr (Or.inr (Or.inr (Or.inr (Or.inr (Or.inr (Or.inr (Or.inr (Or.inr (Or.inr (Or.inr (Or.inr (Or.inr (Or.inl rfl))))))))))))))))))))] at f2_16
  rw [← hA16 11 (Or.inr (Or.inr (Or.inr (Or.inr (Or.inr (Or.inr (Or.inr (Or.inr (Or.inr (Or.inr (Or.inr (Or.inr (Or.inr (Or.inr (Or.inr (Or.inr (Or.inr (Or.inr (Or.inl rfl)))))))))))))))))))] at f2_16
  rw [← hA16 12 (Or.inr (Or.inr (Or.inr (Or.inr (Or.inr (Or.inr (Or.inr (Or.inr (Or.inr (Or.inr (Or.inr (Or.inr (Or.inr (Or.inr (Or.inr (Or.inr (Or.inr (Or.inl rfl))))))))))))))))))] at f2_16
  have f9_16 := (hE16 9 (Or.inr (Or.inr (Or.inr (Or.inr (Or.inr (Or.inr (Or.inr (Or.inr (Or.inr (Or.inr (Or.inr (Or.inr (Or.inr (Or.inr (Or.inr (Or.inr (Or.inr (Or.inr (Or.inr (Or.inr (Or.inl rfl)))))))))))))))))))))).trans f9_15
  have f10_16 := (hE16 10 (Or.inr (Or.inr (Or.inr (Or.inr (Or.inr (Or.inr (Or.inr (Or.inr (Or.inr (Or.inr (Or.inr (Or.inr (Or.inr (Or.inr (Or.inr (Or.inr (Or.inr (Or.inr (Or.inr (Or.inl rfl))))))))))))))))))))).trans f10_15
  have f11_16 := (hE16 11 (Or.inr (Or.inr (Or.inr (Or.inr (Or.inr (Or.inr (Or.inr (Or.inr (Or.inr (Or.inr (Or.inr (Or.inr (Or.inr (Or.inr (Or.inr (Or.inr (Or.inr (Or.inr (Or.inl rfl)))))))))))))))))))).trans f11_15
  have f12_16 := (hE16 12 (Or.inr (Or.inr (Or.inr (Or.inr (Or.inr (Or.inr (Or.inr (Or.inr (Or.inr (Or.inr (Or.inr (Or.inr (Or.inr (Or.inr (Or.inr (Or.inr (Or.inr (Or.inl rfl))))))))))))))))))).trans f12_15
  have f3_16 := (hE16 3 (Or.inr (Or.inr (Or.inr (Or.inr (Or.inr (Or.inr (Or.inr (Or.inr (Or.inr (Or.inr (Or.inr (Or.inr (Or.inr (Or.inr (Or.inr (Or.inr (Or.inl rfl)))))))))))))))))).trans f3_15
  rw [← hA16 13 (Or.inr (Or.inr (Or.inr (Or.inr (Or.inr (Or.inr (Or.inr (Or.inr (Or.inr (Or.inr (Or.inr (Or.inr (Or.inr (Or.inr (Or.inr (Or.inl rfl))))))))))))))))] at f3_16
  rw [← hA16 14 (Or.inr (Or.inr (Or.inr (Or.inr (Or.inr (Or.inr (Or.inr (Or.inr (Or.inr (Or.inr (Or.inr (Or.inr (Or.inr (Or.inr (Or.inl rfl)))))))))))))))] at f3_16
  rw [← hA16 15 (Or.inr (Or.inr (Or.inr (Or.inr (Or.inr (Or.inr (Or.inr (Or.inr (Or.inr (Or.inr (Or.inr (Or.inr (Or.inr (Or.inl rfl))))))))))))))] at f3_16
  rw [← hA16 16 (Or.inr (Or.inr (Or.inr (Or.inr (Or.inr (Or.inr (Or.inr (Or.inr (Or.inr (Or.inr (Or.inr (Or.inr (Or.inl rfl)))))))))))))] at f3_16
  rw [← hA16 17 (Or.inr (Or.inr (Or.inr (Or.inr (Or.inr (Or.inr (Or.inr (Or.inr (Or.inr (Or.inr (Or.inr (Or.inl rfl))))))))))))] at f3_16
  rw [← hA16 18 (Or.inr (Or.inr (Or.inr (Or.inr (Or.inr (Or.inr (Or.inr (Or.inr (Or.inr (Or.inr (Or.inl rfl)))))))))))] at f3_16
  have f13_16 := (hE16 13 (Or.inr (Or.inr (Or.inr (Or.inr (Or.inr (Or.inr (Or.inr (Or.inr (Or.inr (Or.inr (Or.inr (Or.inr (Or.inr (Or.inr (Or.inr (Or.inl rfl))))))))))))))))).trans f13_15
  have f14_16 := (hE16 14 (Or.inr (Or.inr (Or.inr (Or.inr (Or.inr (Or.inr (Or.inr (Or.inr (Or.inr (Or.inr (Or.inr (Or.inr (Or.inr (Or.inr (Or.inl rfl)))))))))))))))).trans f14_15
  have f15_16 := (hE16 15 (Or.inr (Or.inr (Or.inr (Or.inr (Or.inr (Or.inr (Or.inr (Or.inr (Or.inr (Or.inr (Or.inr (Or.inr (Or.inr (Or.inl rfl))))))))))))))).trans f15_15
  have f16_16 := (hE16 16 (Or.inr (Or.inr (Or.inr (Or.inr (Or.inr (Or.inr (Or.inr (Or.inr (Or.inr (Or.inr (Or.inr (Or.inr (Or.inl rfl)))))))))))))).trans f16_15
  have f17_16 := (hE16 17 (Or.inr (Or.inr (Or.inr (Or.inr (Or.inr (Or.inr (Or.inr (Or.inr (Or.inr (Or.inr (Or.inr (Or.inl rfl))))))))))))).trans f17_15
  have f18_16 := (hE16 18 (Or.inr (Or.inr (Or.inr (Or.inr (Or.inr (Or.inr (Or.inr (Or.inr (Or.inr (Or.inr (Or.inl rfl)))))))))))).trans f18_15
  have f4_16 := (hE16 4 (Or.inr (Or.inr (Or.inr (Or.inr (Or.inr (Or.inr (Or.inr (Or.inr (Or.inr (Or.inl rfl))))))))))).trans f4_15
  rw [← hA16 19 (Or.inr (Or.inr (Or.inr (Or.inr (Or.inr (Or.inr (Or.inr (Or.inr (Or.inl rfl)))))))))] at f4_16
  have f19_16 := (hE16 19 (Or.inr (Or.inr (Or.inr (Or.inr (Or.inr (Or.inr (Or.inr (Or.inr (Or.inl rfl)))))))))).trans f19_15
  have f5_16 := (hE16 5 (Or.inr (Or.inr (Or.inr (Or.inr (Or.inr (Or.inr (Or.inr (Or.inl rfl))))))))).trans f5_15
  rw [← hA16 20 (Or.inr (Or.inr (Or.inr (Or.inr (Or.inr (Or.inr (Or.inl rfl)))))))] at f5_16
  rw [← hA16 21 (Or.inr (Or.inr (Or.inr (Or.inr (Or.inr (Or.inl rfl))))))] at f5_16
  rw [← hA16 22 (Or.inr (Or.inr (Or.inr (Or.inr (Or.inl rfl)))))] at f5_16
  rw [← hA16 23 (Or.inr (Or.inr (Or.inr (Or.inl rfl))))] at f5_16
  rw [← hA16 24 (Or.inr (Or.inr (Or.inl rfl)))] at f5_16
  rw [← hA16 25 (Or.inr (Or.inl rfl))] at f5_16
  rw [← hA16 26 (Or.inl rfl)] at f5_16
  have f20_16 := (hE16 20 (Or.inr (Or.inr (Or.inr (Or.inr (Or.inr (Or.inr (Or.inl rfl)))))))).trans f20_15
  have f21_16 := (hE16 21 (Or.inr (Or.inr (Or.inr (Or.inr (Or.inr (Or.inl rfl))))))).trans f21_15
  have f22_16 := (hE16 22 (Or.inr (Or.inr (Or.inr (Or.inr (Or.inl rfl)))))).trans f22_15
  have f23_16 := (hE16 23 (Or.inr (Or.inr (Or.inr (Or.inl rfl))))).trans f23_15
  have f24_16 := (hE16 24 (Or.inr (Or.inr (Or.inl rfl)))).trans f24_15
  have f25_16 := (hE16 25 (Or.inr (Or.inl rfl))).trans f25_15
  have f26_16 := (hE16 26 (Or.inl rfl)).trans f26_15
  have a0_16 : A16 0 = A 0 := (hA16 0 (Or.inr (Or.inr (Or.inr (Or.inr (Or.inr (Or.inr (Or.inr (Or.inr (Or.inr (Or.inr (Or.inr (Or.inr (Or.inr (Or.inr (Or.inr (Or.inr (Or.inr (Or.inr (Or.inr (Or.inr (Or.inr (Or.inr (Or.inr (Or.inr (Or.inr hD0)))))))))))))))))))))))))).trans a0_14
  have a1_16 : A16 1 = A1 1 := (hA16 1 (Or.inr (Or.inr (Or.inr (Or.inr (Or.inr (Or.inr (Or.inr (Or.inr (Or.inr (Or.inr (Or.inr (Or.inr (Or.inr (Or.inr (Or.inr (Or.inr (Or.inr (Or.inr (Or.inr (Or.inr (Or.inr (Or.inr (Or.inr (Or.inr (Or.inl rfl)))))))))))))))))))))))))).trans a1_14
  have a2_16 : A16 2 = A4 2 := (hA16 2 (Or.inr (Or.inr (Or.inr (Or.inr (Or.inr (Or.inr (Or.inr (Or.inr (Or.inr (Or.inr (Or.inr (Or.inr (Or.inr (Or.inr (Or.inr (Or.inr (Or.inr (Or.inr (Or.inr (Or.inr (Or.inr (Or.inl rfl))))))))))))))))))))))).trans a2_14
  have a3_16 : A16 3 = A7 3 := (hA16 3 (Or.inr (Or.inr (Or.inr (Or.inr (Or.inr (Or.inr (Or.inr (Or.inr (Or.inr (Or.inr (Or.inr (Or.inr (Or.inr (Or.inr (Or.inr (Or.inr (Or.inl rfl)))))))))))))))))).trans a3_14
  have a4_16 : A16 4 = A10 4 := (hA16 4 (Or.inr (Or.inr (Or.inr (Or.inr (Or.inr (Or.inr (Or.inr (Or.inr (Or.inr (Or.inl rfl))))))))))).trans a4_14
  have a5_16 : A16 5 = A13 5 := (hA16 5 (Or.inr (Or.inr (Or.inr (Or.inr (Or.inr (Or.inr (Or.inr (Or.inl rfl))))))))).trans a5_14
  have cA16 : ∀ j, D j → A16 j = A j := fun j hj => (hA16 j (Or.inr (Or.inr (Or.inr (Or.inr (Or.inr (Or.inr (Or.inr (Or.inr (Or.inr (Or.inr (Or.inr (Or.inr (Or.inr (Or.inr (Or.inr (Or.inr (Or.inr (Or.inr (Or.inr (Or.inr (Or.inr (Or.inr (Or.inr (Or.inr (Or.inr hj)))))))))))))))))))))))))).trans (cA15 j hj)
  have cE16 : ∀ j, D j → j ≠ 0 → E16 j = E j := fun j hj hne => (hE16 j (Or.inr (Or.inr (Or.inr (Or.inr (Or.inr (Or.inr (Or.inr (Or.inr (Or.inr (Or.inr (Or.inr (Or.inr (Or.inr (Or.inr (Or.inr (Or.inr (Or.inr (Or.inr (Or.inr (Or.inr (Or.inr (Or.inr (Or.inr (Or.inr (Or.inr hj)))))))))))))))))))))))))).trans (cE15 j hj hne)
  refine hk_dup dX6_init_63 rfl rfl ?_
  refine hk_callI (a := A16 6) dX6_init_64 rfl mi_X6_46 (ct_X5_init hfl hk16 (Or.inl rfl) hx16 (fun z => z.elim (by decide) (fun z => z.elim (by decide) (fun z => z.elim (by decide) (fun z => z.elim (by decide) (fun z => z.elim (by decide) (fun z => z.elim (by decide) (fun z => z.elim (by decide) (fun z => z.elim (by decide) (fun z => z.elim (by decide) (fun z => z.elim (by decide) (fun z => z.elim (by decide) (fun z => z.elim (by decide) (fun z => z.elim (by decide) (fun z => z.elim (by decide) (fun z => z.elim (by decide) (fun z => z.elim (by decide) (fun z => z.elim (by decide) (fun z => z.elim (by decide) (fun z => z.elim (by decide) (fun z => z.elim (by decide) (fun z => z.elim (by decide) (fun z => z.elim (by decide) (fun z => z.elim (by decide) (fun z => z.elim (by decide) (fun z => z.elim (by decide) (fun z => z.elim (by decide) hn27)))))))))))))))))))))))))) (fun z => z.elim (by decide) (fun z => z.elim (by decide) (fun z => z.elim (by decide) (fun z => z.elim (by decide) (fun z => z.elim (by decide) (fun z => z.elim (by decide) (fun z => z.elim (by decide) (fun z => z.elim (by decide) (fun z => z.elim (by decide) (fun z => z.elim (by decide) (fun z => z.elim (by decide) (fun z => z.elim (by decide) (fun z => z.elim (by decide) (fun z => z.elim (by decide) (fun z => z.elim (by decide) (fun z => z.elim (by decide) (fun z => z.elim (by decide) (fun z => z.elim (by decide) (fun z => z.elim (by decide) (fun z => z.elim (by decide) (fun z => z.elim (by decide) (fun z => z.elim (by decide) (fun z => z.elim (by decide) (fun z => z.elim (by decide) (fun z => z.elim (by decide) (fun z => z.elim (by decide) hn28)))))))))))))))))))))))))) (fun z => z.elim (by decide) (fun z => z.elim (by decide) (fun z => z.elim (by decide) (fun z => z.elim (by decide) (fun z => z.elim (by decide) (fun z => z.elim (by decide) (fun z => z.elim (by decide) (fun z => z.elim (by decide) (fun z => z.elim (by decide) (fun z => z.elim (by decide) (fun z => z.elim (by decide) (fun z => z.elim (by decide) (fun z => z.elim (by decide) (fun z => z.elim (by decide) (fun z => z.elim (by decide) (fun z => z.elim (by decide) (fun z => z.elim (by decide) (fun z => z.elim (by decide) (fun z => z.elim (by decide) (fun z => z.elim (by decide) (fun z => z.elim (by decide) (fun z => z.elim (by decide) (fun z => z.elim (by decide) (fun z => z.elim (by decide) (fun z => z.elim (by decide) (fun z => z.elim (by decide) hn29))))))))))))))))))))))))))) rfl rfl (by decide) (by decide) (Nat.le_of_ble_eq_true rfl) (hk_kv ?_) hk_nx
  rintro _ ⟨A17, E17, hk17, hA17, hE17, hx17, hy27_17, hy28_17, hy29_17, rfl⟩
  have f0_17 := (hE17 0 (Or.inr (Or.inr (Or.inr (Or.inr (Or.inr (Or.inr (Or.inr (Or.inr (Or.inr (Or.inr (Or.inr (Or.inr (Or.inr (Or.inr (Or.inr (Or.inr (Or.inr (Or.inr (Or.inr (Or.inr (Or.inr (Or.inr (Or.inr (Or.inr (Or.inr (Or.inr hD0)))))))))))))))))))))))))) (by decide)).trans f0_16
  rw [← hA17 1 (Or.inr (Or.inr (Or.inr (Or.inr (Or.inr (Or.inr (Or.inr (Or.inr (Or.inr (Or.inr (Or.inr (Or.inr (Or.inr (Or.inr (Or.inr (Or.inr (Or.inr (Or.inr (Or.inr (Or.inr (Or.inr (Or.inr (Or.inr (Or.inr (Or.inr (Or.inl rfl))))))))))))))))))))))))))] at f0_17
  rw [← hA17 2 (Or.inr (Or.inr (Or.inr (Or.inr (Or.inr (Or.inr (Or.inr (Or.inr (Or.inr (Or.inr (Or.inr (Or.inr (Or.inr (Or.inr (Or.inr (Or.inr (Or.inr (Or.inr (Or.inr (Or.inr (Or.inr (Or.inr (Or.inl rfl)))))))))))))))))))))))] at f0_17
  rw [← hA17 3 (Or.inr (Or.inr (Or.inr (Or.inr (Or.inr (Or.inr (Or.inr (Or.inr (Or.inr (Or.inr (Or.inr (Or.inr (Or.inr (Or.inr (Or.inr (Or.inr (Or.inr (Or.inl rfl))))))))))))))))))] at f0_17
  rw [← hA17 4 (Or.inr (Or.inr (Or.inr (Or.inr (Or.inr (Or.inr (Or.inr (Or.inr (Or.inr (Or.inr (Or.inl rfl)))))))))))] at f0_17
  rw [← hA17 5 (Or.inr (Or.inr (Or.inr (Or.inr (Or.inr (Or.inr (Or.inr (Or.inr (Or.inl rfl)))))))))] at f0_17
  have f1_17 := (hE17 1 (Or.inr (Or.inr (Or.inr (Or.inr (Or.inr (Or.inr (Or.inr (Or.inr (Or.inr (Or.inr (Or.inr (Or.inr (Or.inr (Or.inr (Or.inr (Or.inr (Or.inr (Or.inr (Or.inr (Or.inr (Or.inr (Or.inr (Or.inr (Or.inr (Or.inr (Or.inl rfl)))))))))))))))))))))))))) (by decide)).trans f1_16
  rw [← hA17 7 (Or.inr (Or.inr (Or.inr (Or.inr (Or.inr (Or.inr (Or.inr (Or.inr (Or.inr (Or.inr (Or.inr (Or.inr (Or.inr (Or.inr (Or.inr (Or.inr (Or.inr (Or.inr (Or.inr (Or.inr (Or.inr (Or.inr (Or.inr (Or.inr (Or.inl rfl)))))))))))))))))))))))))] at f1_17
  rw [← hA17 8 (Or.inr (Or.inr (Or.inr (Or.inr (Or.inr (Or.inr (Or.inr (Or.inr (Or.inr (Or.inr (Or.inr (Or.inr (Or.inr (Or.inr (Or.inr (Or.inr (Or.inr (Or.inr (Or.inr (Or.inr (Or.inr (Or.inr (Or.inr (Or.inl rfl))))))))))))))))))))))))] at f1_17
  have f7_17 := (hE17 7 (Or.inr (Or.inr (Or.inr (Or.inr (Or.inr (Or.inr (Or.inr (Or.inr (Or.inr (Or.inr (Or.inr (Or.inr (Or.inr (Or.inr (Or.inr (Or.inr (Or.inr (Or.inr (Or.inr (Or.inr (Or.inr (Or.inr (Or.inr (Or.inr (Or.inl rfl))))))))))))))))))))))))) (by decide)).trans f7_16
  have f8_17 := (hE17 8 (Or.inr (Or.inr (Or.inr (Or.inr (Or.inr (Or.inr (Or.inr (Or.inr (Or.inr (Or.inr (Or.inr (Or.inr (Or.inr (Or.inr (Or.inr (Or.inr (Or.inr (Or.inr (Or.inr (Or.inr (Or.inr (Or.inr (Or.inr (Or.inl rfl)))))))))))))))))))))))) (by decide)).trans f8_16
  have f2_17 := (hE17 2 (Or.inr (Or.inr (Or.inr (Or.inr (Or.inr (Or.inr (Or.inr (Or.inr (Or.inr (Or.inr (Or.inr (Or.inr (Or.inr (Or.inr (Or.inr (Or.inr (Or.inr (Or.inr (Or.inr (Or.inr (Or.inr (Or.inr (Or.inl rfl))))))))))))))))))))))) (by decide)).trans f2_16
  rw [← hA17 9 (Or.inr (Or.inr (Or.inr (Or.inr (Or.inr (Or.inr (Or.inr (Or.inr (Or.inr (Or.inr (Or.inr (Or.inr (Or.inr (Or.inr (Or.inr (Or.inr (Or.inr (Or.inr (Or.inr (Or.inr (Or.inr (Or.inl rfl))))))))))))))))))))))] at f2_17
  rw [← hA17 10 (Or.inr (Or.inr (Or.inr (Or.inr (Or.inr (Or.inr (Or.inr (Or.inr (Or.inr (Or.inr (Or.inr (Or.inr (Or.inr (Or.inr (Or.inr (Or.inr (Or.inr (Or.inr (Or.inr (Or.inr (Or.inl rfl)))))))))))))))))))))] at f2_17
  rw [← hA17 11 (Or.inr (Or.inr (Or.inr (Or.inr (Or.inr (Or.inr (Or.inr (Or.inr (Or.inr (Or.inr (Or.inr (Or.inr (Or.inr (Or.inr (Or.inr (Or.inr (Or.inr (Or.inr (Or.inr (Or.inl rfl))))))))))))))))))))] at f2_17
  rw [← hA17 12 (Or.inr (Or.inr (Or.inr (Or.inr (Or.inr (Or.inr (Or.inr (Or.inr (Or.inr (Or.inr (Or.inr (Or.inr (Or.inr (Or.inr (Or.inr (Or.inr (Or.inr (Or.inr (Or.inl rfl)))))))))))))))))))] at f2_17
  have f9_17 := (hE17 9 (Or.inr (Or.inr (Or.inr (Or.inr (Or.inr (Or.inr (Or.inr (Or.inr (Or.inr (Or.inr (Or.inr (Or.inr (Or.inr (Or.inr (Or.inr (Or.inr (Or.inr (Or.inr (Or.inr (Or.inr (Or.inr (Or.inl rfl)))))))))))))))))))))) (by decide)).trans f9_16
  have f10_17 := (hE17 10 (Or.inr (Or.inr (Or.inr (Or.inr (Or.inr (Or.inr (Or.inr (Or.inr (Or.inr (Or.inr (Or.inr (Or.inr (Or.inr (Or.inr (Or.inr (Or.inr (Or.inr (Or.inr (Or.inr (Or.inr (Or.inl rfl))))))))))))))))))))) (by decide)).trans f10_16
  have f11_17 := (hE17 11 (Or.inr (Or.inr (Or.inr (Or.inr (Or.inr (Or.inr (Or.inr (Or.inr (Or.inr (Or.inr (Or.inr (Or.inr (Or.inr (Or.inr (Or.inr (Or.inr (Or.inr (Or.inr (Or.inr (Or.inl rfl)))))))))))))))))))) (by decide)).trans f11_16
  have f12_17 := (hE17 12 (Or.inr (Or.inr (Or.inr (Or.inr (Or.inr (Or.inr (Or.inr (Or.inr (Or.inr (Or.inr (Or.inr (Or.inr (Or.inr (Or.inr (Or.inr (Or.inr (Or.inr (Or.inr (Or.inl rfl))))))))))))))))))) (by decide)).trans f12_16
  have f3_17 := (hE17 3 (Or.inr (Or.inr (Or.inr (Or.inr (Or.inr (Or.inr (Or.inr (Or.inr (Or.inr (Or.inr (Or.inr (Or.inr (Or.inr (Or.inr (Or.inr (Or.inr (Or.inr (Or.inl rfl)))))))))))))))))) (by decide)).trans f3_16
  rw [← hA17 13 (Or.inr (Or.inr (Or.inr (Or.inr (Or.inr (Or.inr (Or.inr (Or.inr (Or.inr (Or.inr (Or.inr (Or.inr (Or.inr (Or.inr (Or.inr (Or.inr (Or.inl rfl)))))))))))))))))] at f3_17
  rw [← hA17 14 (Or.inr (Or.inr (Or.inr (Or.inr (Or.inr (Or.inr (Or.inr (Or.inr (Or.inr (Or.inr (Or.inr (Or.inr (Or.inr (Or.inr (Or.inr (Or.inl rfl))))))))))))))))] at f3_17
  rw [← hA17 15 (Or.inr (Or.inr (Or.inr (Or.inr (Or.inr (Or.inr (Or.inr (Or.inr (Or.inr (Or.inr (Or.inr (Or.inr (Or.inr (Or.inr (Or.inl rfl)))))))))))))))] at f3_17
  rw [← hA17 16 (Or.inr (Or.inr (Or.inr (Or.inr (Or.inr (Or.inr (Or.inr (Or.inr (Or.inr (Or.inr (Or.inr (Or.inr (Or.inr (Or.inl rfl))))))))))))))] at f3_17
  rw [← hA17 17 (Or.inr (Or.inr (Or.inr (Or.inr (Or.inr (Or.inr (Or.inr (Or.inr (Or.inr (Or.inr (Or.inr (Or.inr (Or.inl rfl)))))))))))))] at f3_17
  rw [← hA17 18 (Or.inr (Or.inr (Or.inr (Or.inr (Or.inr (Or.inr (Or.inr (Or.inr (Or.inr (Or.inr (Or.inr (Or.inl rfl))))))))))))] at f3_17
  have f13_17 := (hE17 13 (Or.inr (Or.inr (Or.inr (Or.inr (Or.inr (Or.inr (Or.inr (Or.inr (Or.inr (Or.inr (Or.inr (Or.inr (Or.inr (Or.inr (Or.inr (Or.inr (Or.inl rfl))))))))))))))))) (by decide)).trans f13_16
  have f14_17 := (hE17 14 (Or.inr (Or.inr (Or.inr (Or.inr (Or.inr (Or.inr (Or.inr (Or.inr (Or.inr (Or.inr (Or.inr (Or.inr (Or.inr (Or.inr (Or.inr (Or.inl rfl)))))))))))))))) (by decide)).trans f14_16
  have f15_17 := (hE17 15 (Or.inr (Or.inr (Or.inr (Or.inr (Or.inr (Or.inr (Or.inr (Or.inr (Or.inr (Or.inr (Or.inr (Or.inr (Or.inr (Or.inr (Or.inl rfl))))))))))))))) (by decide)).trans f15_16
  have f16_17 := (hE17 16 (Or.inr (Or.inr (Or.inr (Or.inr (Or.inr (Or.inr (Or.inr (Or.inr (Or.inr (Or.inr (Or.inr (Or.inr (Or.inr (Or.inl rfl)))))))))))))) (by decide)).trans f16_16
  have f17_17 := (hE17 17 (Or.inr (Or.inr (Or.inr (Or.inr (Or.inr (Or.inr (Or.inr (Or.inr (Or.inr (Or.inr (Or.inr (Or.inr (Or.inl rfl))))))))))))) (by decide)).trans f17_16
  have f18_17 := (hE17 18 (Or.inr (Or.inr (Or.inr (Or.inr (Or.inr (Or.inr (Or.inr (Or.inr (Or.inr (Or.inr (Or.inr (Or.inl rfl)))))))))))) (by decide)).trans f18_16
  have f4_17 := (hE17 4 (Or.inr (Or.inr (Or.inr (Or.inr (Or.inr (Or.inr (Or.inr (Or.inr (Or.inr (Or.inr (Or.inl rfl))))))))))) (by decide)).trans f4_16
  rw [← hA17 19 (Or.inr (Or.inr (Or.inr (Or.inr (Or.inr (Or.inr (Or.inr (Or.inr (Or.inr (Or.inl rfl))))))))))] at f4_17
  have f19_17 := (hE17 19 (Or.inr (Or.inr (Or.inr (Or.inr (Or.inr (Or.inr (Or.inr (Or.inr (Or.inr (Or.inl rfl)))))))))) (by decide)).trans f19_16
  have f5_17 := (hE17 5 (Or.inr (Or.inr (Or.inr (Or.inr (Or.inr (Or.inr (Or.inr (Or.inr (Or.inl rfl))))))))) (by decide)).trans f5_16
  rw [← hA17 20 (Or.inr (Or.inr (Or.inr (Or.inr (Or.inr (Or.inr (Or.inr (Or.inl rfl))))))))] at f5_17
  rw [← hA17 21 (Or.inr (Or.inr (Or.inr (Or.inr (Or.inr (Or.inr (Or.inl rfl)))))))] at f5_17
  rw [← hA17 22 (Or.inr (Or.inr (Or.inr (Or.inr (Or.inr (Or.inl rfl))))))] at f5_17
  rw [← hA17 23 (Or.inr (Or.inr (Or.inr (Or.inr (Or.inl rfl)))))] at f5_17
  rw [← hA17 24 (Or.inr (Or.inr (Or.inr (Or.inl rfl))))] at f5_17
  rw [← hA17 25 (Or.inr (Or.inr (Or.inl rfl)))] at f5_17
  rw [← hA17 26 (Or.inr (Or.inl rfl))] at f5_17
  have f20_17 := (hE17 20 (Or.inr (Or.inr (Or.inr (Or.inr (Or.inr (Or.inr (Or.inr (Or.inl rfl)))))))) (by decide)).trans f20_16
  have f21_17 := (hE17 21 (Or.inr (Or.inr (Or.inr (Or.inr (Or.inr (Or.inr (Or.inl rfl))))))) (by decide)).trans f21_16
  have f22_17 := (hE17 22 (Or.inr (Or.inr (Or.inr (Or.inr (Or.inr (Or.inl rfl)))))) (by decide)).trans f22_16
  have f23_17 := (hE17 23 (Or.inr (Or.inr (Or.inr (Or.inr (Or.inl rfl))))) (by decide)).trans f23_16
  have f24_17 := (hE17 24 (Or.inr (Or.inr (Or.inr (Or.inl rfl)))) (by decide)).trans f24_16
  have f25_17 := (hE17 25 (Or.inr (Or.inr (Or.inl rfl))) (by decide)).trans f25_16
  have f26_17 := (hE17 26 (Or.inr (Or.inl rfl)) (by decide)).trans f26_16
  have a0_17 : A17 0 = A 0 := (hA17 0 (Or.inr (Or.inr (Or.inr (Or.inr (Or.inr (Or.inr (Or.inr (Or.inr (Or.inr (Or.inr (Or.inr (Or.inr (Or.inr (Or.inr (Or.inr (Or.inr (Or.inr (Or.inr (Or.inr (Or.inr (Or.inr (Or.inr (Or.inr (Or.inr (Or.inr (Or.inr hD0))))))))))))))))))))))))))).trans a0_16
  have a1_17 : A17 1 = A1 1 := (hA17 1 (Or.inr (Or.inr (Or.inr (Or.inr (Or.inr (Or.inr (Or.inr (Or.inr (Or.inr (Or.inr (Or.inr (Or.inr (Or.inr (Or.inr (Or.inr (Or.inr (Or.inr (Or.inr (Or.inr (Or.inr (Or.inr (Or.inr (Or.inr (Or.inr (Or.inr (Or.inl rfl))))))))))))))))))))))))))).trans a1_16
  have a2_17 : A17 2 = A4 2 := (hA17 2 (Or.inr (Or.inr (Or.inr (Or.inr (Or.inr (Or.inr (Or.inr (Or.inr (Or.inr (Or.inr (Or.inr (Or.inr (Or.inr (Or.inr (Or.inr (Or.inr (Or.inr (Or.inr (Or.inr (Or.inr (Or.inr (Or.inr (Or.inl rfl)))))))))))))))))))))))).trans a2_16
  have a3_17 : A17 3 = A7 3 := (hA17 3 (Or.inr (Or.inr (Or.inr (Or.inr (Or.inr (Or.inr (Or.inr (Or.inr (Or.inr (Or.inr (Or.inr (Or.inr (Or.inr (Or.inr (Or.inr (Or.inr (Or.inr (Or.inl rfl))))))))))))))))))).trans a3_16
  have a4_17 : A17 4 = A10 4 := (hA17 4 (Or.inr (Or.inr (Or.inr (Or.inr (Or.inr (Or.inr (Or.inr (Or.inr (Or.inr (Or.inr (Or.inl rfl)))))))))))).trans a4_16
  have a5_17 : A17 5 = A13 5 := (hA17 5 (Or.inr (Or.inr (Or.inr (Or.inr (Or.inr (Or.inr (Or.inr (Or.inr (Or.inl rfl)))))))))).trans a5_16
  have a6_17 : A17 6 = A16 6 := (hA17 6 (Or.inl rfl)).trans rfl
  have cA17 : ∀ j, D j → A17 j = A j := fun j hj => (hA17 j (Or.inr (Or.inr (Or.inr (Or.inr (Or.inr (Or.inr (Or.inr (Or.inr (Or.inr (Or.inr (Or.inr (Or.inr (Or.inr (Or.inr (Or.inr (Or.inr (Or.inr (Or.inr (Or.inr (Or.inr (Or.inr (Or.inr (Or.inr (Or.inr (Or.inr (Or.inr hj))))))))))))))))))))))))))).trans (cA16 j hj)
  have cE17 : ∀ j, D j → j ≠ 0 → E17 j = E j := fun j hj hne => (hE17 j (Or.inr (Or.inr (Or.inr (Or.inr (Or.inr (Or.inr (Or.inr (Or.inr (Or.inr (Or.inr (Or.inr (Or.inr (Or.inr (Or.inr (Or.inr (Or.inr (Or.inr (Or.inr (Or.inr (Or.inr (Or.inr (Or.inr (Or.inr (Or.inr (Or.inr (Or.inr hj)))))))))))))))))))))))))) (fun e => absurd (e ▸ hj) hn6)).trans (cE16 j hj hne)
  refine ca_putf 0 hk17 (Or.inr (Or.inr (Or.inr (Or.inr (Or.inr (Or.inr (Or.inr (Or.inr (Or.inr (Or.inr (Or.inr (Or.inr (Or.inr (Or.inr (Or.inr (Or.inr (Or.inr (Or.inr (Or.inr (Or.inr (Or.inr (Or.inr (Or.inr (Or.inr (Or.inr (Or.inr (Or.inr (Or.inr (Or.inr hD0))))))))))))))))))))))))))))) a0_17 f0_17 dX6_init_67 rfl (fw_X6_47 rfl rfl) rfl rfl (Nat.lt_of_lt_of_eq (by decide : 5 < 7) rfl) ?_
  intro E18 hE18 hx18
  have f1_18 := (hE18 1 (Or.inr (Or.inr (Or.inr (Or.inr (Or.inr (Or.inr (Or.inr (Or.inr (Or.inr (Or.inr (Or.inr (Or.inr (Or.inr (Or.inr (Or.inr (Or.inr (Or.inr (Or.inr (Or.inr (Or.inr (Or.inr (Or.inr (Or.inr (Or.inr (Or.inr (Or.inr (Or.inr (Or.inr (Or.inl rfl))))))))))))))))))))))))))))) (by decide)).trans f1_17
  have f7_18 := (hE18 7 (Or.inr (Or.inr (Or.inr (Or.inr (Or.inr (Or.inr (Or.inr (Or.inr (Or.inr (Or.inr (Or.inr (Or.inr (Or.inr (Or.inr (Or.inr (Or.inr (Or.inr (Or.inr (Or.inr (Or.inr (Or.inr (Or.inr (Or.inr (Or.inr (Or.inr (Or.inr (Or.inr (Or.inl rfl)))))))))))))))))))))))))))) (by decide)).trans f7_17
  have f8_18 := (hE18 8 (Or.inr (Or.inr (Or.inr (Or.inr (Or.inr (Or.inr (Or.inr (Or.inr (Or.inr (Or.inr (Or.inr (Or.inr (Or.inr (Or.inr (Or.inr (Or.inr (Or.inr (Or.inr (Or.inr (Or.inr (Or.inr (Or.inr (Or.inr (Or.inr (Or.inr (Or.inr (Or.inl rfl))))))))))))))))))))))))))) (by decide)).trans f8_17
  have f2_18 := (hE18 2 (Or.inr (Or.inr (Or.inr (Or.inr (Or.inr (Or.inr (Or.inr (Or.inr (Or.inr (Or.inr (Or.inr (Or.inr (Or.inr (Or.inr (Or.inr (Or.inr (Or.inr (Or.inr (Or.inr (Or.inr (Or.inr (Or.inr (Or.inr (Or.inr (Or.inr (Or.inl rfl)))))))))))))))))))))))))) (by decide)).trans f2_17
  have f9_18 := (hE18 9 (Or.inr (Or.inr (Or.inr (Or.inr (Or.inr (Or.inr (Or.inr (Or.inr (Or.inr (Or.inr (Or.inr (Or.inr (Or.inr (Or.inr (Or.inr (Or.inr (Or.inr (Or.inr (Or.inr (Or.inr (Or.inr (Or.inr (Or.inr (Or.inr (Or.inl rfl))))))))))))))))))))))))) (by decide)).trans f9_17
  have f10_18 := (hE18 10 (Or.inr (Or.inr (Or.inr (Or.inr (Or.inr (Or.inr (Or.inr (Or.inr (Or.inr (Or.inr (Or.inr (Or.inr (Or.inr (Or.inr (Or.inr (Or.inr (Or.inr (Or.inr (Or.inr (Or.inr (Or.inr (Or.inr (Or.inr (Or.inl rfl)))))))))))))))))))))))) (by decide)).trans f10_17
  have f11_18 := (hE18 11 (Or.inr (Or.inr (Or.inr (Or.inr (Or.inr (Or.inr (Or.inr (Or.inr (Or.inr (Or.inr (Or.inr (Or.inr (Or.inr (Or.inr (Or.inr (Or.inr (Or.inr (Or.inr (Or.inr (Or.inr (Or.inr (Or.inr (Or.inl rfl))))))))))))))))))))))) (by decide)).trans f11_17
  have f12_18 := (hE18 12 (Or.inr (Or.inr (Or.inr (Or.inr (Or.inr (Or.inr (Or.inr (Or.inr (Or.inr (Or.inr (Or.inr (Or.inr (Or.inr (Or.inr (Or.inr (Or.inr (Or.inr (Or.inr (Or.inr (Or.inr (Or.inr (Or.inl rfl)))))))))))))))))))))) (by decide)).trans f12_17
  have f3_18 := (hE18 3 (Or.inr (Or.inr (Or.inr (Or.inr (Or.inr (Or.inr (Or.inr (Or.inr (Or.inr (Or.inr (Or.inr (Or.inr (Or.inr (Or.inr (Or.inr (Or.inr (Or.inr (Or.inr (Or.inr (Or.inr (Or.inl rfl))))))))))))))))))))) (by decide)).trans f3_17
  have f13_18 := (hE18 13 (Or.inr (Or.inr (Or.inr (Or.inr (Or.inr (Or.inr (Or.inr (Or.inr (Or.inr (Or.inr (Or.inr (Or.inr (Or.inr (Or.inr (Or.inr (Or.inr (Or.inr (Or.inr (Or.inr (Or.inl rfl)))))))))))))))))))) (by decide)).trans f13_17
  have f14_18 := (hE18 14 (Or.inr (Or.inr (Or.inr (Or.inr (Or.inr (Or.inr (Or.inr (Or.inr (Or.inr (Or.inr (Or.inr (Or.inr (Or.inr (Or.inr (Or.inr (Or.inr (Or.inr (Or.inr (Or.inl rfl))))))))))))))))))) (by decide)).trans f14_17
  have f15_18 := (hE18 15 (Or.inr (Or.inr (Or.inr (Or.inr (Or.inr (Or.inr (Or.inr (Or.inr (Or.inr (Or.inr (Or.inr (Or.inr (Or.inr (Or.inr (Or.inr (Or.inr (Or.inr (Or.inl rfl)))))))))))))))))) (by decide)).trans f15_17
  have f16_18 := (hE18 16 (Or.inr (Or.inr (Or.inr (Or.inr (Or.inr (Or.inr (Or.inr (Or.inr (Or.inr (Or.inr (Or.inr (Or.inr (Or.inr (Or.inr (Or.inr (Or.inr (Or.inl rfl))))))))))))))))) (by decide)).trans f16_17
  have f17_18 := (hE18 17 (Or.inr (Or.inr (Or.inr (Or.inr (Or.inr (Or.inr (Or.inr (Or.inr (Or.inr (Or.inr (Or.inr (Or.inr (Or.inr (Or.inr (Or.inr (Or.inl rfl)))))))))))))))) (by decide)).trans f17_17
  have f18_18 := (hE18 18 (Or.inr (Or.inr (Or.inr (Or.inr (Or.inr (Or.inr (Or.inr (Or.inr (Or.inr (Or.inr (Or.inr (Or.inr (Or.inr (Or.inr (Or.inl rfl))))))))))))))) (by decide)).trans f18_17
  have f4_18 := (hE18 4 (Or.inr (Or.inr (Or.inr (Or.inr (Or.inr (Or.inr (Or.inr (Or.inr (Or.inr (Or.inr (Or.inr (Or.inr (Or.inr (Or.inl rfl)))))))))))))) (by decide)).trans f4_17
  have f19_18 := (hE18 19 (Or.inr (Or.inr (Or.inr (Or.inr (Or.inr (Or.inr (Or.inr (Or.inr (Or.inr (Or.inr (Or.inr (Or.inr (Or.inl rfl))))))))))))) (by decide)).trans f19_17
  have f5_18 := (hE18 5 (Or.inr (Or.inr (Or.inr (Or.inr (Or.inr (Or.inr (Or.inr (Or.inr (Or.inr (Or.inr (Or.inr (Or.inl rfl)))))))))))) (by decide)).trans f5_17
  have f20_18 := (hE18 20 (Or.inr (Or.inr (Or.inr (Or.inr (Or.inr (Or.inr (Or.inr (Or.inr (Or.inr (Or.inr (Or.inl rfl))))))))))) (by decide)).trans f20_17
  have f21_18 := (hE18 21 (Or.inr (Or.inr (Or.inr (Or.inr (Or.inr (Or.inr (Or.inr (Or.inr (Or.inr (Or.inl rfl)))))))))) (by decide)).trans f21_17
  have f22_18 := (hE18 22 (Or.inr (Or.inr (Or.inr (Or.inr (Or.inr (Or.inr (Or.inr (Or.inr (Or.inl rfl))))))))) (by decide)).trans f22_17
  have f23_18 := (hE18 23 (Or.inr (Or.inr (Or.inr (Or.inr (Or.inr (Or.inr (Or.inr (Or.inl rfl)))))))) (by decide)).trans f23_17
  have f24_18 := (hE18 24 (Or.inr (Or.inr (Or.inr (Or.inr (Or.inr (Or.inr (Or.inl rfl))))))) (by decide)).trans f24_17
  have f25_18 := (hE18 25 (Or.inr (Or.inr (Or.inr (Or.inr (Or.inr (Or.inl rfl)))))) (by decide)).trans f25_17
  have f26_18 := (hE18 26 (Or.inr (Or.inr (Or.inr (Or.inr (Or.inl rfl))))) (by decide)).trans f26_17
  have f6_18 := (hE18 6 (Or.inr (Or.inr (Or.inr (Or.inl rfl)))) (by decide)).trans hx17
  have f27_18 := (hE18 27 (Or.inr (Or.inr (Or.inl rfl))) (by decide)).trans hy27_17
  have f28_18 := (hE18 28 (Or.inr (Or.inl rfl)) (by decide)).trans hy28_17
  have f29_18 := (hE18 29 (Or.inl rfl) (by decide)).trans hy29_17
  have cA18 := cA17
  have cE18 : ∀ j, D j → j ≠ 0 → E18 j = E j := fun j hj hne => (hE18 j (Or.inr (Or.inr (Or.inr (Or.inr (Or.inr (Or.inr (Or.inr (Or.inr (Or.inr (Or.inr (Or.inr (Or.inr (Or.inr (Or.inr (Or.inr (Or.inr (Or.inr (Or.inr (Or.inr (Or.inr (Or.inr (Or.inr (Or.inr (Or.inr (Or.inr (Or.inr (Or.inr (Or.inr (Or.inr hj))))))))))))))))))))))))))))) hne).trans (cE17 j hj hne)
  have hx18 : E18 0 = .inr (13, [.ref (A17 1), .ref (A17 2), .ref (A17 3), .ref (A17 4), .ref (A17 5), .ref (A17 6), .long 0]) := by rw [hx18, a6_17]; rfl
  have hDe : (fun j => j = 29 ∨ j = 28 ∨ j = 27 ∨ j = 6 ∨ j = 26 ∨ j = 25 ∨ j = 24 ∨ j = 23 ∨ j = 22 ∨ j = 21 ∨ j = 20 ∨ j = 5 ∨ j = 19 ∨ j = 4 ∨ j = 18 ∨ j = 17 ∨ j = 16 ∨ j = 15 ∨ j = 14 ∨ j = 13 ∨ j = 3 ∨ j = 12 ∨ j = 11 ∨ j = 10 ∨ j = 9 ∨ j = 2 ∨ j = 8 ∨ j = 7 ∨ j = 1 ∨ D j) = (fun j => j < 30) := by funext j; exact propext ⟨fun z => by simp only [hDD] at z; omega, fun z => by simp only [hDD]; omega⟩
  have hk9 := hk17
  rw [hDe] at hk9
  rw [hDe]
  have hA9 : hs_inj A17 := fun i j h1 h2 e => hk9.1 i j h1 h2 e
  have hE9 : ∀ i, i < 30 → E18 i = hs_E A17 cs_Sz i := by
    intro i hi
    match i, hi with
    | 0, _ => exact hx18
    | 1, _ => exact f1_18
    | 2, _ => exact f2_18
    | 3, _ => exact f3_18
    | 4, _ => exact f4_18
    | 5, _ => exact f5_18
    | 6, _ => exact f6_18
    | 7, _ => exact f7_18
    | 8, _ => exact f8_18
    | 9, _ => exact f9_18
    | 10, _ => exact f10_18
    | 11, _ => exact f11_18
    | 12, _ => exact f12_18
    | 13, _ => exact f13_18
    | 14, _ => exact f14_18
    | 15, _ => exact f15_18
    | 16, _ => exact f16_18
    | 17, _ => exact f17_18
    | 18, _ => exact f18_18
    | 19, _ => exact f19_18
    | 20, _ => exact f20_18
    | 21, _ => exact f21_18
    | 22, _ => exact f22_18
    | 23, _ => exact f23_18
    | 24, _ => exact f24_18
    | 25, _ => exact f25_18
    | 26, _ => exact f26_18
    | 27, _ => exact f27_18
    | 28, _ => exact f28_18
    | 29, _ => exact f29_18
    | n + 30, hi => exact absurd hi (by omega)
  rw [ha_ov hA9 hE9]
  have hA := hA9
  refine cx_cg rfl (show _ = [some (.ref (A17 0))] from by rw [cA18 0 hD0]; rfl) ?_
  refine hk_aload_n dX6_init_70 rfl rfl rfl ?_
  refine cx_getf hA (by decide) rfl dX6_init_71 rfl fl_X6_10 rfl ?_
  refine hk_bipush (v := nI 99) dX6_init_74 rfl (by decide) ?_
  refine cx_calli hA (by decide) rfl rfl rfl dX6_init_76 rfl mv_X6_51 (ct_X3_open (S := cs_Sz) (c := 0) hfl hA rfl (by decide) (by decide)) rfl rfl (by decide) (by decide) (Nat.le_of_ble_eq_true rfl) (fun c76 => ?_) (fun E c => c.elim)
  refine hk_pop dX6_init_79 rfl rfl ?_
  exact hk_vreturn rfl dX6_init_80 (⟨rfl, A17, hA9, hk9.2, (cA18 0 hD0), rfl⟩)
end CI

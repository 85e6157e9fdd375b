section GROW
theorem ha_gnd {D : Nat → Prop} {A : Nat → Nat} {E : Nat → hk_E} {g : hk_H} {q : Nat} {x : hk_E} (hk : ha_ok D A g) (hq : g q = some x) : ha D A E g q = some x := by
  rw [ha_ne (fun i hi e => by rw [← e, hk.2 i hi] at hq; cases hq)]
  exact hq
theorem ha_of {D : Nat → Prop} {A : Nat → Nat} {E : Nat → hk_E} {H : hk_H} (hi : ha_inj D A) (hH : ∀ j, D j → H (A j) = some (E j)) : ∃ g' : hk_H, H = ha D A E g' ∧ ha_ok D A g' ∧ ∀ q, (∀ j, D j → A j ≠ q) → g' q = H q := by
  classical
  refine ⟨fun q => if ∃ j, D j ∧ A j = q then none else H q, ?_, ⟨hi, fun i hD => if_pos ⟨i, hD, rfl⟩⟩, fun q hq => if_neg (fun ⟨j, h1, h2⟩ => hq j h1 h2)⟩
  funext q
  by_cases z : ∃ j, D j ∧ A j = q
  · obtain ⟨j, hj, rfl⟩ := z
    rw [ha_get hi hj, hH j hj]
  · have z1 : ∀ j, D j → A j ≠ q := fun j hj e => z ⟨j, hj, e⟩
    rw [ha_ne z1, if_neg z]
theorem ha_grow {D : Nat → Prop} {A : Nat → Nat} {E : Nat → hk_E} {g : hk_H} {a b e1 : Nat} {x y : hk_E} (hk : ha_ok D A g) (hDa : D a) (hab : a ≠ b) (he : (D b ∧ e1 = A b) ∨ ha D A E g e1 = none) : ∃ g' : hk_H, hm_x g g' ∧ ha_ok (fun j => j = b ∨ D j) (ha_up A b e1) g' ∧ hk_set (hk_set (ha D A E g) e1 x) (A a) y = ha (fun j => j = b ∨ D j) (ha_up A b e1) (ha_up (ha_up E b x) a y) g' := by
  have hne : ∀ j, D j → j ≠ b → A j ≠ e1 := fun j hj hjb e => by
    rcases he with ⟨h1, h2⟩ | h1
    · exact hjb (hk.1 j b hj h1 (e.trans h2))
    · rw [← e, ha_get hk.1 hj] at h1; cases h1
  have hinj : ha_inj (fun j => j = b ∨ D j) (ha_up A b e1) := by
    intro i j hi hj e
    by_cases e1b : i = b <;> by_cases e2b : j = b
    · rw [e1b, e2b]
    · rw [e1b, ha_up_eq, ha_up_ne e2b] at e
      exact absurd e.symm (hne j (hj.resolve_left e2b) e2b)
    · rw [e2b, ha_up_eq, ha_up_ne e1b] at e
      exact absurd e (hne i (hi.resolve_left e1b) e1b)
    · rw [ha_up_ne e1b, ha_up_ne e2b] at e
      exact hk.1 i j (hi.resolve_left e1b) (hj.resolve_left e2b) e
  have hH : ∀ j, (j = b ∨ D j) → (hk_set (hk_set (ha D A E g) e1 x) (A a) y) (ha_up A b e1 j) = some (ha_up (ha_up E b x) a y j) := by
    intro j hj
    by_cases ea : j = a
    · subst ea
      rw [ha_up_ne hab, hk_set_eq, ha_up_eq]
    · by_cases eb : j = b
      · subst eb
        rw [ha_up_eq, hk_set_ne (fun z => hne a hDa hab z.symm), hk_set_eq, ha_up_ne ea, ha_up_eq]
      · have hDj := hj.resolve_left eb
        rw [ha_up_ne eb, hk_set_ne (fun z => ea (hk.1 j a hDj hDa z)), hk_set_ne (hne j hDj eb), ha_get hk.1 hDj, ha_up_ne ea, ha_up_ne eb]
  obtain ⟨g', h1, h2, h3⟩ := ha_of hinj hH
  refine ⟨g', fun q z hz => ?_, h2, h1⟩
  have n1 : ∀ j, D j → A j ≠ q := fun j hj e => by rw [← e, hk.2 j hj] at hz; cases hz
  have n2 : e1 ≠ q := fun e => by
    rcases he with ⟨p1, p2⟩ | p1
    · exact n1 b p1 (p2.symm.trans e)
    · rw [e, ha_gnd hk hz] at p1; cases p1
  rw [h3 q (fun j hj e => by
    by_cases eb : j = b
    · rw [eb, ha_up_eq] at e; exact n2 e
    · rw [ha_up_ne eb] at e; exact n1 j (hj.resolve_left eb) e), hk_set_ne (fun e => n1 a hDa e.symm), hk_set_ne (fun e => n2 e.symm), ha_gnd hk hz]
theorem ha_lift {D : Nat → Prop} {A : Nat → Nat} {E : Nat → hk_E} {g : hk_H} {i q : Nat} {x : hk_E} (hk : ha_ok D A g) (hn : ¬ D i) (hq : g q = some x) : ∃ g' : hk_H, (∀ p z, p ≠ q → g p = some z → g' p = some z) ∧ ha_ok (fun j => j = i ∨ D j) (ha_up A i q) g' ∧ ha D A E g = ha (fun j => j = i ∨ D j) (ha_up A i q) (ha_up E i x) g' := by
  have hne : ∀ j, D j → A j ≠ q := fun j hj e => by rw [← e, hk.2 j hj] at hq; cases hq
  have hji : ∀ j, D j → j ≠ i := fun j hj e => hn (e ▸ hj)
  have hinj : ha_inj (fun j => j = i ∨ D j) (ha_up A i q) := by
    intro a b ha hb e
    rcases ha with ha | ha <;> rcases hb with hb | hb
    · rw [ha, hb]
    · rw [ha, ha_up_eq, ha_up_ne (hji b hb)] at e; exact absurd e.symm (hne b hb)
    · rw [hb, ha_up_eq, ha_up_ne (hji a ha)] at e; exact absurd e (hne a ha)
    · rw [ha_up_ne (hji a ha), ha_up_ne (hji b hb)] at e; exact hk.1 a b ha hb e
  have hH : ∀ j, (j = i ∨ D j) → (ha D A E g) (ha_up A i q j) = some (ha_up E i x j) := by
    intro j hj
    rcases hj with hj | hj
    · rw [hj, ha_up_eq, ha_up_eq]; exact ha_gnd hk hq
    · rw [ha_up_ne (hji j hj), ha_up_ne (hji j hj)]; exact ha_get hk.1 hj
  obtain ⟨g', h1, h2, h3⟩ := ha_of hinj hH
  refine ⟨g', fun p z hp hz => ?_, h2, h1⟩
  rw [h3 p (fun j hj e => by
    rcases hj with hj | hj
    · rw [hj, ha_up_eq] at e; exact hp e.symm
    · rw [ha_up_ne (hji j hj)] at e; rw [← e, hk.2 j hj] at hz; cases hz), ha_gnd hk hz]
theorem ha_okg {D : Nat → Prop} {A : Nat → Nat} {E : Nat → hk_E} {g : hk_H} {q : Nat} {x : hk_E} (hk : ha_ok D A g) (hq : ha D A E g q = none) : ha_ok D A (hk_set g q x) ∧ hk_set (ha D A E g) q x = ha D A E (hk_set g q x) ∧ hm_x g (hk_set g q x) := by
  obtain ⟨h1, h2⟩ := ha_none hk.1 hq
  exact ⟨⟨hk.1, fun i hi => by rw [hk_set_ne (h1 i hi)]; exact hk.2 i hi⟩, ha_grd h1, hm_x.nw h2⟩
theorem hm_is {G : hk_G} {S' : hs_S} {M' : hm_M} {A' : Nat → Nat} {D : Nat → Prop} {E : Nat → hk_E} {g : hk_H} (hD : ∀ j, D j ↔ hm_D S' M' j) (hE : ∀ j, D j → E j = hm_E G S' M' A' j) (hk : ha_ok D A' g) : ha D A' E g = hm_h G S' M' A' g ∧ ha_ok (hm_D S' M') A' g := by
  have e : D = hm_D S' M' := funext fun j => propext (hD j)
  subst e
  exact ⟨(ha_ext hk.1 (fun _ _ => rfl) (fun j hj => (hE j hj).symm)).symm, hk⟩
theorem hm_E_pa {G : hk_G} {S S' : hs_S} {M M' : hm_M} {A A' : Nat → Nat} {j : Nat} (hA : ∀ i, i < 22 → A' i = A i) (h0 : j = 0 → hm_E G S' M' A' 0 = hm_E G S M A 0) (h1 : j = 1 → S'.1 9 = S.1 9) (h2 : j = 2 → S'.1 10 = S.1 10) (h4 : ∀ a, a < 6 → j = 4 + a → ∀ q, q < 2 → S'.1 12 (a * 2 + q) = S.1 12 (a * 2 + q)) (h11 : ∀ a, a < 6 → j = 11 + a → ∀ q, q < 6 → S'.1 19 (a * 6 + q) = S.1 19 (a * 6 + q)) (h18 : ∀ a, a < 4 → j = 18 + a → ∀ q, q < 6 → S'.1 27 (a * 6 + q) = S.1 27 (a * 6 + q)) (h30 : ∀ i, j = 30 + i → i < 20 → hm_ls G S' M' A' i = hm_ls G S M A i) (h50 : ∀ i, j = 50 + i → M'.2.2.1 i = M.2.2.1 i ∧ M'.2.1 i = M.2.1 i) (h100 : ∀ i, j = 100 + i → hm_co S' i = hm_co S i) (h200 : ∀ i, j = 200 + i → hm_bi S' M' A' i = hm_bi S M A i) (hj : j < 22 ∨ 30 ≤ j) : hm_E G S' M' A' j = hm_E G S M A j := by
  unfold hm_E at h0 ⊢
  have rf : ∀ (n b : Nat), b + n ≤ 22 → hm_rf n b A' = hm_rf n b A := fun n b h => by
    funext q
    unfold hm_rf
    split
    · rw [hA _ (by omega)]
    · rfl
  have tr : ∀ (n : Nat) (f f' : Nat → Int32), (∀ q, q < n → f q = f' q) → hm_tr n f = hm_tr n f' := fun n f f' h => by
    funext q
    unfold hm_tr
    split
    · exact h q (by assumption)
    · rfl
  by_cases c : j < 22
  · rw [if_pos c, if_pos c]
    by_cases c0 : j = 0
    · subst c0
      have := h0 rfl
      rw [if_pos (by omega), if_pos rfl, if_pos (by omega), if_pos rfl] at this
      rw [if_pos rfl, if_pos rfl]
      exact this
    rw [if_neg c0, if_neg c0]
    by_cases c1 : j = 1
    · rw [if_pos c1, if_pos c1, h1 c1]
    rw [if_neg c1, if_neg c1]
    by_cases c2 : j = 2
    · rw [if_pos c2, if_pos c2, h2 c2]
    rw [if_neg c2, if_neg c2]
    by_cases c3 : j = 3
    · rw [if_pos c3, if_pos c3, rf 6 4 (by omega)]
    rw [if_neg c3, if_neg c3]
    by_cases c4 : j < 10
    · rw [if_pos c4, if_pos c4, tr 2 _ _ (h4 (j - 4) (by omega) (by omega))]
    rw [if_neg c4, if_neg c4]
    by_cases c5 : j = 10
    · rw [if_pos c5, if_pos c5, rf 6 11 (by omega)]
    rw [if_neg c5, if_neg c5]
    by_cases c6 : j < 17
    · rw [if_pos c6, if_pos c6, tr 6 _ _ (h11 (j - 11) (by omega) (by omega))]
    rw [if_neg c6, if_neg c6]
    by_cases c7 : j = 17
    · rw [if_pos c7, if_pos c7, rf 4 18 (by omega)]
    rw [if_neg c7, if_neg c7, tr 6 _ _ (h18 (j - 18) (by omega) (by omega))]
  rw [if_neg c, if_neg c]
  by_cases c8 : j < 50
  · rw [if_pos c8, if_pos c8, h30 (j - 30) (by omega) (by omega)]
  rw [if_neg c8, if_neg c8]
  by_cases c9 : j < 100
  · obtain ⟨z1, z2⟩ := h50 (j - 50) (by omega)
    rw [if_pos c9, if_pos c9, z1, z2]
  rw [if_neg c9, if_neg c9]
  by_cases c10 : j < 200
  · rw [if_pos c10, if_pos c10, h100 (j - 100) (by omega)]
  rw [if_neg c10, if_neg c10, h200 (j - 200) (by omega)]
def hm_cp (M : hm_M) (i : Nat) : Nat := if M.2.2.2 i = true then M.2.2.1 i else 0
def hm_Mg (M : hm_M) (i : Nat) (mc : Int32) (f : Nat → Option Nat) (cap : Nat) : hm_M := (ha_up M.1 (10 + i) mc, ha_up M.2.1 i f, ha_up M.2.2.1 i cap, ha_up M.2.2.2 i true)
theorem hm_Mg1 {M : hm_M} {i k : Nat} {mc : Int32} {f : Nat → Option Nat} {cap : Nat} (h : k ≠ 10 + i) : (hm_Mg M i mc f cap).1 k = M.1 k := ha_up_ne (f := M.1) h
theorem hm_Mg2 {M : hm_M} {i k : Nat} {mc : Int32} {f : Nat → Option Nat} {cap : Nat} (h : k ≠ i) : (hm_Mg M i mc f cap).2.1 k = M.2.1 k := ha_up_ne (f := M.2.1) h
theorem hm_Mg3 {M : hm_M} {i k : Nat} {mc : Int32} {f : Nat → Option Nat} {cap : Nat} (h : k ≠ i) : (hm_Mg M i mc f cap).2.2.1 k = M.2.2.1 k := ha_up_ne (f := M.2.2.1) h
theorem hm_Mg4 {M : hm_M} {i k : Nat} {mc : Int32} {f : Nat → Option Nat} {cap : Nat} (h : k ≠ i) : (hm_Mg M i mc f cap).2.2.2 k = M.2.2.2 k := ha_up_ne (f := M.2.2.2) h
theorem hm_Mg1e {M : hm_M} {i : Nat} {mc : Int32} {f : Nat → Option Nat} {cap : Nat} : (hm_Mg M i mc f cap).1 (10 + i) = mc := ha_up_eq (f := M.1)
theorem hm_Mg2e {M : hm_M} {i : Nat} {mc : Int32} {f : Nat → Option Nat} {cap : Nat} : (hm_Mg M i mc f cap).2.1 i = f := ha_up_eq (f := M.2.1)
theorem hm_Mg3e {M : hm_M} {i : Nat} {mc : Int32} {f : Nat → Option Nat} {cap : Nat} : (hm_Mg M i mc f cap).2.2.1 i = cap := ha_up_eq (f := M.2.2.1)
theorem hm_Mg4e {M : hm_M} {i : Nat} {mc : Int32} {f : Nat → Option Nat} {cap : Nat} : (hm_Mg M i mc f cap).2.2.2 i = true := ha_up_eq (f := M.2.2.2)
section HMG
variable {G : hk_G} {S : hs_S} {M : hm_M} {A : Nat → Nat} {g : hk_H} {c nc nb : Nat}
theorem hm_al {i n : Nat} (hk : ha_ok (hm_D S M) A g) (hi : i < 3 + vN (S.1 32 0)) (hb : vN (S.1 32 0) ≤ 12) (hn : hm_n S i = n) (hcap : M.2.2.2 i = true → n ≤ M.2.2.1 i ∧ 1 ≤ M.2.2.1 i ∧ M.2.2.1 i ≤ 150) (h0 : M.2.2.2 i = true ∨ n = 0) : hk_al G (hm_h G S M A g) (A (30 + i)) (M.1 (10 + i)) (hm_ed G M A i) n (hm_cp M i) (M.2.1 i) := by
  refine ⟨by rw [hm_g30 hk hi hb]; unfold hm_ls hm_ed; rw [hn], ?_⟩
  unfold hm_cp hm_ed
  by_cases e : M.2.2.2 i = true
  · rw [if_pos e, if_pos e]
    have := hcap e
    exact ⟨this.1, by omega, Or.inl ⟨hm_g50 hk hi hb e, this.2.1⟩⟩
  · rw [if_neg e, if_neg e]
    exact ⟨by have := h0.resolve_left e; omega, by omega, Or.inr ⟨rfl, rfl⟩⟩
theorem hm_gnd {q : Nat} {x : hk_E} (hk : ha_ok (hm_D S M) A g) (hq : g q = some x) : hm_h G S M A g q = some x := ha_gnd hk hq
theorem hm_okg {q : Nat} {x : hk_E} (hk : ha_ok (hm_D S M) A g) (hq : hm_h G S M A g q = none) : ha_ok (hm_D S M) A (hk_set g q x) ∧ hk_set (hm_h G S M A g) q x = hm_h G S M A (hk_set g q x) ∧ hm_x g (hk_set g q x) := ha_okg hk hq
theorem hm_sg {q : Nat} {x y : hk_E} (hk : ha_ok (hm_D S M) A g) (hq : g q = some y) : ha_ok (hm_D S M) A (hk_set g q x) ∧ hk_set (hm_h G S M A g) q x = hm_h G S M A (hk_set g q x) := by
  have h1 : ∀ i, hm_D S M i → A i ≠ q := fun i hi e => by rw [← e, hk.2 i hi] at hq; cases hq
  exact ⟨⟨hk.1, fun i hi => by rw [hk_set_ne (h1 i hi)]; exact hk.2 i hi⟩, ha_grd h1⟩
-- a new coin
theorem cs_add_13 {S : hs_S} {n : Nat} {a m v : Int32} {j : Nat} : (cs_add S n a m v).1 13 j = if j = n then m else S.1 13 j := rfl
theorem cs_add_14 {S : hs_S} {n : Nat} {a m v : Int32} {j : Nat} : (cs_add S n a m v).1 14 j = if j = n then v else S.1 14 j := rfl
theorem cs_add_15 {S : hs_S} {n : Nat} {a m v : Int32} {j : Nat} : (cs_add S n a m v).1 15 j = if j = n then a else S.1 15 j := rfl
theorem cs_add_16 {S : hs_S} {n : Nat} {a m v : Int32} {j : Nat} : (cs_add S n a m v).1 16 j = if j = n then S.1 16 n + nI 1 else S.1 16 j := rfl
theorem cs_add_17 {S : hs_S} {n : Nat} {a m v : Int32} {j : Nat} : (cs_add S n a m v).1 17 j = if j = n then nI 0 else S.1 17 j := rfl
theorem cs_add_31 {S : hs_S} {n : Nat} {a m v : Int32} : (cs_add S n a m v).1 31 0 = nI (n + 1) := rfl
theorem cs_add_co {S : hs_S} {n : Nat} {a m v : Int32} {j : Nat} (h : j ≠ n) : hm_co (cs_add S n a m v) j = hm_co S j := by
  unfold hm_co
  rw [cs_add_13, cs_add_14, cs_add_15, cs_add_16, cs_add_17, if_neg h, if_neg h, if_neg h, if_neg h, if_neg h]
theorem cs_add_cn {S : hs_S} {n : Nat} {a m v : Int32} (h16 : S.1 16 n = 0) : hm_co (cs_add S n a m v) n = .inr (15, [.int (nI n), .int m, .int v, .int a, .int (nI 1), .int (nI 0)]) := by
  unfold hm_co
  rw [cs_add_13, cs_add_14, cs_add_15, cs_add_16, cs_add_17, if_pos rfl, if_pos rfl, if_pos rfl, if_pos rfl, if_pos rfl, h16]
  rfl
theorem hm_addC {q : Nat} {a m v : Int32} {h1 : hk_H} (ok : hm_ok G S M A c nc nb) (hk : ha_ok (hm_D S M) A g) (hq : hm_h G S M A g q = none) (hn : nc < 90) (h16 : S.1 16 nc = 0)
    (hgr : hk_grown (hm_h G S M A (hk_set g q (.inr (15, [.int (nI nc), .int m, .int v, .int a, .int (nI 1), .int (nI 0)])))) (A 31) (M.1 11) (hm_ed G M A 1) nc (hm_cp M 1) (M.2.1 1) q h1) :
    ∃ (A' : Nat → Nat) (M' : hm_M) (g' : hk_H), A' 0 = A 0 ∧ M'.1 0 = M.1 0 ∧ hm_ok G (cs_add S nc a m v) M' A' c (nc + 1) nb ∧ ha_ok (hm_D (cs_add S nc a m v) M') A' g' ∧ h1 = hm_h G (cs_add S nc a m v) M' A' g' ∧ hm_x g g' := by
  obtain ⟨hk2, e2, x2⟩ := hm_okg (x := .inr (15, [.int (nI nc), .int m, .int v, .int a, .int (nI 1), .int (nI 0)])) hk hq
  have v31 := hm_v31 ok
  have v32 := hm_v32 ok
  have hnD : ¬ hm_D S M (100 + nc) := fun z => by
    have hb := ok.2.2.1.2
    unfold hm_D at z
    rw [v31, v32] at z
    omega
  have gq : g q = none := (ha_none hk.1 hq).2
  obtain ⟨g3, x3, hk3, e3⟩ := ha_lift (E := hm_E G S M A) hk2 hnD (hk_set_eq (h := g) (a := q))
  obtain ⟨e1, cap1, f1, r1, r2, r3, r4, r5, r6⟩ := hgr
  have hin := ok.2.2.2.1 1
  rw [hm_n1 ok] at hin
  have hcp : hm_cp M 1 ≤ 150 ∧ nc ≤ hm_cp M 1 := by
    unfold hm_cp
    by_cases e : M.2.2.2 1 = true
    · rw [if_pos e]; have := hin e; omega
    · rw [if_neg e]; have := ok.2.2.2.2.2.1.1.resolve_left e; omega
  have hA31 : ha_up A (100 + nc) q 31 = A 31 := ha_up_ne (by omega)
  have hA51 : ha_up A (100 + nc) q 51 = A 51 := ha_up_ne (by omega)
  have he : ((fun j => j = 100 + nc ∨ hm_D S M j) 51 ∧ e1 = ha_up A (100 + nc) q 51) ∨ ha (fun j => j = 100 + nc ∨ hm_D S M j) (ha_up A (100 + nc) q) (ha_up (hm_E G S M A) (100 + nc) (.inr (15, [.int (nI nc), .int m, .int v, .int a, .int (nI 1), .int (nI 0)]))) g3 e1 = none := by
    rcases r2 with ⟨p1, p2, p3⟩ | ⟨p1, p2⟩
    · refine Or.inl ⟨Or.inr ?_, ?_⟩
      · unfold hm_cp at p2
        split at p2
        · rename_i hf
          exact Or.inr (Or.inr (Or.inl ⟨by omega, by omega, hf⟩))
        · omega
      · rw [hA51, p1]
        unfold hm_ed
        unfold hm_cp at p2
        split at p2
        · rename_i hf; rw [if_pos hf]
        · omega
    · refine Or.inr ?_
      rw [← e3]
      exact p1
  obtain ⟨g4, x4, hk4, e4⟩ := ha_grow (a := 31) (b := 51) (x := .inl (5, cap1, .inr (.inr (.inr (.inr f1))))) (y := .inr (6, [.int (M.1 11 + nI 1), .ref e1, .int (nI (nc + 1))])) hk3 (Or.inr (Or.inr (Or.inl ⟨by omega, by omega⟩))) (by omega) he
  have hcap : nc + 1 ≤ cap1 ∧ cap1 ≤ 150 := by
    refine ⟨r3, ?_⟩
    rcases r2 with ⟨p1, p2, p3⟩ | ⟨p1, p2⟩ <;> omega
  have A' : ha_up (ha_up A (100 + nc) q) 51 e1 = ha_up (ha_up A (100 + nc) q) 51 e1 := rfl
  have hAne : ∀ j, j ≠ 51 → j ≠ 100 + nc → ha_up (ha_up A (100 + nc) q) 51 e1 j = A j := fun j h1 h2 => by rw [ha_up_ne h1, ha_up_ne h2]
  have hS31 : vN ((cs_add S nc a m v).1 31 0) = nc + 1 := by rw [cs_add_31]; exact vN_nI (by omega)
  have hS32 : vN ((cs_add S nc a m v).1 32 0) = nb := v32
  have hni : ∀ i, i ≠ 1 → hm_n (cs_add S nc a m v) i = hm_n S i := fun i hi => by
    unfold hm_n
    by_cases z0 : i = 0
    · rw [if_pos z0, if_pos z0]; rfl
    · rw [if_neg z0, if_neg z0, if_neg hi, if_neg hi]
      by_cases z2 : i = 2
      · rw [if_pos z2, if_pos z2]; rfl
      · rw [if_neg z2, if_neg z2]; rfl
  have hn1 : hm_n (cs_add S nc a m v) 1 = nc + 1 := by
    unfold hm_n
    rw [if_neg (by decide), if_pos rfl, hS31]
  have fin := hm_is (G := G) (S' := cs_add S nc a m v) (M' := hm_Mg M 1 (M.1 11 + nI 1) f1 cap1) (D := fun j => j = 51 ∨ (j = 100 + nc ∨ hm_D S M j)) (A' := ha_up (ha_up A (100 + nc) q) 51 e1) (E := ha_up (ha_up (ha_up (hm_E G S M A) (100 + nc) (.inr (15, [.int (nI nc), .int m, .int v, .int a, .int (nI 1), .int (nI 0)]))) 51 (.inl (5, cap1, .inr (.inr (.inr (.inr f1)))))) 31 (.inr (6, [.int (M.1 11 + nI 1), .ref e1, .int (nI (nc + 1))]))) (g := g4) ?_ ?_ hk4
  · refine ⟨_, hm_Mg M 1 (M.1 11 + nI 1) f1 cap1, g4, hAne 0 (by omega) (by omega), hm_Mg1 (by omega), ?_, fin.2, ?_, ?_⟩
    · refine ⟨ok.1, ⟨cs_add_31, by omega⟩, ok.2.2.1, fun i hi => ?_, ⟨?_, fun a1 ha1 => ?_⟩, ⟨Or.inl hm_Mg4e, fun j hj => ?_⟩, ⟨?_, fun j hj => ?_⟩, fun j hj => ?_⟩
      · by_cases z : i = 1
        · subst z
          rw [hn1]
          show nc + 1 ≤ ha_up M.2.2.1 1 cap1 1 ∧ 1 ≤ ha_up M.2.2.1 1 cap1 1 ∧ ha_up M.2.2.1 1 cap1 1 ≤ 150
          rw [ha_up_eq]
          omega
        · rw [hni i z]
          have hi2 : M.2.2.2 i = true := by rw [← show (hm_Mg M 1 (M.1 11 + nI 1) f1 cap1).2.2.2 i = M.2.2.2 i from hm_Mg4 (by omega)]; exact hi
          rw [show (hm_Mg M 1 (M.1 11 + nI 1) f1 cap1).2.2.1 i = M.2.2.1 i from hm_Mg3 (by omega)]
          exact ok.2.2.2.1 i hi2
      · rw [show (hm_Mg M 1 (M.1 11 + nI 1) f1 cap1).2.2.2 0 = M.2.2.2 0 from hm_Mg4 (by omega)]; exact ok.2.2.2.2.1.1
      · rw [show (hm_Mg M 1 (M.1 11 + nI 1) f1 cap1).2.1 0 = M.2.1 0 from hm_Mg2 (by omega)]; exact ok.2.2.2.2.1.2 a1 ha1
      · rw [show (hm_Mg M 1 (M.1 11 + nI 1) f1 cap1).2.1 1 = f1 from hm_Mg2e]
        by_cases z : j = nc
        · rw [z, r6, ha_up_ne (by omega), ha_up_eq]
        · rw [r5 j (by omega), hAne _ (by omega) (by omega)]
          exact ok.2.2.2.2.2.1.2 j (by omega)
      · rw [show (hm_Mg M 1 (M.1 11 + nI 1) f1 cap1).2.2.2 2 = M.2.2.2 2 from hm_Mg4 (by omega)]; exact ok.2.2.2.2.2.2.1.1
      · rw [show (hm_Mg M 1 (M.1 11 + nI 1) f1 cap1).2.1 2 = M.2.1 2 from hm_Mg2 (by omega), hAne _ (by omega) (by omega)]; exact ok.2.2.2.2.2.2.1.2 j hj
      · rw [show (hm_Mg M 1 (M.1 11 + nI 1) f1 cap1).2.1 (3 + j) = M.2.1 (3 + j) from hm_Mg2 (by omega), show (hm_Mg M 1 (M.1 11 + nI 1) f1 cap1).2.2.2 (3 + j) = M.2.2.2 (3 + j) from hm_Mg4 (by omega), show (hm_Mg M 1 (M.1 11 + nI 1) f1 cap1).2.2.1 (3 + j) = M.2.2.1 (3 + j) from hm_Mg3 (by omega)]
        exact ok.2.2.2.2.2.2.2 j hj
    · rw [r1, show hm_h G S M A (hk_set g q (.inr (15, [.int (nI nc), .int m, .int v, .int a, .int (nI 1), .int (nI 0)]))) = _ from e3, ← hA31, e4]
      exact fin.1
    · refine (fun p z hz => x4 p z (x3 p z (fun e => by rw [e, gq] at hz; cases hz) ?_))
      exact x2 p z hz
  · intro j
    unfold hm_D
    rw [v31, v32, hS31, hS32]
    by_cases z : j = 51
    · subst z
      exact ⟨fun _ => Or.inr (Or.inr (Or.inl ⟨by omega, by omega, hm_Mg4e (i := 1)⟩)), fun _ => Or.inl rfl⟩
    · have hf : 50 ≤ j → (hm_Mg M 1 (M.1 11 + nI 1) f1 cap1).2.2.2 (j - 50) = M.2.2.2 (j - 50) := fun _ => hm_Mg4 (by omega)
      constructor
      · rintro (h | h | h | h | ⟨h, h2, h3⟩ | h | h)
        · exact absurd h z
        · exact Or.inr (Or.inr (Or.inr (Or.inl ⟨by omega, by omega⟩)))
        · exact Or.inl h
        · exact Or.inr (Or.inl h)
        · exact Or.inr (Or.inr (Or.inl ⟨h, h2, by rw [hf h]; exact h3⟩))
        · exact Or.inr (Or.inr (Or.inr (Or.inl ⟨by omega, by omega⟩)))
        · exact Or.inr (Or.inr (Or.inr (Or.inr h)))
      · rintro (h | h | ⟨h, h2, h3⟩ | h | h)
        · exact Or.inr (Or.inr (Or.inl h))
        · exact Or.inr (Or.inr (Or.inr (Or.inl h)))
        · exact Or.inr (Or.inr (Or.inr (Or.inr (Or.inl ⟨h, h2, by rw [← hf h]; exact h3⟩))))
        · by_cases z2 : j = 100 + nc
          · exact Or.inr (Or.inl z2)
          · exact Or.inr (Or.inr (Or.inr (Or.inr (Or.inr (Or.inl ⟨by omega, by omega⟩)))))
        · exact Or.inr (Or.inr (Or.inr (Or.inr (Or.inr (Or.inr h)))))
  · intro j hj
    by_cases z31 : j = 31
    · subst z31
      rw [ha_up_eq]
      rw [show (31 : Nat) = 30 + 1 from rfl, hm_e30 (by rw [hS32]; omega) (by rw [hS32]; exact ok.2.2.1.2)]
      unfold hm_ls
      rw [hn1, if_pos (show (hm_Mg M 1 (M.1 11 + nI 1) f1 cap1).2.2.2 1 = true from hm_Mg4e), show ha_up (ha_up A (100 + nc) q) 51 e1 (50 + 1) = e1 from ha_up_eq, show (hm_Mg M 1 (M.1 11 + nI 1) f1 cap1).1 (10 + 1) = M.1 11 + nI 1 from hm_Mg1e]
    · rw [ha_up_ne z31]
      by_cases z51 : j = 51
      · subst z51
        rw [ha_up_eq]
        rw [show (51 : Nat) = 50 + 1 from rfl, hm_e50 (by rw [hS32]; omega) (by rw [hS32]; exact ok.2.2.1.2) (show (hm_Mg M 1 (M.1 11 + nI 1) f1 cap1).2.2.2 1 = true from hm_Mg4e)]
        rw [show (hm_Mg M 1 (M.1 11 + nI 1) f1 cap1).2.1 1 = f1 from hm_Mg2e, show (hm_Mg M 1 (M.1 11 + nI 1) f1 cap1).2.2.1 1 = cap1 from hm_Mg3e]
      · rw [ha_up_ne z51]
        by_cases zc : j = 100 + nc
        · subst zc
          rw [ha_up_eq, hm_e100 (by rw [hS31]; omega) (by rw [hS31]; omega), cs_add_cn h16]
        · rw [ha_up_ne zc]
          have hjD : hm_D S M j := (hj.resolve_left z51).resolve_left zc
          refine Eq.symm (hm_E_pa (S := S) (S' := cs_add S nc a m v) (M := M) (M' := hm_Mg M 1 (M.1 11 + nI 1) f1 cap1) (A := A) (A' := ha_up (ha_up A (100 + nc) q) 51 e1) (fun i hi => hAne i (by omega) (by omega)) (fun _ => ?_) (fun _ => rfl) (fun _ => rfl) (fun _ _ _ _ _ => rfl) (fun _ _ _ _ _ => rfl) (fun _ _ _ _ _ => rfl) (fun i ei hi => ?_) (fun i ei => ?_) (fun i ei => cs_add_co (by omega)) (fun i ei => ?_) (by unfold hm_D at hjD; omega))
          · rw [hm_e0, hm_e0, hAne _ (by omega) (by omega), hAne _ (by omega) (by omega), hAne _ (by omega) (by omega), hAne _ (by omega) (by omega), hAne _ (by omega) (by omega), hAne _ (by omega) (by omega), hAne _ (by omega) (by omega), hAne _ (by omega) (by omega), show (hm_Mg M 1 (M.1 11 + nI 1) f1 cap1).1 0 = M.1 0 from hm_Mg1 (by omega)]
            rfl
          · unfold hm_ls
            rw [hni i (by omega), show (hm_Mg M 1 (M.1 11 + nI 1) f1 cap1).2.2.2 i = M.2.2.2 i from hm_Mg4 (by omega), show (hm_Mg M 1 (M.1 11 + nI 1) f1 cap1).1 (10 + i) = M.1 (10 + i) from hm_Mg1 (by omega), hAne (50 + i) (by omega) (by omega)]
          · exact ⟨hm_Mg3 (by omega), hm_Mg2 (by omega)⟩
          · have hi2 : i < vN (S.1 32 0) := by unfold hm_D at hjD; omega
            unfold hm_bi
            rw [hAne (33 + i) (by have := ok.2.2.1.2; omega) (by have := ok.2.2.1.2; omega), show (hm_Mg M 1 (M.1 11 + nI 1) f1 cap1).1 (100 + i) = M.1 (100 + i) from hm_Mg1 (by omega)]
            rfl
end HMG
end GROW

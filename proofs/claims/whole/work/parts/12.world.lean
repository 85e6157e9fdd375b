-- A WORLD BY PLACES: at place i of D the cell E i at the address A i, over a ground h
noncomputable def ha (D : Nat → Prop) (A : Nat → Nat) (E : Nat → hk_E) (h : hk_H) : hk_H := fun q => by
  classical
  exact if z : ∃ i, D i ∧ A i = q then some (E z.choose) else h q
def ha_inj (D : Nat → Prop) (A : Nat → Nat) : Prop := ∀ i j, D i → D j → A i = A j → i = j
def ha_ok (D : Nat → Prop) (A : Nat → Nat) (h : hk_H) : Prop := ha_inj D A ∧ ∀ i, D i → h (A i) = none
def ha_up {α : Type} (f : Nat → α) (i : Nat) (x : α) : Nat → α := fun j => if j = i then x else f j
theorem ha_up_eq {α : Type} {f : Nat → α} {i : Nat} {x : α} : ha_up f i x i = x := if_pos rfl
theorem ha_up_ne {α : Type} {f : Nat → α} {i j : Nat} {x : α} (h : j ≠ i) : ha_up f i x j = f j := if_neg h
theorem ha_get {D : Nat → Prop} {A : Nat → Nat} {E : Nat → hk_E} {h : hk_H} (hi : ha_inj D A) {i : Nat} (hD : D i) : ha D A E h (A i) = some (E i) := by
  have z : ∃ j, D j ∧ A j = A i := ⟨i, hD, rfl⟩
  unfold ha
  rw [dif_pos z]
  rw [hi _ _ z.choose_spec.1 hD z.choose_spec.2]
theorem ha_ne {D : Nat → Prop} {A : Nat → Nat} {E : Nat → hk_E} {h : hk_H} {q : Nat} (hq : ∀ i, D i → A i ≠ q) : ha D A E h q = h q := by
  unfold ha
  exact dif_neg (fun z => hq _ z.choose_spec.1 z.choose_spec.2)
theorem ha_none {D : Nat → Prop} {A : Nat → Nat} {E : Nat → hk_E} {h : hk_H} {q : Nat} (hi : ha_inj D A) (hq : ha D A E h q = none) : (∀ i, D i → A i ≠ q) ∧ h q = none := by
  have h1 : ∀ i, D i → A i ≠ q := fun i hD z => by
    rw [← z, ha_get hi hD] at hq
    cases hq
  exact ⟨h1, by rw [ha_ne h1] at hq; exact hq⟩
theorem ha_ext {D : Nat → Prop} {A A' : Nat → Nat} {E E' : Nat → hk_E} {h : hk_H} (hi : ha_inj D A) (hA : ∀ i, D i → A' i = A i) (hE : ∀ i, D i → E' i = E i) : ha D A' E' h = ha D A E h := by
  have hi' : ha_inj D A' := fun i j hi1 hj1 z => hi i j hi1 hj1 (by rw [← hA i hi1, ← hA j hj1]; exact z)
  funext q
  by_cases z : ∃ i, D i ∧ A i = q
  · obtain ⟨i, hD, rfl⟩ := z
    rw [ha_get hi hD, ← hA i hD, ha_get hi' hD, hE i hD]
  · have z1 : ∀ i, D i → A i ≠ q := fun i hD e => z ⟨i, hD, e⟩
    rw [ha_ne z1, ha_ne (fun i hD e => z1 i hD (by rw [← hA i hD]; exact e))]
theorem ha_set {D : Nat → Prop} {A : Nat → Nat} {E E' : Nat → hk_E} {h : hk_H} {i : Nat} {x : hk_E} (hi : ha_inj D A) (hD : D i) (hx : E' i = x) (ho : ∀ j, D j → j ≠ i → E' j = E j) : hk_set (ha D A E h) (A i) x = ha D A E' h := by
  funext q
  by_cases z : ∃ j, D j ∧ A j = q
  · obtain ⟨j, hj, rfl⟩ := z
    rw [ha_get hi hj]
    by_cases e : j = i
    · subst e
      rw [hk_set_eq, hx]
    · rw [hk_set_ne (fun z => e (hi _ _ hj hD z)), ha_get hi hj, ho j hj e]
  · have z1 : ∀ j, D j → A j ≠ q := fun j hj e => z ⟨j, hj, e⟩
    rw [hk_set_ne (fun e => z1 i hD e.symm), ha_ne z1, ha_ne z1]
theorem ha_new {D D' : Nat → Prop} {A A' : Nat → Nat} {E E' : Nat → hk_E} {h : hk_H} {i q : Nat} {x : hk_E} (hk : ha_ok D A h) (hn : ¬ D i) (hq : ha D A E h q = none) (hD : ∀ j, D' j ↔ (j = i ∨ D j)) (hA : A' i = q) (hA2 : ∀ j, D j → A' j = A j) (hx : E' i = x) (ho : ∀ j, D j → E' j = E j) : ha_ok D' A' h ∧ hk_set (ha D A E h) q x = ha D' A' E' h := by
  obtain ⟨h1, h2⟩ := ha_none hk.1 hq
  have hinj : ha_inj D' A' := by
    intro a b ha hb e
    rcases (hD a).mp ha with rfl | ha <;> rcases (hD b).mp hb with rfl | hb
    · rfl
    · rw [hA, hA2 b hb] at e; exact absurd e.symm (h1 b hb)
    · rw [hA, hA2 a ha] at e; exact absurd e (h1 a ha)
    · rw [hA2 a ha, hA2 b hb] at e; exact hk.1 a b ha hb e
  refine ⟨⟨hinj, fun j hj => ?_⟩, ?_⟩
  · rcases (hD j).mp hj with rfl | hj
    · rw [hA]; exact h2
    · rw [hA2 j hj]; exact hk.2 j hj
  · funext p
    by_cases z : ∃ j, D' j ∧ A' j = p
    · obtain ⟨j, hj, rfl⟩ := z
      rw [ha_get hinj hj]
      rcases (hD j).mp hj with rfl | hj2
      · rw [hA, hk_set_eq, hx]
      · rw [hA2 j hj2, hk_set_ne (h1 j hj2), ha_get hk.1 hj2, ho j hj2]
    · have z1 : ∀ j, D' j → A' j ≠ p := fun j hj e => z ⟨j, hj, e⟩
      have hpq : p ≠ q := fun e => z1 i ((hD i).mpr (Or.inl rfl)) (by rw [hA, e])
      rw [hk_set_ne hpq, ha_ne z1, ha_ne (fun j hj e => z1 j ((hD j).mpr (Or.inr hj)) (by rw [hA2 j hj]; exact e))]
-- what lies in the ground: a new cell there
theorem ha_grd {D : Nat → Prop} {A : Nat → Nat} {E : Nat → hk_E} {h : hk_H} {q : Nat} {x : hk_E} (hq : ∀ i, D i → A i ≠ q) : hk_set (ha D A E h) q x = ha D A E (hk_set h q x) := by
  funext p
  by_cases z : ∃ j, D j ∧ A j = p
  · obtain ⟨j, hj, rfl⟩ := z
    rw [hk_set_ne (hq j hj)]
    unfold ha
    have z2 : ∃ k, D k ∧ A k = A j := ⟨j, hj, rfl⟩
    rw [dif_pos z2, dif_pos z2]
  · have z1 : ∀ j, D j → A j ≠ p := fun j hj e => z ⟨j, hj, e⟩
    rw [ha_ne z1]
    by_cases e : p = q
    · subst e; rw [hk_set_eq, hk_set_eq]
    · rw [hk_set_ne e, hk_set_ne e, ha_ne z1]
theorem ha_ov {A : Nat → Nat} {E : Nat → hk_E} {h : hk_H} {S : hs_S} (hi : hs_inj A) (hE : ∀ i, i < 30 → E i = hs_E A S i) : ha (fun i => i < 30) A E h = hs_ov A S h := by
  have hi2 : ha_inj (fun i => i < 30) A := fun i j h1 h2 e => hi i j h1 h2 e
  funext q
  by_cases z : ∃ j, j < 30 ∧ A j = q
  · obtain ⟨j, hj, rfl⟩ := z
    rw [ha_get hi2 hj, hs_ov_get hi hj, hE j hj]
  · have z1 : ∀ j, j < 30 → A j ≠ q := fun j hj e => z ⟨j, hj, e⟩
    rw [ha_ne z1, hs_ov_ne z1]

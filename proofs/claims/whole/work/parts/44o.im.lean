section HMN
variable {D : Nat → Prop} {A : Nat → Nat} {E : Nat → hk_E} {h : hk_H} {q N K i0 : Nat}
def ha_mA (A : Nat → Nat) (i0 N q : Nat) : Nat → Nat := fun j => if i0 ≤ j ∧ j ≤ i0 + N then q + (j - i0) else A j
def ha_mE (E : Nat → hk_E) (i0 N K q : Nat) : Nat → hk_E := fun j => if j = i0 then .inl (6, N, .inr (.inr (.inr (.inr (fun i => if i < N then some (q + 1 + i) else none))))) else (if i0 < j ∧ j ≤ i0 + N then .inl (0, K, .inl (fun _ => 0)) else E j)
theorem ha_mn (hk : ha_ok D A h) (hn : ∀ j, i0 ≤ j → j ≤ i0 + N → ¬ D j) (hq : ∀ i, i ≤ N → ha D A E h (q + i) = none) : ha_ok (fun j => (i0 ≤ j ∧ j ≤ i0 + N) ∨ D j) (ha_mA A i0 N q) h ∧ hk_mn (ha D A E h) q N K = ha (fun j => (i0 ≤ j ∧ j ≤ i0 + N) ∨ D j) (ha_mA A i0 N q) (ha_mE E i0 N K q) h := by
  have hfr : ∀ i, i ≤ N → (∀ j, D j → A j ≠ q + i) ∧ h (q + i) = none := fun i hi => ha_none hk.1 (hq i hi)
  have mA1 : ∀ j, i0 ≤ j → j ≤ i0 + N → ha_mA A i0 N q j = q + (j - i0) := fun j h1 h2 => if_pos ⟨h1, h2⟩
  have mA2 : ∀ j, D j → ha_mA A i0 N q j = A j := fun j hj => if_neg (fun z => hn j z.1 z.2 hj)
  have hok : ha_ok (fun j => (i0 ≤ j ∧ j ≤ i0 + N) ∨ D j) (ha_mA A i0 N q) h := by
    refine ⟨fun i j hi hj e => ?_, fun i hi => ?_⟩
    · rcases hi with hi | hi <;> rcases hj with hj | hj
      · rw [mA1 i hi.1 hi.2, mA1 j hj.1 hj.2] at e; omega
      · rw [mA1 i hi.1 hi.2, mA2 j hj] at e
        exact absurd e.symm ((hfr (i - i0) (by omega)).1 j hj)
      · rw [mA2 i hi, mA1 j hj.1 hj.2] at e
        exact absurd e ((hfr (j - i0) (by omega)).1 i hi)
      · rw [mA2 i hi, mA2 j hj] at e
        exact hk.1 i j hi hj e
    · rcases hi with hi | hi
      · rw [mA1 i hi.1 hi.2]; exact (hfr (i - i0) (by omega)).2
      · rw [mA2 i hi]; exact hk.2 i hi
  refine ⟨hok, ?_⟩
  funext a
  unfold hk_mn
  by_cases e1 : a = q
  · rw [if_pos e1, e1]
    have := ha_get (E := ha_mE E i0 N K q) (h := h) hok.1 (i := i0) (Or.inl ⟨Nat.le_refl _, Nat.le_add_right _ _⟩)
    rw [mA1 i0 (Nat.le_refl _) (Nat.le_add_right _ _), Nat.sub_self, Nat.add_zero] at this
    rw [this]
    exact congrArg some (if_pos rfl).symm
  · rw [if_neg e1]
    by_cases e2 : q < a ∧ a ≤ q + N
    · rw [if_pos e2]
      have := ha_get (E := ha_mE E i0 N K q) (h := h) hok.1 (i := i0 + (a - q)) (Or.inl ⟨by omega, by omega⟩)
      rw [mA1 _ (by omega) (by omega), show q + (i0 + (a - q) - i0) = a by omega] at this
      rw [this]
      refine congrArg some (Eq.symm ?_)
      unfold ha_mE
      rw [if_neg (by omega), if_pos ⟨by omega, by omega⟩]
    · rw [if_neg e2]
      by_cases e3 : ∃ j, D j ∧ A j = a
      · obtain ⟨j, j1, j2⟩ := e3
        have h1 := ha_get (E := E) (h := h) hk.1 j1
        have h2 := ha_get (E := ha_mE E i0 N K q) (h := h) hok.1 (i := j) (Or.inr j1)
        rw [mA2 j j1, j2] at h2
        rw [j2] at h1
        rw [h1, h2]
        have nj : ¬ (i0 ≤ j ∧ j ≤ i0 + N) := fun z => hn j z.1 z.2 j1
        refine congrArg some (Eq.symm ?_)
        unfold ha_mE
        rw [if_neg (by omega), if_neg (by omega)]
      · rw [ha_ne (fun j hj e => e3 ⟨j, hj, e⟩), ha_ne (fun j hj e => ?_)]
        rcases hj with hj | hj
        · rw [mA1 j hj.1 hj.2] at e; omega
        · rw [mA2 j hj] at e; exact e3 ⟨j, hj, e⟩
end HMN
section CAM
variable {G : hk_G} {l : Launch} {d : Nat} {y : MethodName} {b : ByteArray} {nL : Nat} {ret : Option FieldType} {hh : List (Nat × Nat × Nat × Nat)} {Q : Option Value → hk_H → Prop} {X : String → hk_H → Prop} {k n : Nat} {h : hk_H} {pc pc' : Nat} {lv : List (Option Value)} {st : List Value}
variable {D : Nat → Prop} {A : Nat → Nat} {E : Nat → hk_E}
theorem ca_mna (i0 : Nat) {idx N K : Nat} {n0 k0 : Int32} (hk : ha_ok D A h) (hn : ∀ j, i0 ≤ j → j ≤ i0 + N → ¬ D j) (hd : decode b pc = .ok (.multianewarray idx 2, 4)) (hp : pc + 4 = pc') (L : Cond.classLink y.cls idx ("[" ++ (FieldType.array .int).toString) ∈ hk_all) (hw : Cond.arrayClass .int ∈ hk_all) (hn0 : ¬ n0 < 0) (hk0 : ¬ k0 < 0) (hN : n0.toNatClampNeg = N) (hK : k0.toNatClampNeg = K) (hb1 : N * 4 ≤ 536870912) (hb2 : K * componentBytes .int ≤ 536870912) (hb3 : K ≤ 536870912) (hb : 1 + N ≤ k ∧ N + N * K ≤ n) (kk : ∀ (A1 : Nat → Nat) (E1 : Nat → hk_E), (∀ j, D j → A1 j = A j) → (∀ j, D j → E1 j = E j) → E1 i0 = .inl (6, N, .inr (.inr (.inr (.inr (hm_rf N (i0 + 1) A1))))) → (∀ i, i < N → E1 (i0 + 1 + i) = .inl (0, K, .inl (fun _ => 0))) → ha_ok (fun j => (i0 ≤ j ∧ j ≤ i0 + N) ∨ D j) A1 h → hk_W G l d y b nL ret hh Q X (k - (1 + N)) (n - (N + N * K)) (ha (fun j => (i0 ≤ j ∧ j ≤ i0 + N) ∨ D j) A1 E1 h) pc' lv (.ref (A1 i0) :: st)) : hk_W G l d y b nL ret hh Q X k n (ha D A E h) pc lv (.int k0 :: .int n0 :: st) := by
  refine hk_mna hd hp L hw hn0 hk0 hN hK hb1 hb2 hb3 hb (fun q hq => ?_)
  obtain ⟨g1, g2⟩ := ha_mn (K := K) hk hn hq
  rw [g2]
  have e0 : ha_mA A i0 N q i0 = q := by
    unfold ha_mA
    rw [if_pos ⟨Nat.le_refl _, Nat.le_add_right _ _⟩]; omega
  have := kk (ha_mA A i0 N q) (ha_mE E i0 N K q) (fun j hj => if_neg (fun z => hn j z.1 z.2 hj)) (fun j hj => ?_) ?_ (fun i hi => ?_) g1
  · rw [e0] at this; exact this
  · have nj : ¬ (i0 ≤ j ∧ j ≤ i0 + N) := fun z => hn j z.1 z.2 hj
    unfold ha_mE
    rw [if_neg (by omega), if_neg (by omega)]
  · unfold ha_mE
    rw [if_pos rfl]
    congr 7
    funext i
    unfold hm_rf
    by_cases e : i < N
    · rw [if_pos e, if_pos e]
      unfold ha_mA
      rw [if_pos ⟨by omega, by omega⟩]
      congr 1
      omega
    · rw [if_neg e, if_neg e]
  · unfold ha_mE
    rw [if_neg (by omega), if_pos ⟨by omega, by omega⟩]
end CAM

-- what stays where its rows stay
section ST1
variable {S S' : hs_S} {c nc nb i k : Nat}
theorem jA_of (h : jA S c) (e : ∀ i, i = 7 ∨ i = 8 ∨ i = 30 → S'.1 i = S.1 i) : jA S' c := by
  unfold jA at h ⊢
  rw [e 7 (by decide), e 8 (by decide), e 30 (by decide)]
  exact h
theorem mi_C_of (h : mi_C S c nc) (e : ∀ i, i = 13 ∨ i = 14 ∨ i = 15 → S'.1 i = S.1 i) : mi_C S' c nc := by
  unfold mi_C at h ⊢
  rw [e 13 (by decide), e 14 (by decide), e 15 (by decide)]
  exact h
theorem jB_of (h : jB S c nc) (e : ∀ i, i = 13 ∨ i = 14 ∨ i = 15 ∨ i = 16 ∨ i = 17 ∨ i = 18 ∨ i = 31 → S'.1 i = S.1 i) : jB S' c nc := by
  unfold jB mi_C at h ⊢
  rw [e 13 (by decide), e 14 (by decide), e 15 (by decide), e 16 (by decide), e 17 (by decide), e 18 (by decide), e 31 (by decide)]
  exact h
theorem jM_of (h : jM S) (e : ∀ i, i = 9 ∨ i = 10 → S'.1 i = S.1 i) : jM S' := by
  unfold jM at h ⊢
  rw [e 9 (by decide), e 10 (by decide)]
  exact h
theorem oT_ext {m : Nat} (h : ∀ a, a < 6 → S'.1 12 (a * 2 + m) = S.1 12 (a * 2 + m)) : hs_oT S' m = hs_oT S m := hs_T_ext h
theorem jO_of (h : jO S nc i) (hk : i ≤ k) (e : ∀ i, i = 11 ∨ i = 12 ∨ i = 13 ∨ i = 14 → S'.1 i = S.1 i) : jO S' nc k := by
  obtain ⟨h1, h2⟩ := h
  refine ⟨by rw [e 12 (by decide)]; exact h1, fun m hm => ?_⟩
  have e1 : hs_oT S' m = hs_oT S m := oT_ext (fun a ha => by rw [e 12 (by decide)])
  have e2 : hs_wT S' m nc = hs_wT S m nc := hs_wT_ext (fun j hj => by rw [e 13 (by decide), e 14 (by decide)]; exact ⟨rfl, rfl⟩)
  rw [e1, e2, e 11 (by decide)]
  exact ⟨(h2 m hm).1, by have := (h2 m hm).2; omega⟩
theorem jC_of (h : jC S i) (hk : i ≤ k) (e : ∀ i, i = 8 ∨ i = 19 → S'.1 i = S.1 i) : jC S' k := by
  unfold jC at h ⊢
  rw [e 8 (by decide), e 19 (by decide)]
  exact ⟨h.1, by have := h.2.1; omega, h.2.2⟩
theorem jD_of (h : jD S c nb i) (hk : i ≤ k) (e : ∀ i, i = 20 ∨ i = 21 ∨ i = 22 ∨ i = 23 ∨ i = 24 ∨ i = 25 ∨ i = 26 ∨ i = 32 ∨ i = 33 → S'.1 i = S.1 i) : jD S' c nb k := by
  unfold jD cs_liab at h ⊢
  rw [e 20 (by decide), e 21 (by decide), e 22 (by decide), e 23 (by decide), e 24 (by decide), e 25 (by decide), e 26 (by decide), e 32 (by decide), e 33 (by decide)]
  obtain ⟨d1, d2, d3, d4, d5, d6, d, d7, d8⟩ := h
  exact ⟨d1, d2, d3, d4, d5, d6, d, by omega, d8⟩
theorem jV_of (h : jV S c i) (hk : i ≤ k) (e : S'.1 27 = S.1 27) : jV S' c k := fun v a hv ha => by
  obtain ⟨x, x1, x2⟩ := h v a hv ha
  rw [e]
  exact ⟨x, by omega, x2⟩
end ST1
section ST2
variable {S : hs_S} {c nc nb i : Nat}
theorem st_kindOf {v0 : Int32} (hj : hJ S c nc nb i) (hi : i < 512) (z : cd_H c v0 = 0) : hm_q (S) (S) ∧ hJ (S) (c) (nc) (nb) (i + 1) ∧ cs_kindOf S (vN v0) = cs_kindOf S (vN v0) := ⟨hm_q.rf, hj.up (Nat.le_succ i), rfl⟩
theorem st_claim {v0 v1 : Int32} (hj : hJ S c nc nb i) (hi : i < 512) (z : cd_claim c v0 v1 = 0) : hm_q (S) (S) ∧ hJ (S) (c) (nc) (nb) (i + 1) ∧ S.1 19 (vN v0 * 6 + vN v1) = S.1 19 (vN v0 * 6 + vN v1) := ⟨hm_q.rf, hj.up (Nat.le_succ i), rfl⟩
theorem st_holderOf {v0 : Int32} (hj : hJ S c nc nb i) (hi : i < 512) (z : cd_H nb v0 = 0) : hm_q (S) (S) ∧ hJ (S) (c) (nc) (nb) (i + 1) ∧ S.1 24 (vN v0) = S.1 24 (vN v0) := ⟨hm_q.rf, hj.up (Nat.le_succ i), rfl⟩
theorem st_coins {v0 v1 : Int32} (hj : hJ S c nc nb i) (hi : i < 512) (z : cd_HM c v0 v1 = 0) : hm_q (S) (S) ∧ hJ (S) (c) (nc) (nb) (i + 1) ∧ nI (cs_owned S (vN v0) (cs_m v1) nc) = nI (cs_owned S (vN v0) (cs_m v1) nc) := ⟨hm_q.rf, hj.up (Nat.le_succ i), rfl⟩
theorem st_weightOf {v0 : Int32} (hj : hJ S c nc nb i) (hi : i < 512) (z : cd_H nc v0 = 0) : hm_q (S) (S) ∧ hJ (S) (c) (nc) (nb) (i + 1) ∧ S.1 14 (vN v0) = S.1 14 (vN v0) := ⟨hm_q.rf, hj.up (Nat.le_succ i), rfl⟩
theorem st_ownerOf {v0 : Int32} (hj : hJ S c nc nb i) (hi : i < 512) (z : cd_H nc v0 = 0) : hm_q (S) (S) ∧ hJ (S) (c) (nc) (nb) (i + 1) ∧ S.1 15 (vN v0) = S.1 15 (vN v0) := ⟨hm_q.rf, hj.up (Nat.le_succ i), rfl⟩
theorem st_owners {v0 : Int32} (hj : hJ S c nc nb i) (hi : i < 512) (z : cd_H nc v0 = 0) : hm_q (S) (S) ∧ hJ (S) (c) (nc) (nb) (i + 1) ∧ S.1 16 (vN v0) = S.1 16 (vN v0) := ⟨hm_q.rf, hj.up (Nat.le_succ i), rfl⟩
theorem st_ore {v0 v1 : Int32} (hj : hJ S c nc nb i) (hi : i < 512) (z : cd_HM c v0 v1 = 0) : hm_q (S) (S) ∧ hJ (S) (c) (nc) (nb) (i + 1) ∧ S.1 12 (vN v0 * 2 + cs_m v1) = S.1 12 (vN v0 * 2 + cs_m v1) := ⟨hm_q.rf, hj.up (Nat.le_succ i), rfl⟩
-- ore
theorem oT_up {S' : hs_S} {a m : Nat} {x : Int32} (h : S'.1 12 = upd (S.1 12) (a * 2 + m) x) (ha : a < 6) : hs_oT S' m + vN (S.1 12 (a * 2 + m)) = hs_oT S m + vN x := by
  have e : hs_oT S' m = hs_T (upd (fun a => S.1 12 (a * 2 + m)) a x) 6 := hs_T_ext (fun j hj => by
    rw [h]
    by_cases q : j = a
    · subst q; rw [show upd (S.1 12) (j * 2 + m) x (j * 2 + m) = x from if_pos rfl]; exact (if_pos rfl).symm
    · rw [pk_un (by omega), pk_un q])
  rw [e]
  exact hs_T_up (f := fun a => S.1 12 (a * 2 + m)) ha
theorem oT_ot {S' : hs_S} {a m p : Nat} {x : Int32} (h : S'.1 12 = upd (S.1 12) (a * 2 + m) x) (hm : m < 2) (hp : p < 2) (hne : p ≠ m) : hs_oT S' p = hs_oT S p := oT_ext (fun j hj => by rw [h, pk_un (by omega)])
theorem oT_le {a m : Nat} (ha : a < 6) : vN (S.1 12 (a * 2 + m)) ≤ hs_oT S m := hs_T_le (f := fun a => S.1 12 (a * 2 + m)) ha
theorem nn_add1 {f : Nat → Int32} {n k y B : Nat} (h : hs_nn f n) (hk : k < n) (hB : vN (f k) ≤ B) (hy : y + B < 2 ^ 31) : f k + nI y = nI (vN (f k) + y) ∧ hs_nn (upd f k (f k + nI y)) n ∧ vN (f k + nI y) = vN (f k) + y := by
  obtain ⟨h1, h2⟩ := nn_of (h k hk)
  have e : f k + nI y = nI (vN (f k) + y) := by
    refine (congrArg (· + nI y) h1).trans ?_
    exact nI_add _ _
  refine ⟨e, hs_nn_up h (by rw [e]; exact nI_pos (by omega)), ?_⟩
  rw [e, vN_nI (by omega)]
theorem wT_up {S' : hs_S} {j m : Nat} {x : Int32} (h13 : S'.1 13 = S.1 13) (h14 : S'.1 14 = upd (S.1 14) j x) : ∀ {n : Nat}, (n ≤ j → hs_wT S' m n = hs_wT S m n) ∧ (j < n → S.1 13 j = nI m → hs_wT S' m n + vN (S.1 14 j) = hs_wT S m n + vN x) ∧ (¬ S.1 13 j = nI m → hs_wT S' m n = hs_wT S m n) := by
  intro n
  induction n with
  | zero => rw [hs_wT_0, hs_wT_0]; exact ⟨fun _ => rfl, fun z => absurd z (by omega), fun _ => rfl⟩
  | succ n ih =>
    obtain ⟨i1, i2, i3⟩ := ih
    rw [hs_wT_s, hs_wT_s, h13, h14]
    refine ⟨fun z => ?_, fun z1 z2 => ?_, fun z => ?_⟩
    · rw [pk_un (by omega), i1 (by omega)]
    · by_cases e : n = j
      · subst e
        rw [if_pos z2, if_pos z2, i1 (Nat.le_refl _), show upd (S.1 14) n x n = x from if_pos rfl]
        omega
      · rw [pk_un e]
        have := i2 (by omega) z2
        split <;> omega
    · by_cases e : n = j
      · subst e
        rw [if_neg z, if_neg z, i3 z]
      · rw [pk_un e, i3 z]
theorem jO_dig {a m q : Nat} (h : jO S nc i) (hi : i < 512) (ha : a < 6) (hm : m < 2) (hq : q ≤ 99) : jO (cs_une S a m (nI q)) nc (i + 1) := by
  obtain ⟨h1, h2⟩ := h
  have r12 : (cs_une S a m (nI q)).1 12 = upd (S.1 12) (a * 2 + m) (S.1 12 (a * 2 + m) + nI q) := rfl
  have r11 : (cs_une S a m (nI q)).1 11 = upd (S.1 11) m (S.1 11 m + nI q) := rfl
  have hb := (h2 m hm).2
  have hle := oT_le (S := S) (m := m) ha
  obtain ⟨n1, n2, n3⟩ := nn_add1 (y := q) (B := 99 * i) h1 (show a * 2 + m < 12 by omega) (by omega) (by omega)
  refine ⟨by rw [r12]; exact n2, fun p hp => ?_⟩
  have ew : hs_wT (cs_une S a m (nI q)) p nc = hs_wT S p nc := hs_wT_ext (fun j hj => ⟨rfl, rfl⟩)
  rw [ew, r11]
  by_cases e : p = m
  · subst e
    have u := oT_up r12 ha
    rw [n3] at u
    have u2 : hs_oT (cs_une S a p (nI q)) p = hs_oT S p + q := by omega
    rw [u2, show upd (S.1 11) p (S.1 11 p + nI q) p = S.1 11 p + nI q from if_pos rfl, (h2 p hp).1, nI_add]
    exact ⟨congrArg nI (by omega), by omega⟩
  · rw [oT_ot r12 hm hp e, pk_un e]
    exact ⟨(h2 p hp).1, by have := (h2 p hp).2; omega⟩
theorem st_dig {v0 v1 v2 : Int32} (hj : hJ S c nc nb i) (hi : i < 512) (z : cd_dig S c v0 v1 v2 = 0) : hm_q (cs_dig S v0 v1 v2) (cs_dig S v0 v1 v2) ∧ hJ (cs_dig S v0 v1 v2) (c) (nc) (nb) (i + 1) ∧ (cs_dig S v0 v1 v2).1 12 (vN v0 * 2 + cs_m v1) = (cs_dig S v0 v1 v2).1 12 (vN v0 * 2 + cs_m v1) := by
  obtain ⟨z1, z⟩ := cs_sq_z.mp z
  obtain ⟨z2, z⟩ := cs_sq_z.mp z
  obtain ⟨z3, z4⟩ := cs_sq_z.mp z
  obtain ⟨j1, j2, j3, j4, j5, j6, j7⟩ := hj
  have hc := j1.2.2.1
  obtain ⟨a, ha, rfl⟩ := cd_H_of (by omega) z1
  obtain ⟨q, q1, q2, rfl⟩ := cd_R_of (by omega) z3
  have va : vN (nI a) = a := vN_nI (by omega)
  refine ⟨hm_q.rf, ⟨jA_of j1 (fun i h => by rcases h with rfl | rfl | rfl <;> rfl), jB_of j2 (fun i h => by rcases h with rfl | rfl | rfl | rfl | rfl | rfl | rfl <;> rfl), jM_of j3 (fun i h => by rcases h with rfl | rfl <;> rfl), ?_, jC_of j5 (Nat.le_succ i) (fun i h => by rcases h with rfl | rfl <;> rfl), jD_of j6 (Nat.le_succ i) (fun i h => by rcases h with rfl | rfl | rfl | rfl | rfl | rfl | rfl | rfl | rfl <;> rfl), jV_of j7 (Nat.le_succ i) rfl⟩, rfl⟩
  unfold cs_dig
  rw [va]
  exact jO_dig j4 hi (by omega) (cs_m_lt v1) q2
theorem st_decree {v0 v1 v2 : Int32} (hj : hJ S c nc nb i) (hi : i < 512) (z : cd_decree v0 v1 v2 = 0) : hm_q (cs_decree S v0 v1 v2) (cs_decree S v0 v1 v2) ∧ hJ (cs_decree S v0 v1 v2) (c) (nc) (nb) (i + 1) ∧ nI 100 * S.1 9 (cs_m v0) + S.1 10 (cs_m v0) = nI 100 * S.1 9 (cs_m v0) + S.1 10 (cs_m v0) := by
  obtain ⟨z1, z⟩ := cs_sq_z.mp z
  obtain ⟨z2, z3⟩ := cs_sq_z.mp z
  obtain ⟨j1, j2, j3, j4, j5, j6, j7⟩ := hj
  obtain ⟨p, p1, p2, rfl⟩ := cd_R_of (by omega) z2
  obtain ⟨q, q1, q2, rfl⟩ := cd_R_of (by omega) z3
  refine ⟨hm_q.rf, ⟨jA_of j1 (fun i h => by rcases h with rfl | rfl | rfl <;> rfl), jB_of j2 (fun i h => by rcases h with rfl | rfl | rfl | rfl | rfl | rfl | rfl <;> rfl), fun m hm => ?_, jO_of j4 (Nat.le_succ i) (fun i h => by rcases h with rfl | rfl | rfl | rfl <;> rfl), jC_of j5 (Nat.le_succ i) (fun i h => by rcases h with rfl | rfl <;> rfl), jD_of j6 (Nat.le_succ i) (fun i h => by rcases h with rfl | rfl | rfl | rfl | rfl | rfl | rfl | rfl | rfl <;> rfl), jV_of j7 (Nat.le_succ i) rfl⟩, rfl⟩
  have r9 : (cs_decree S v0 (nI p) (nI q)).1 9 = upd (S.1 9) (cs_m v0) (nI p) := rfl
  have r10 : (cs_decree S v0 (nI p) (nI q)).1 10 = upd (S.1 10) (cs_m v0) (nI q) := rfl
  rw [r9, r10]
  by_cases e : m = cs_m v0
  · rw [e, show upd (S.1 9) (cs_m v0) (nI p) (cs_m v0) = nI p from if_pos rfl, show upd (S.1 10) (cs_m v0) (nI q) (cs_m v0) = nI q from if_pos rfl]
    exact ⟨⟨p, p2, rfl⟩, q, q1, q2, rfl⟩
  · rw [pk_un e, pk_un e]
    exact j3 m hm
theorem st_hoard {v0 v1 : Int32} (hj : hJ S c nc nb i) (hi : i < 512) (hq : v1 = nI 0 ∨ v1 = nI 1) (z : cd_hoard S nc v0 = 0) : hm_q (hs_su S 17 (vN v0) v1) (hs_su S 17 (vN v0) v1) ∧ hJ (hs_su S 17 (vN v0) v1) (c) (nc) (nb) (i + 1) ∧ S.1 17 (vN v0) = S.1 17 (vN v0) := by
  obtain ⟨j1, ⟨b1, b2, b3, b4, b5, b6⟩, j3, j4, j5, j6, j7⟩ := hj
  refine ⟨hm_q.rf, ⟨jA_of j1 (fun i h => by rcases h with rfl | rfl | rfl <;> rfl), ⟨b1, b2, mi_C_of b3 (fun i h => by rcases h with rfl | rfl | rfl <;> rfl), b4, fun j => ?_, b6⟩, jM_of j3 (fun i h => by rcases h with rfl | rfl <;> rfl), jO_of j4 (Nat.le_succ i) (fun i h => by rcases h with rfl | rfl | rfl | rfl <;> rfl), jC_of j5 (Nat.le_succ i) (fun i h => by rcases h with rfl | rfl <;> rfl), jD_of j6 (Nat.le_succ i) (fun i h => by rcases h with rfl | rfl | rfl | rfl | rfl | rfl | rfl | rfl | rfl <;> rfl), jV_of j7 (Nat.le_succ i) rfl⟩, rfl⟩
  rw [hs_su_eq]
  by_cases e : j = vN v0
  · subst e
    rw [show upd (S.1 17) (vN v0) v1 (vN v0) = v1 from if_pos rfl]
    exact hq
  · rw [pk_un e]
    exact b5 j
end ST2

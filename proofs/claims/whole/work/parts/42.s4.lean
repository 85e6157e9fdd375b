section ST6
variable {S S' : hs_S} {c nc nb i B : Nat}
theorem jB_give {j t : Nat} (h : jB S c nc) (hj : j < nc) (ht : t < c) (hn : ¬ S.1 15 j = -1) : jB (cs_give S j (nI t)) c nc := by
  obtain ⟨b1, b2, b3, b4, b5, b6⟩ := h
  have r15 : (cs_give S j (nI t)).1 15 = upd (S.1 15) j (nI t) := rfl
  have r16 : (cs_give S j (nI t)).1 16 = upd (S.1 16) j (S.1 16 j + nI 1) := rfl
  have r17 : (cs_give S j (nI t)).1 17 = upd (S.1 17) j (nI 0) := rfl
  have r18 : (cs_give S j (nI t)).1 18 = upd (S.1 18) j (nI t) := rfl
  refine ⟨b1, b2, fun k hk => ?_, fun k hk => ?_, fun k => ?_, fun k hk => ?_⟩
  · obtain ⟨m, w, h1, h2, h3, h4, h5⟩ := b3 k hk
    refine ⟨m, w, h1, h2, h3, h4, ?_⟩
    rw [r15]
    by_cases e : k = j
    · subst e
      rw [show upd (S.1 15) k (nI t) k = nI t from if_pos rfl]
      rcases h5 with ⟨_, h5⟩ | ⟨h5, _⟩
      · exact absurd h5 hn
      · exact Or.inr ⟨h5, t, ht, rfl⟩
    · rw [pk_un e]; exact h5
  · rw [r16, pk_un (by omega)]; exact b4 k hk
  · rw [r17]
    by_cases e : k = j
    · exact Or.inl (by rw [e]; exact if_pos rfl)
    · rw [pk_un e]; exact b5 k
  · rw [r15, r18]
    by_cases e : k = j
    · exact Or.inr (by rw [e]; exact (if_pos rfl).trans (if_pos rfl).symm)
    · rw [pk_un e, pk_un e]; exact b6 k hk
theorem isL_own {a m j : Nat} (ha : a < 6) (h : cs_isL S a m j = true) : S.1 15 j = nI a := by
  unfold cs_isL at h
  split at h
  · assumption
  · cases h
theorem gl_J {a t m : Nat} (ha : a < 6) (ht : t < c) (h : jB S c nc) : ∀ k, jB (cs_gl a t m nc S k).1 c nc ∧ ∀ r, (r ≠ 15 ∧ r ≠ 16 ∧ r ≠ 17 ∧ r ≠ 18) → (cs_gl a t m nc S k).1.1 r = S.1 r
  | 0 => ⟨h, fun _ _ => rfl⟩
  | k + 1 => by
    obtain ⟨i1, i2⟩ := gl_J (m := m) ha ht h k
    rw [cs_gl_s]
    unfold cs_gls
    split
    · exact ⟨i1, i2⟩
    · rename_i j hj
      obtain ⟨l1, l2⟩ := cs_light_lt hj
      refine ⟨jB_give i1 l1 ht (fun e => ?_), fun r hr => ?_⟩
      · rw [isL_own ha l2] at e
        exact cx_ne1 (by omega) e
      · exact (cs_give_ne _ _ _ hr.1 hr.2.1 hr.2.2.1 hr.2.2.2).trans (i2 r hr)
theorem gl_2 {a t m : Nat} : ∀ k, (cs_gl a t m nc S k).1.2 = S.2
  | 0 => rfl
  | k + 1 => by
    rw [cs_gl_s]
    unfold cs_gls
    split
    · exact gl_2 k
    · exact gl_2 k
theorem hJ_B {S' : hs_S} (hj : hJ S c nc nb i) (hB : jB S' c nc) (e : ∀ r, (r ≠ 15 ∧ r ≠ 16 ∧ r ≠ 17 ∧ r ≠ 18) → S'.1 r = S.1 r) : hJ S' c nc nb (i + 1) := by
  obtain ⟨j1, j2, j3, j4, j5, j6, j7⟩ := hj
  exact ⟨jA_of j1 (fun i h => e i (by omega)), hB, jM_of j3 (fun i h => e i (by omega)), jO_of j4 (Nat.le_succ i) (fun i h => e i (by omega)), jC_of j5 (Nat.le_succ i) (fun i h => e i (by omega)), jD_of j6 (Nat.le_succ i) (fun i h => e i (by omega)), jV_of j7 (Nat.le_succ i) (e 27 (by decide))⟩
theorem st_pay {v0 v1 v2 v3 : Int32} (hj : hJ S c nc nb i) (hi : i < 512) (z : cd_pay S c nc v0 v1 v2 v3 = 0) : hm_q ((cs_pay S nc v0 v1 v2 v3).1) ((cs_pay S nc v0 v1 v2 v3).1) ∧ hJ ((cs_pay S nc v0 v1 v2 v3).1) (c) (nc) (nb) (i + 1) ∧ (cs_pay S nc v0 v1 v2 v3).2 = (cs_pay S nc v0 v1 v2 v3).2 := by
  obtain ⟨z1, z⟩ := cs_sq_z.mp z
  obtain ⟨z2, z⟩ := cs_sq_z.mp z
  have hc := hj.c6.2
  obtain ⟨a, ha, rfl⟩ := cd_H_of (by omega) z1
  obtain ⟨t, ht, rfl⟩ := cd_H_of (by omega) z2
  refine ⟨hm_q.rf, ?_, rfl⟩
  unfold cs_pay
  rw [vN_nI (a := a) (by omega), vN_nI (a := t) (by omega)]
  obtain ⟨g1, g2⟩ := gl_J (m := cs_m v2) (a := a) (by omega) ht hj.2.1 (vN v3)
  exact hJ_B hj g1 g2
theorem hJ_BC {S' : hs_S} (hj : hJ S c nc nb i) (hB : jB S' c nc) (hC : jC S' (i + 1)) (e : ∀ r, (r ≠ 15 ∧ r ≠ 16 ∧ r ≠ 17 ∧ r ≠ 18 ∧ r ≠ 19) → S'.1 r = S.1 r) : hJ S' c nc nb (i + 1) := by
  obtain ⟨j1, j2, j3, j4, j5, j6, j7⟩ := hj
  exact ⟨jA_of j1 (fun i h => e i (by omega)), hB, jM_of j3 (fun i h => e i (by omega)), jO_of j4 (Nat.le_succ i) (fun i h => e i (by omega)), hC, jD_of j6 (Nat.le_succ i) (fun i h => e i (by omega)), jV_of j7 (Nat.le_succ i) (e 27 (by decide))⟩
theorem st_deposit {v0 v1 v2 v3 : Int32} (hj : hJ S c nc nb i) (hi : i < 512) (z : cd_deposit S c nc v0 v1 v2 v3 = 0) : hm_q (cs_deposit S nc v0 v1 v2 v3) (cs_deposit S nc v0 v1 v2 v3) ∧ hJ (cs_deposit S nc v0 v1 v2 v3) (c) (nc) (nb) (i + 1) ∧ (cs_deposit S nc v0 v1 v2 v3).1 19 (vN v0 * 6 + vN v1) = (cs_deposit S nc v0 v1 v2 v3).1 19 (vN v0 * 6 + vN v1) := by
  obtain ⟨z1, z⟩ := cs_sq_z.mp z
  obtain ⟨z2, z⟩ := cs_sq_z.mp z
  obtain ⟨z3, z⟩ := cs_sq_z.mp z
  obtain ⟨z4, z⟩ := cs_sq_z.mp z
  obtain ⟨z5, z6⟩ := cs_sq_z.mp z
  have hc := hj.c6.2
  obtain ⟨a, ha, rfl⟩ := cd_H_of (by omega) z1
  obtain ⟨t, ht, rfl⟩ := cd_H_of (by omega) z2
  obtain ⟨k, k1, k2, rfl⟩ := cd_R_of (by omega) z4
  have va : vN (nI a) = a := vN_nI (by omega)
  have vt : vN (nI t) = t := vN_nI (by omega)
  rw [va, vt] at z5
  obtain ⟨q1, q2, q3, q4⟩ := cd_K_0 (by omega) (by omega) z5
  refine ⟨hm_q.rf, ?_, rfl⟩
  unfold cs_deposit cs_pay
  rw [va, vt, vN_nI (a := k) (by omega)]
  obtain ⟨g1, g2⟩ := gl_J (m := cs_m v2) (a := a) (by omega) ht hj.2.1 k
  obtain ⟨f, f1, f2⟩ := (hj.2.2.1 (cs_m v2) (cs_m_lt v2)).1
  rw [g2 9 (by decide), f2, cx_nmul]
  have h0 : jCb (cs_gl a t (cs_m v2) nc S k).1 (120000 * i) := jCb_of (S := S) hj.2.2.2.2.1 (Nat.le_refl _) (fun r hr => g2 r (by omega))
  have hkf : k * f ≤ 90 * 99 := Nat.mul_le_mul k2 f1
  have h1 := jCb_add (y := k * f) (a := a) (q := t) h0 (by omega) (by omega) q1 (by rw [g2 8 (by decide)]; exact q3) (by rw [g2 8 (by decide)]; exact q4) (by omega)
  exact hJ_BC hj (jB_of g1 (fun r hr => cadd_ne (by omega))) (jCb_of h1 (by omega) (fun _ _ => rfl)) (fun r hr => (cadd_ne hr.2.2.2.2).trans (g2 r ⟨hr.1, hr.2.1, hr.2.2.1, hr.2.2.2.1⟩))
-- clipping
theorem st_clip {v0 v1 : Int32} (hj : hJ S c nc nb i) (hi : i < 512) (z : cd_clip S nc v0 v1 = 0) : hm_q (cs_clip S v0 v1) (cs_clip S v0 v1) ∧ hJ (cs_clip S v0 v1) (c) (nc) (nb) (i + 1) ∧ (cs_clip S v0 v1).1 14 (vN v0) = (cs_clip S v0 v1).1 14 (vN v0) := by
  obtain ⟨z1, z⟩ := cs_sq_z.mp z
  obtain ⟨z2, z⟩ := cs_sq_z.mp z
  obtain ⟨z3, z4⟩ := cs_sq_z.mp z
  have hc := hj.c6.2
  have hnc := hj.2.1.2.1
  obtain ⟨j, hjn, rfl⟩ := cd_H_of (by omega) z1
  obtain ⟨q, q1, q2, rfl⟩ := cd_R_of (by omega) z2
  have vj : vN (nI j) = j := vN_nI (by omega)
  rw [vj] at z3 z4
  obtain ⟨m, x, h1, h2, h3, h4, h5⟩ := hj.C j hjn
  have hown : 1 ≤ x ∧ ∃ a, a < c ∧ S.1 15 j = nI a := by
    rcases h5 with ⟨_, h5⟩ | h5
    · unfold cd_W at z3; rw [if_pos h5] at z3; cases z3
    · exact h5
  obtain ⟨x1, a, ha, e15⟩ := hown
  have hqx : q < x := by
    rw [cd_clw_eq hj.C hjn ⟨q1, q2⟩, h4] at z4
    split at z4
    · cases z4
    · rename_i n
      have := mt (nI_leI (a := x) (b := q) (by omega) (by omega)).mpr n
      omega
  refine ⟨hm_q.rf, ?_, rfl⟩
  unfold cs_clip
  rw [vj, e15, h3, vN_nI (a := a) (by omega), vN_nI (a := m) (by omega), h4, pk_sub (by omega)]
  obtain ⟨j1, ⟨b1, b2, b3, b4, b5, b6⟩, j3, ⟨o1, o2⟩, j5, j6, j7⟩ := hj
  have r14 : (cs_oadd (hs_su S 14 j (nI (x - q))) a m (nI q)).1 14 = upd (S.1 14) j (nI (x - q)) := rfl
  have r13 : (cs_oadd (hs_su S 14 j (nI (x - q))) a m (nI q)).1 13 = S.1 13 := rfl
  have r15 : (cs_oadd (hs_su S 14 j (nI (x - q))) a m (nI q)).1 15 = S.1 15 := rfl
  have r11 : (cs_oadd (hs_su S 14 j (nI (x - q))) a m (nI q)).1 11 = S.1 11 := rfl
  have r12 : (cs_oadd (hs_su S 14 j (nI (x - q))) a m (nI q)).1 12 = upd (S.1 12) (a * 2 + m) (S.1 12 (a * 2 + m) + nI q) := rfl
  refine ⟨jA_of j1 (fun i h => by rcases h with rfl | rfl | rfl <;> rfl), ⟨b1, b2, fun p hp => ?_, b4, b5, b6⟩, jM_of j3 (fun i h => by rcases h with rfl | rfl <;> rfl), ?_, jC_of j5 (Nat.le_succ i) (fun i h => by rcases h with rfl | rfl <;> rfl), jD_of j6 (Nat.le_succ i) (fun i h => by rcases h with rfl | rfl | rfl | rfl | rfl | rfl | rfl | rfl | rfl <;> rfl), jV_of j7 (Nat.le_succ i) rfl⟩
  · rw [r13, r14, r15]
    by_cases e : p = j
    · subst e
      exact ⟨m, x - q, h1, by omega, h3, if_pos rfl, Or.inr ⟨by omega, a, ha, e15⟩⟩
    · rw [pk_un e]; exact b3 p hp
  · have hb := (o2 m h1).2
    have hle := oT_le (S := S) (m := m) (show a < 6 by omega)
    obtain ⟨n1, n2, n3⟩ := nn_add1 (y := q) (B := 99 * i) o1 (show a * 2 + m < 12 by omega) (by omega) (by omega)
    refine ⟨by rw [r12]; exact n2, fun p hp => ?_⟩
    obtain ⟨w1, w2, w3⟩ := wT_up (S := S) (m := p) r13 r14 (n := nc)
    rw [r11]
    by_cases e : p = m
    · subst e
      have u := oT_up r12 (show a < 6 by omega)
      rw [n3] at u
      have w4 := w2 hjn h3
      rw [h4, vN_nI (by omega), vN_nI (by omega)] at w4
      have e1 : hs_oT (cs_oadd (hs_su S 14 j (nI (x - q))) a p (nI q)) p + hs_wT (cs_oadd (hs_su S 14 j (nI (x - q))) a p (nI q)) p nc = hs_oT S p + hs_wT S p nc := by omega
      rw [e1]
      exact ⟨(o2 p hp).1, by have := (o2 p hp).2; omega⟩
    · rw [oT_ot r12 h1 hp e, w3 (fun z => e (by rw [h3] at z; exact ((nI_eq (by omega) (by omega)).mp z).symm))]
      exact ⟨(o2 p hp).1, by have := (o2 p hp).2; omega⟩
end ST6

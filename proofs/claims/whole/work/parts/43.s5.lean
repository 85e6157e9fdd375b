section ST7
variable {S S' : hs_S} {c nc nb i B : Nat}
-- one coin is minted
theorem jB_one {a m w : Nat} (h : jB S c nc) (hn : nc < 90) (ha : a < c) (hm : m < 2) (hw : 1 ≤ w ∧ w ≤ 9) : jB (cs_one S a m (nI w) nc) c (nc + 1) := by
  obtain ⟨b1, b2, b3, b4, b5, b6⟩ := h
  have r13 : (cs_one S a m (nI w) nc).1 13 = upd (S.1 13) nc (nI m) := rfl
  have r14 : (cs_one S a m (nI w) nc).1 14 = upd (S.1 14) nc (nI w) := rfl
  have r15 : (cs_one S a m (nI w) nc).1 15 = upd (S.1 15) nc (nI a) := rfl
  have r16 : (cs_one S a m (nI w) nc).1 16 = upd (S.1 16) nc (S.1 16 nc + nI 1) := rfl
  have r17 : (cs_one S a m (nI w) nc).1 17 = upd (S.1 17) nc (nI 0) := rfl
  have r18 : (cs_one S a m (nI w) nc).1 18 = upd (S.1 18) nc (nI a) := rfl
  refine ⟨rfl, by omega, fun k hk => ?_, fun k hk => ?_, fun k => ?_, fun k hk => ?_⟩
  · rw [r13, r14, r15]
    by_cases e : k = nc
    · subst e
      exact ⟨m, w, hm, hw.2, if_pos rfl, if_pos rfl, Or.inr ⟨hw.1, a, ha, if_pos rfl⟩⟩
    · rw [pk_un e, pk_un e, pk_un e]; exact b3 k (by omega)
  · rw [r16, pk_un (by omega)]; exact b4 k (by omega)
  · rw [r17]
    by_cases e : k = nc
    · exact Or.inl (by rw [e]; exact if_pos rfl)
    · rw [pk_un e]; exact b5 k
  · rw [r15, r18]
    by_cases e : k = nc
    · exact Or.inr (by rw [e]; exact (if_pos rfl).trans (if_pos rfl).symm)
    · rw [pk_un e, pk_un e]; exact b6 k (by omega)
theorem jO_one {a m w : Nat} (h : jO S nc i) (ha : a < 6) (hm : m < 2) (hw : w ≤ 9) (hx : w ≤ vN (S.1 12 (a * 2 + m))) : jO (cs_one S a m (nI w) nc) (nc + 1) i := by
  obtain ⟨h1, h2⟩ := h
  have r11 : (cs_one S a m (nI w) nc).1 11 = S.1 11 := rfl
  have r12 : (cs_one S a m (nI w) nc).1 12 = upd (S.1 12) (a * 2 + m) (S.1 12 (a * 2 + m) + -nI w) := rfl
  have r13 : (cs_one S a m (nI w) nc).1 13 = upd (S.1 13) nc (nI m) := rfl
  have r14 : (cs_one S a m (nI w) nc).1 14 = upd (S.1 14) nc (nI w) := rfl
  obtain ⟨n1, n2, n3⟩ := nn_sub (y := w) h1 (show a * 2 + m < 12 by omega) hx
  refine ⟨by rw [r12]; exact n2, fun p hp => ?_⟩
  have ew : hs_wT (cs_one S a m (nI w) nc) p nc = hs_wT S p nc := hs_wT_ext (fun j hj => by rw [r13, r14, pk_un (by omega), pk_un (by omega)]; exact ⟨rfl, rfl⟩)
  rw [hs_wT_s, ew, r11, r13, r14, show upd (S.1 13) nc (nI m) nc = nI m from if_pos rfl, show upd (S.1 14) nc (nI w) nc = nI w from if_pos rfl, vN_nI (by omega)]
  by_cases e : p = m
  · subst e
    have u := oT_up r12 ha
    rw [n1, vN_nI (by have := (nn_of (h1 _ (show a * 2 + p < 12 by omega))).2; omega)] at u
    rw [if_pos rfl]
    have e1 : hs_oT (cs_one S a p (nI w) nc) p + (hs_wT S p nc + w) = hs_oT S p + hs_wT S p nc := by omega
    rw [e1]
    exact h2 p hp
  · rw [oT_ot r12 hm hp e, if_neg (fun z => e ((nI_eq (by omega) (by omega)).mp z).symm)]
    exact h2 p hp
theorem one_ne {a m w r : Nat} (h : r ≠ 12 ∧ r ≠ 13 ∧ r ≠ 14 ∧ r ≠ 15 ∧ r ≠ 16 ∧ r ≠ 17 ∧ r ≠ 18 ∧ r ≠ 31) : (cs_one S a m (nI w) nc).1 r = S.1 r := by
  unfold cs_one cs_add
  rw [cs_give_ne _ _ _ h.2.2.2.1 h.2.2.2.2.1 h.2.2.2.2.2.1 h.2.2.2.2.2.2.1, hs_su_ne _ _ _ h.2.2.1, hs_su_ne _ _ _ h.2.1, hs_su_ne _ _ _ h.2.2.2.2.2.2.2]
  exact hs_su_ne _ _ _ h.1
theorem add_cg {T : hs_S} {n : Nat} {a m v : Int32} (h : ∀ r, r ≠ 12 → S.1 r = T.1 r) : ∀ r, r ≠ 12 → (cs_add S n a m v).1 r = (cs_add T n a m v).1 r := fun r hr => by
  by_cases q : r = 13 ∨ r = 14 ∨ r = 15 ∨ r = 16 ∨ r = 17 ∨ r = 18 ∨ r = 31
  · rcases q with rfl | rfl | rfl | rfl | rfl | rfl | rfl
    · show upd (S.1 13) n m = upd (T.1 13) n m
      rw [h 13 (by decide)]
    · show upd (S.1 14) n v = upd (T.1 14) n v
      rw [h 14 (by decide)]
    · show upd (S.1 15) n a = upd (T.1 15) n a
      rw [h 15 (by decide)]
    · show upd (S.1 16) n (S.1 16 n + nI 1) = upd (T.1 16) n (T.1 16 n + nI 1)
      rw [h 16 (by decide)]
    · show upd (S.1 17) n (nI 0) = upd (T.1 17) n (nI 0)
      rw [h 17 (by decide)]
    · show upd (S.1 18) n a = upd (T.1 18) n a
      rw [h 18 (by decide)]
    · show upd (S.1 31) 0 (nI (n + 1)) = upd (T.1 31) 0 (nI (n + 1))
      rw [h 31 (by decide)]
  · unfold cs_add
    rw [cs_give_ne _ _ _ (by omega) (by omega) (by omega) (by omega), hs_su_ne _ _ _ (by omega), hs_su_ne _ _ _ (by omega), hs_su_ne _ _ _ (by omega), cs_give_ne _ _ _ (by omega) (by omega) (by omega) (by omega), hs_su_ne _ _ _ (by omega), hs_su_ne _ _ _ (by omega), hs_su_ne _ _ _ (by omega)]
    exact h r hr
theorem mts_cg {a m v : Int32} {n : Nat} : ∀ (k : Nat) (S T : hs_S), (∀ r, r ≠ 12 → S.1 r = T.1 r) → ∀ r, r ≠ 12 → (cs_mts a m v n S k).1 r = (cs_mts a m v n T k).1 r
  | 0, _, _, h => h
  | k + 1, S, T, h => by
    rw [cs_mts_s, cs_mts_s]
    exact add_cg (mts_cg k S T h)
theorem mts_fr {a m v : Int32} : ∀ (k n : Nat) (S : hs_S), cs_mts a m v n S (k + 1) = cs_mts a m v (n + 1) (cs_add S n a m v) k
  | 0, n, S => rfl
  | k + 1, n, S => by
    rw [cs_mts_s, mts_fr k n S, cs_mts_s, show n + (k + 1) = n + 1 + k by omega]
theorem stk_sum {a m w : Nat} (hw : 1 ≤ w ∧ w ≤ 9) (ha : a < c) (hc : c ≤ 6) (hm : m < 2) : ∀ (f : Nat) (S : hs_S) (n X : Nat), jB S c n → jO S n i → S.1 12 (a * 2 + m) = nI X → X < 2 ^ 31 →
    (cs_stk a m (nI w) f S n).2 = min (min f (X / w)) (90 - n) ∧ jB (cs_stk a m (nI w) f S n).1 c (n + (cs_stk a m (nI w) f S n).2) ∧ jO (cs_stk a m (nI w) f S n).1 (n + (cs_stk a m (nI w) f S n).2) i ∧
    (∀ r, r ≠ 12 → (cs_stk a m (nI w) f S n).1.1 r = (cs_mts (nI a) (nI m) (nI w) n S (cs_stk a m (nI w) f S n).2).1 r) ∧ ((cs_stk a m (nI w) f S n).1.1 12 (a * 2 + m) = nI (X - (cs_stk a m (nI w) f S n).2 * w) ∧ (cs_stk a m (nI w) f S n).2 * w ≤ X) ∧ (∀ j, j ≠ a * 2 + m → (cs_stk a m (nI w) f S n).1.1 12 j = S.1 12 j) ∧ (cs_stk a m (nI w) f S n).1.2 = S.2 := by
  intro f
  induction f with
  | zero =>
    intro S n X hB hO hX hX2
    exact ⟨by show 0 = _; generalize X / w = zz; omega, hB, hO, fun _ _ => rfl, ⟨by show S.1 12 _ = nI (X - 0 * w); rw [hX, Nat.zero_mul, Nat.sub_zero], by show 0 * w ≤ X; omega⟩, fun _ _ => rfl, rfl⟩
  | succ f ih =>
    intro S n X hB hO hX hX2
    rw [cs_stk_s]
    by_cases h9 : n < 90
    · rw [if_pos h9]
      by_cases hlt : S.1 12 (a * 2 + m) < nI w
      · rw [if_pos hlt]
        rw [hX] at hlt
        have hlt2 := (nI_ltI hX2 (by omega)).mp hlt
        have hd : X / w = 0 := Nat.div_eq_of_lt hlt2
        exact ⟨by show 0 = _; rw [hd]; omega, hB, hO, fun _ _ => rfl, ⟨by show S.1 12 _ = nI (X - 0 * w); rw [hX, Nat.zero_mul, Nat.sub_zero], by show 0 * w ≤ X; omega⟩, fun _ _ => rfl, rfl⟩
      · rw [if_neg hlt]
        have hge : w ≤ X := by
          rw [hX] at hlt
          have := mt (nI_ltI hX2 (by omega)).mpr hlt
          omega
        have hv : vN (S.1 12 (a * 2 + m)) = X := by rw [hX, vN_nI hX2]
        have r12 : (cs_one S a m (nI w) n).1 12 = upd (S.1 12) (a * 2 + m) (S.1 12 (a * 2 + m) + -nI w) := rfl
        have hX1 : (cs_one S a m (nI w) n).1 12 (a * 2 + m) = nI (X - w) := by
          rw [r12, show upd (S.1 12) (a * 2 + m) _ (a * 2 + m) = _ from if_pos rfl, hX, ← Int32.sub_eq_add_neg, pk_sub hge]
        obtain ⟨i1, i2, i3, i4, ⟨i5, i5b⟩, i6, i7⟩ := ih (cs_one S a m (nI w) n) (n + 1) (X - w) (jB_one hB h9 ha hm hw) (jO_one hO (by omega) hm hw.2 (by rw [hv]; exact hge)) hX1 (by omega)
        have hdv : X / w = (X - w) / w + 1 := Nat.div_eq_sub_div (by omega) hge
        have hmul : ((cs_stk a m (nI w) f (cs_one S a m (nI w) n) (n + 1)).2 + 1) * w = (cs_stk a m (nI w) f (cs_one S a m (nI w) n) (n + 1)).2 * w + w := Nat.succ_mul _ _
        refine ⟨?_, ?_, ?_, fun r hr => ?_, ⟨?_, ?_⟩, fun j hj => ?_, ?_⟩
        · show (cs_stk a m (nI w) f (cs_one S a m (nI w) n) (n + 1)).2 + 1 = _
          rw [i1, hdv]
          generalize (X - w) / w = z
          omega
        · show jB _ c (n + ((cs_stk a m (nI w) f (cs_one S a m (nI w) n) (n + 1)).2 + 1))
          rw [show n + ((cs_stk a m (nI w) f (cs_one S a m (nI w) n) (n + 1)).2 + 1) = n + 1 + (cs_stk a m (nI w) f (cs_one S a m (nI w) n) (n + 1)).2 by omega]
          exact i2
        · show jO _ (n + ((cs_stk a m (nI w) f (cs_one S a m (nI w) n) (n + 1)).2 + 1)) i
          rw [show n + ((cs_stk a m (nI w) f (cs_one S a m (nI w) n) (n + 1)).2 + 1) = n + 1 + (cs_stk a m (nI w) f (cs_one S a m (nI w) n) (n + 1)).2 by omega]
          exact i3
        · show (cs_stk a m (nI w) f (cs_one S a m (nI w) n) (n + 1)).1.1 r = (cs_mts (nI a) (nI m) (nI w) n S ((cs_stk a m (nI w) f (cs_one S a m (nI w) n) (n + 1)).2 + 1)).1 r
          rw [i4 r hr, mts_fr]
          refine mts_cg _ _ _ (fun r hr => ?_) r hr
          unfold cs_one
          exact add_cg (fun r hr => hs_su_ne _ _ _ hr) r hr
        · show (cs_stk a m (nI w) f (cs_one S a m (nI w) n) (n + 1)).1.1 12 (a * 2 + m) = nI (X - ((cs_stk a m (nI w) f (cs_one S a m (nI w) n) (n + 1)).2 + 1) * w)
          rw [i5, hmul]
          congr 1
          omega
        · show ((cs_stk a m (nI w) f (cs_one S a m (nI w) n) (n + 1)).2 + 1) * w ≤ X
          rw [hmul]; omega
        · show (cs_stk a m (nI w) f (cs_one S a m (nI w) n) (n + 1)).1.1 12 j = _
          rw [i6 j hj, r12, pk_un hj]
        · exact i7
    · rw [if_neg h9]
      exact ⟨by show 0 = _; generalize X / w = zz; omega, hB, hO, fun _ _ => rfl, ⟨by show S.1 12 _ = nI (X - 0 * w); rw [hX, Nat.zero_mul, Nat.sub_zero], by show 0 * w ≤ X; omega⟩, fun _ _ => rfl, rfl⟩
theorem mts_2 {a m v : Int32} {n : Nat} {S : hs_S} : ∀ k, (cs_mts a m v n S k).2 = S.2
  | 0 => rfl
  | k + 1 => by rw [cs_mts_s]; exact mts_2 k
theorem stk_q {a m w f n X : Nat} (hw : 1 ≤ w ∧ w ≤ 9) (ha : a < c) (hc : c ≤ 6) (hm : m < 2) (hB : jB S c n) (hO : jO S n i) (hX : S.1 12 (a * 2 + m) = nI X) (hX2 : X < 2 ^ 31) (h10 : S.1 10 m = nI w) : hm_q (cs_mn a m n S (cs_stk a m (nI w) f S n).2) (cs_stk a m (nI w) f S n).1 := by
  obtain ⟨i1, i2, i3, i4, ⟨i5, i5b⟩, i6, i7⟩ := stk_sum hw ha hc hm f S n X hB hO hX hX2
  generalize (cs_stk a m (nI w) f S n).2 = k at *
  have r12 : (cs_mn a m n S k).1 12 = upd ((cs_mts (nI a) (nI m) (S.1 10 m) n S k).1 12) (a * 2 + m) (S.1 12 (a * 2 + m) - nI k * S.1 10 m) := rfl
  refine ⟨fun r hr => ?_, fun j hj => ?_, fun j hj => ?_, ?_⟩
  · rw [i4 r hr.2.1]
    unfold cs_mn
    rw [hs_su_ne _ _ _ hr.2.1, h10]
  · rw [r12, h10]
    by_cases e : j = a * 2 + m
    · subst e
      rw [show upd _ (a * 2 + m) (S.1 12 (a * 2 + m) - nI k * nI w) (a * 2 + m) = _ from if_pos rfl, i5, hX, cx_nmul, pk_sub i5b]
    · rw [pk_un e, i6 j e, cs_mts_ne (by decide)]
  · rw [i4 19 (by decide)]
    unfold cs_mn
    rw [hs_su_ne _ _ _ (by decide), h10]
  · rw [i7]
    show S.2 = (cs_mts (nI a) (nI m) (S.1 10 m) n S k).2
    exact (mts_2 k).symm
theorem stk_ne {a m w f n : Nat} : ∀ r, (r ≠ 12 ∧ r ≠ 13 ∧ r ≠ 14 ∧ r ≠ 15 ∧ r ≠ 16 ∧ r ≠ 17 ∧ r ≠ 18 ∧ r ≠ 31) → (cs_stk a m (nI w) f S n).1.1 r = S.1 r := by
  intro r hr
  induction f generalizing S n with
  | zero => rfl
  | succ f ih =>
    rw [cs_stk_s]
    split
    · split
      · rfl
      · show (cs_stk a m (nI w) f (cs_one S a m (nI w) n) (n + 1)).1.1 r = _
        rw [ih, one_ne hr]
    · rfl
theorem hJ_stk {nc2 : Nat} {S S' : hs_S} (hj : hJ S c nc nb i) (hB : jB S' c nc2) (hO : jO S' nc2 (i + 1)) (e : ∀ r, (r ≠ 12 ∧ r ≠ 13 ∧ r ≠ 14 ∧ r ≠ 15 ∧ r ≠ 16 ∧ r ≠ 17 ∧ r ≠ 18 ∧ r ≠ 31) → S'.1 r = S.1 r) : hJ S' c nc2 nb (i + 1) := by
  obtain ⟨j1, j2, j3, j4, j5, j6, j7⟩ := hj
  exact ⟨jA_of j1 (fun i h => e i (by omega)), hB, jM_of j3 (fun i h => e i (by omega)), hO, jC_of j5 (Nat.le_succ i) (fun i h => e i (by omega)), jD_of j6 (Nat.le_succ i) (fun i h => e i (by omega)), jV_of j7 (Nat.le_succ i) (e 27 (by decide))⟩
theorem jO_up {k : Nat} (h : jO S nc i) (hk : i ≤ k) : jO S nc k := jO_of h hk (fun _ _ => rfl)
theorem st_mint {v0 v1 v2 : Int32} (hj : hJ S c nc nb i) (hi : i < 512) (z : cd_mint S c nc v0 v1 v2 = 0) : hm_q (cs_mn (vN v0) (cs_m v1) nc S (vN v2)) (cs_mint S nc v0 v1 v2) ∧ hJ (cs_mint S nc v0 v1 v2) (c) (nc + vN v2) (nb) (i + 1) ∧ nI nc = nI nc := by
  obtain ⟨z1, z⟩ := cs_sq_z.mp z
  obtain ⟨z2, z⟩ := cs_sq_z.mp z
  obtain ⟨z3, z⟩ := cs_sq_z.mp z
  obtain ⟨z4, z⟩ := cs_sq_z.mp z
  obtain ⟨z5, z6⟩ := cs_sq_z.mp z
  have hc := hj.c6.2
  have hnc := hj.2.1.2.1
  obtain ⟨a, ha, rfl⟩ := cd_H_of (by omega) z1
  obtain ⟨k, k1, k2, rfl⟩ := cd_R_of (by omega) z3
  have va : vN (nI a) = a := vN_nI (by omega)
  have vk : vN (nI k) = k := vN_nI (by omega)
  unfold cs_mint
  rw [va] at z5
  rw [vk] at z6
  rw [va, vk]
  have hm := cs_m_lt v1
  generalize cs_m v1 = m at *
  obtain ⟨w, w1, w2, h10⟩ := hj.F m hm
  rw [h10] at z5 ⊢
  have hO := hj.2.2.2.1
  obtain ⟨hX, hX2⟩ := nn_of (hO.1 (a * 2 + m) (by omega))
  have hkX : k * w ≤ vN (S.1 12 (a * 2 + m)) := by
    unfold cd_ore at z5
    split at z5
    · rename_i h
      rw [cx_nmul] at h
      have hkw : k * w ≤ 90 * 9 := Nat.mul_le_mul k2 w2
      exact nn_le hO.1 (show a * 2 + m < 12 by omega) (by omega) h
    · cases z5
  have hk9 : k ≤ 90 - nc := by
    unfold cd_le at z6
    split at z6
    · assumption
    · cases z6
  obtain ⟨i1, i2, i3, -⟩ := stk_sum ⟨w1, w2⟩ ha hc hm k S nc _ hj.2.1 hO hX hX2
  have hkd : k ≤ vN (S.1 12 (a * 2 + m)) / w := (Nat.le_div_iff_mul_le (by omega)).mpr hkX
  have ek : (cs_stk a m (nI w) k S nc).2 = k := by rw [i1]; omega
  have hq := stk_q (f := k) ⟨w1, w2⟩ ha hc hm hj.2.1 hO hX hX2 h10
  rw [ek] at i2 i3 hq
  exact ⟨hq, hJ_stk hj i2 (jO_up i3 (Nat.le_succ i)) stk_ne, rfl⟩
end ST7

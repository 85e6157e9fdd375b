section ST8
variable {S S' : hs_S} {c nc nb i B : Nat}
theorem isL_all {a m j : Nat} (h : cs_isL S a m j = true) : S.1 15 j = nI a ∧ S.1 13 j = nI m ∧ S.1 17 j = 0 := by
  unfold cs_isL at h
  split at h
  · split at h
    · split at h
      · exact ⟨by assumption, by assumption, by assumption⟩
      · cases h
    · cases h
  · cases h
theorem rcs_J {a m j : Nat} (hB : jB S c nc) (hO : jO S nc i) (ha : a < 6) (hm : m < 2) (hj : j < nc) (hi : i ≤ 512) : jB (hs_rcs a m j S) c nc ∧ jO (hs_rcs a m j S) nc i := by
  unfold hs_rcs
  split
  · rename_i hL
    obtain ⟨l1, l2, l3⟩ := isL_all hL
    obtain ⟨b1, b2, b3, b4, b5, b6⟩ := hB
    obtain ⟨o1, o2⟩ := hO
    obtain ⟨m', x, h1, h2, h3, h4, h5⟩ := b3 j hj
    have hx1 : 1 ≤ x := by
      rcases h5 with ⟨_, h5⟩ | ⟨h5, _⟩
      · rw [l1] at h5; exact absurd h5 (cx_ne1 (by omega))
      · exact h5
    have r11 : (hs_su (hs_su (cs_oadd S a m (S.1 14 j)) 14 j (nI 0)) 15 j (-1)).1 11 = S.1 11 := rfl
    have r12 : (hs_su (hs_su (cs_oadd S a m (S.1 14 j)) 14 j (nI 0)) 15 j (-1)).1 12 = upd (S.1 12) (a * 2 + m) (S.1 12 (a * 2 + m) + nI x) := by rw [← h4]; rfl
    have r13 : (hs_su (hs_su (cs_oadd S a m (S.1 14 j)) 14 j (nI 0)) 15 j (-1)).1 13 = S.1 13 := rfl
    have r14 : (hs_su (hs_su (cs_oadd S a m (S.1 14 j)) 14 j (nI 0)) 15 j (-1)).1 14 = upd (S.1 14) j (nI 0) := rfl
    have r15 : (hs_su (hs_su (cs_oadd S a m (S.1 14 j)) 14 j (nI 0)) 15 j (-1)).1 15 = upd (S.1 15) j (-1) := rfl
    have r18 : (hs_su (hs_su (cs_oadd S a m (S.1 14 j)) 14 j (nI 0)) 15 j (-1)).1 18 = S.1 18 := rfl
    have r16 : (hs_su (hs_su (cs_oadd S a m (S.1 14 j)) 14 j (nI 0)) 15 j (-1)).1 16 = S.1 16 := rfl
    have r17 : (hs_su (hs_su (cs_oadd S a m (S.1 14 j)) 14 j (nI 0)) 15 j (-1)).1 17 = S.1 17 := rfl
    have r31 : (hs_su (hs_su (cs_oadd S a m (S.1 14 j)) 14 j (nI 0)) 15 j (-1)).1 31 = S.1 31 := rfl
    generalize (hs_su (hs_su (cs_oadd S a m (S.1 14 j)) 14 j (nI 0)) 15 j (-1)) = T at r11 r12 r13 r14 r15 r16 r17 r18 r31 ⊢
    refine ⟨⟨by rw [r31]; exact b1, b2, fun k hk => ?_, by rw [r16]; exact b4, by rw [r17]; exact b5, fun k hk => ?_⟩, ?_⟩
    · rw [r13, r14, r15]
      by_cases e : k = j
      · subst e
        exact ⟨m, 0, hm, by omega, l2, if_pos rfl, Or.inl ⟨rfl, if_pos rfl⟩⟩
      · rw [pk_un e, pk_un e]; exact b3 k hk
    · rw [r15, r18]
      by_cases e : k = j
      · exact Or.inl (by rw [e]; exact if_pos rfl)
      · rw [pk_un e]; exact b6 k hk
    · have hb := (o2 m hm).2
      have hle := oT_le (S := S) (m := m) ha
      obtain ⟨n1, n2, n3⟩ := nn_add1 (y := x) (B := 99 * i) o1 (show a * 2 + m < 12 by omega) (by omega) (by omega)
      refine ⟨by rw [r12]; exact n2, fun p hp => ?_⟩
      obtain ⟨w1, w2, w3⟩ := wT_up (S := S) (m := p) r13 r14 (n := nc)
      rw [r11]
      by_cases e : p = m
      · subst e
        have u := oT_up r12 ha
        rw [n3] at u
        have w4 := w2 hj l2
        rw [h4, vN_nI (by omega), vN_nI (by omega)] at w4
        have e1 : hs_oT T p + hs_wT T p nc = hs_oT S p + hs_wT S p nc := by omega
        rw [e1]
        exact o2 p hp
      · rw [oT_ot r12 hm hp e, w3 (fun z => e (by rw [l2] at z; exact ((nI_eq (by omega) (by omega)).mp z).symm))]
        exact o2 p hp
  · exact ⟨hB, hO⟩
theorem rcl_J {a m : Nat} (hB : jB S c nc) (hO : jO S nc i) (ha : a < 6) (hm : m < 2) (hi : i ≤ 512) : ∀ n, n ≤ nc → jB (hs_rcl a m S n) c nc ∧ jO (hs_rcl a m S n) nc i
  | 0, _ => ⟨hB, hO⟩
  | n + 1, h => by
    obtain ⟨i1, i2⟩ := rcl_J hB hO ha hm hi n (by omega)
    rw [hs_rcl_s]
    exact rcs_J i1 i2 ha hm (by omega) hi
theorem rc_O {S : hs_S} {c nc nb i : Nat} (hj : hJ S c nc nb i) (hi : i < 512) : ∀ a m, a < 6 → m < 2 → ∃ x : Nat, x < 2 ^ 31 ∧ (hs_rcl a m S nc).1 12 (a * 2 + m) = nI x := fun a m ha hm => by
  obtain ⟨h1, h2⟩ := nn_of ((rcl_J hj.2.1 hj.2.2.2.1 ha hm (by omega) nc (Nat.le_refl _)).2.1 (a * 2 + m) (by omega))
  exact ⟨_, h2, h1⟩
theorem melt_eq {a m : Nat} : ∀ n, (∀ r, r ≠ 12 → (hs_rcl a m S n).1 r = (cs_melt a m S n).1.1 r) ∧ (hs_rcl a m S n).1 12 = upd (S.1 12) (a * 2 + m) (S.1 12 (a * 2 + m) + (cs_melt a m S n).2) ∧ (cs_melt a m S n).1.1 12 = S.1 12 ∧ (hs_rcl a m S n).2 = (cs_melt a m S n).1.2
  | 0 => ⟨fun _ _ => rfl, by
    funext j
    by_cases e : j = a * 2 + m
    · subst e
      rw [show upd (S.1 12) (a * 2 + m) (S.1 12 (a * 2 + m) + (cs_melt a m S 0).2) (a * 2 + m) = S.1 12 (a * 2 + m) + nI 0 from if_pos rfl, nI_0, Int32.add_zero]
      rfl
    · rw [pk_un e]; rfl, rfl, rfl⟩
  | n + 1 => by
    obtain ⟨i1, i2, i3, i4⟩ := melt_eq (a := a) (m := m) n
    have eL : cs_isL (hs_rcl a m S n) a m n = cs_isL (cs_melt a m S n).1 a m n := by
      unfold cs_isL
      rw [i1 15 (by decide), i1 13 (by decide), i1 17 (by decide)]
    rw [hs_rcl_s, cs_melt_s]
    unfold hs_rcs cs_mls
    rw [eL]
    split
    · refine ⟨fun r hr => ?_, ?_, i3, i4⟩
      · by_cases e15 : r = 15
        · subst e15
          show upd ((hs_rcl a m S n).1 15) n (-1) = upd ((cs_melt a m S n).1.1 15) n (-1)
          rw [i1 15 (by decide)]
        · rw [hs_su_ne _ _ _ e15, hs_su_ne _ _ _ e15]
          by_cases e14 : r = 14
          · subst e14
            show upd ((hs_rcl a m S n).1 14) n (nI 0) = upd ((cs_melt a m S n).1.1 14) n (nI 0)
            rw [i1 14 (by decide)]
          · rw [hs_su_ne _ _ _ e14, hs_su_ne _ _ _ e14]
            exact (hs_su_ne _ _ _ hr).trans (i1 r hr)
      · show upd ((hs_rcl a m S n).1 12) (a * 2 + m) ((hs_rcl a m S n).1 12 (a * 2 + m) + (hs_rcl a m S n).1 14 n) = upd (S.1 12) (a * 2 + m) (S.1 12 (a * 2 + m) + ((cs_melt a m S n).2 + (cs_melt a m S n).1.1 14 n))
        rw [i2, i1 14 (by decide)]
        funext j
        by_cases e : j = a * 2 + m
        · subst e
          rw [show upd (S.1 12) (a * 2 + m) (S.1 12 (a * 2 + m) + (cs_melt a m S n).2) (a * 2 + m) = _ from if_pos rfl]
          refine (if_pos rfl).trans (Eq.trans ?_ (if_pos rfl).symm)
          exact Int32.add_assoc _ _ _
        · rw [pk_un e, pk_un e, pk_un e]
    · exact ⟨i1, i2, i3, i4⟩
theorem rc1_eq {a m : Nat} : cs_rc1 S nc a m = hs_rcl a m S nc := by
  obtain ⟨i1, i2, i3, i4⟩ := melt_eq (S := S) (a := a) (m := m) nc
  refine Prod.ext (funext fun r => ?_) i4.symm
  by_cases e : r = 12
  · subst e
    rw [i2]
    show upd ((cs_melt a m S nc).1.1 12) (a * 2 + m) ((cs_melt a m S nc).1.1 12 (a * 2 + m) + (cs_melt a m S nc).2) = _
    rw [i3]
  · rw [i1 r e]
    exact hs_su_ne _ _ _ e
theorem rcl_ne {a m r : Nat} (h : r ≠ 12 ∧ r ≠ 14 ∧ r ≠ 15) : (hs_rcl a m S nc).1 r = S.1 r := hs_rcl_ne h nc
theorem st_recoin {v0 v1 : Int32} (hj : hJ S c nc nb i) (hi : i < 512) (z : cd_recoin S c v0 v1 = 0) : hm_q (cs_mn (vN v0) (cs_m v1) nc (hs_rcl (vN v0) (cs_m v1) S nc) (hs_rk S (vN v0) (cs_m v1) nc)) ((cs_recoin S nc v0 v1).1) ∧ hJ ((cs_recoin S nc v0 v1).1) (c) (nc + hs_rk S (vN v0) (cs_m v1) nc) (nb) (i + 1) ∧ nI (cs_recoin S nc v0 v1).2 = nI (hs_rk S (vN v0) (cs_m v1) nc) := by
  obtain ⟨z1, z⟩ := cs_sq_z.mp z
  have hc := hj.c6.2
  have hnc := hj.2.1.2.1
  obtain ⟨a, ha, rfl⟩ := cd_H_of (by omega) z1
  unfold cs_recoin
  rw [vN_nI (a := a) (by omega), rc1_eq]
  have hm := cs_m_lt v1
  generalize cs_m v1 = m at *
  obtain ⟨w, w1, w2, h10⟩ := hj.F m hm
  obtain ⟨hB, hO⟩ := rcl_J hj.2.1 hj.2.2.2.1 (show a < 6 by omega) hm (by omega) nc (Nat.le_refl _)
  have h10R : (hs_rcl a m S nc).1 10 m = nI w := by rw [rcl_ne (by decide)]; exact h10
  rw [h10R]
  obtain ⟨hX, hX2⟩ := nn_of (hO.1 (a * 2 + m) (by omega))
  obtain ⟨i1, i2, i3, -⟩ := stk_sum (f := 90) ⟨w1, w2⟩ ha hc hm (hs_rcl a m S nc) nc _ hB hO hX hX2
  have ek : (cs_stk a m (nI w) 90 (hs_rcl a m S nc) nc).2 = hs_rk S a m nc := by
    rw [i1]
    unfold hs_rk
    rw [h10, vN_nI (by omega)]
    generalize vN ((hs_rcl a m S nc).1 12 (a * 2 + m)) / w = zz
    omega
  have hq := stk_q (f := 90) ⟨w1, w2⟩ ha hc hm hB hO hX hX2 h10R
  rw [ek] at i2 i3 hq
  refine ⟨hq, hJ_stk hj i2 (jO_up i3 (Nat.le_succ i)) (fun r hr => ?_), by rw [ek]⟩
  rw [stk_ne r hr]
  exact rcl_ne ⟨hr.1, hr.2.2.1, hr.2.2.2.1⟩
end ST8
-- what is asked: sums
section ST9
variable {S S' : hs_S} {c nc nb i B : Nat}
theorem al_e {S : hs_S} {c nc nb i : Nat} (hj : hJ S c nc nb i) : hs_al S nc = cs_unm S nc := hs_al_unm hj.C hj.c6.2 nc (Nat.le_refl _)
theorem wt_e0 (hC : mi_C S c nc) : ∀ n, n ≤ nc → hs_wt S n = cs_woa S 0 n + cs_woa S 1 n
  | 0, _ => by
    show nI 0 = nI 0 + nI 0
    rw [nI_add]
  | n + 1, h => by
    obtain ⟨m, x, h1, h2, h3, h4, h5⟩ := hC n (by omega)
    rw [hs_wt_s, cs_woa_s, cs_woa_s, wt_e0 hC n (by omega), h3]
    rcases (show m = 0 ∨ m = 1 by omega) with rfl | rfl
    · rw [if_pos rfl, if_neg (by decide), Int32.add_assoc, Int32.add_comm (cs_woa S 1 n), Int32.add_assoc]
    · rw [if_neg (by decide), if_pos rfl, Int32.add_assoc]
theorem wt_e {S : hs_S} {c nc nb i : Nat} (hj : hJ S c nc nb i) : hs_wt S nc = cs_woa S 0 nc + cs_woa S 1 nc := wt_e0 hj.C nc (Nat.le_refl _)
theorem lg_e0 (hC : mi_C S c nc) (hc : c ≤ 6) : ∀ n, n ≤ nc → hs_lg S n = cs_ltr S 0 (S.1 10 0) n + cs_ltr S 1 (S.1 10 1) n
  | 0, _ => rfl
  | n + 1, h => by
    obtain ⟨m, x, h1, h2, h3, h4, h5⟩ := hC n (by omega)
    have e14 := mi_C14 hC hc (show n < nc by omega)
    rw [hs_lg_s, cs_ltr_s, cs_ltr_s, lg_e0 hC hc n (by omega)]
    by_cases q : S.1 15 n = -1
    · rw [if_pos (e14.mpr q), if_pos q, if_pos q]
    · rw [if_neg (fun z => q (e14.mp z)), if_neg q, if_neg q, h3, vN_nI (by omega)]
      rcases (show m = 0 ∨ m = 1 by omega) with rfl | rfl
      · rw [if_pos rfl, if_neg (show ¬ nI 0 = nI 1 by decide)]
        split <;> omega
      · rw [if_neg (show ¬ nI 1 = nI 0 by decide), if_pos rfl]
        split <;> omega
theorem ls_e {S : hs_S} {c nc nb i : Nat} (hj : hJ S c nc nb i) : hs_lg S nc = cs_lsh S nc 2 := by
  rw [lg_e0 hj.C hj.c6.2 nc (Nat.le_refl _), cs_lsh_s, cs_lsh_s]
  show _ = 0 + _ + _
  rw [Nat.zero_add]
-- soundness
theorem sn_1 {S : hs_S} {c nc nb i : Nat} (hj : hJ S c nc nb i) : ∀ j, j < 6 → ¬ cs_lst S j 5 < 0 := fun j hj6 => by
  have hn := hj.2.2.2.2.1.1
  have key : ∀ n, n ≤ 5 → ¬ cs_lst S j n < 0 := by
    intro n
    induction n with
    | zero => intro _; exact hn (j * 6 + 0) (by omega)
    | succ n ih =>
      intro h
      rw [cs_lst_s]
      unfold cs_min
      split
      · exact hn (j * 6 + (n + 1)) (by omega)
      · exact ih (by omega)
  exact key 5 (Nat.le_refl _)
theorem sof_0 {a : Nat} : ∀ n, n ≤ 6 → (∀ q, q < 6 → S.1 19 (a * 6 + q) = nI 0) → cs_sof S a n = 0
  | 0, _, _ => rfl
  | n + 1, h, z => by rw [cs_sof_s, sof_0 n (by omega) z, z n (by omega)]; decide
theorem son_0 {a : Nat} : ∀ n, n ≤ 6 → (∀ q, q < 6 → S.1 19 (q * 6 + a) = nI 0) → cs_son S a n = 0
  | 0, _, _ => rfl
  | n + 1, h, z => by rw [cs_son_s, son_0 n (by omega) z, z n (by omega)]; decide
theorem sn_2 {S : hs_S} {c nc nb i : Nat} (hj : hJ S c nc nb i) : ∀ j, j < 6 → S.1 8 j = 0 → cs_sof S j 6 = 0 ∧ cs_son S j 6 = 0 := fun j hj6 hz =>
  ⟨sof_0 6 (by omega) (fun q hq => hj.2.2.2.2.1.2.2.2 j q hj6 hq (Or.inl hz)), son_0 6 (by omega) (fun q hq => hj.2.2.2.2.1.2.2.2 q j hq hj6 (Or.inr hz))⟩
theorem sn_30 : cs_sumof S 6 = cs_sumon S 6 := by
  simp only [cs_sumof, cs_sumon, cs_sof, cs_son, cx_it]
  generalize (S.1 19 (0 * 6 + 0)).toInt64 = x00
  simp only [Int64.zero_add]
  ac_rfl
theorem sn_3 {S : hs_S} {c nc nb i : Nat} (hj : hJ S c nc nb i) : cs_sumof S 6 = cs_sumon S 6 := sn_30
theorem sn_g0 (h : ∀ j, j < nc → S.1 15 j = -1 ∨ S.1 15 j = S.1 18 j) : ∀ n, n ≤ nc → cs_wg S n = true
  | 0, _ => rfl
  | n + 1, hn => by
    rw [cs_wg_s]
    have ih := sn_g0 h n (by omega)
    split
    · exact ih
    · rename_i q
      rw [if_pos ((h n (by omega)).resolve_left q)]
      exact ih
theorem sn_g {S : hs_S} {c nc nb i : Nat} (hj : hJ S c nc nb i) : cs_wg S nc = true := sn_g0 hj.2.1.2.2.2.2.2 nc (Nat.le_refl _)
theorem oal_e {m : Nat} (h : hs_nn (S.1 12) 12) (hm : m < 2) : ∀ n, n ≤ 6 → cs_oal S m n = nI (hs_T (fun a => S.1 12 (a * 2 + m)) n)
  | 0, _ => rfl
  | n + 1, hn => by
    rw [cs_oal_s, oal_e h hm n (by omega), hs_T_s]
    have e := (nn_of (h (n * 2 + m) (by omega))).1
    rw [← nI_add]
    exact congrArg (_ + ·) e
theorem woa_e {m : Nat} (hC : mi_C S c nc) : ∀ n, n ≤ nc → cs_woa S m n = nI (hs_wT S m n)
  | 0, _ => rfl
  | n + 1, hn => by
    obtain ⟨m', x, h1, h2, h3, h4, h5⟩ := hC n (by omega)
    rw [cs_woa_s, hs_wT_s, woa_e hC n (by omega), h4, vN_nI (by omega)]
    split
    · rw [nI_add]
    · rfl
theorem sn_w {S : hs_S} {c nc nb i m : Nat} (hj : hJ S c nc nb i) (hm : m < 2) : S.1 11 m = cs_oal S m 6 + cs_woa S m nc := by
  rw [(hj.2.2.2.1.2 m hm).1, oal_e hj.2.2.2.1.1 hm 6 (by omega), woa_e hj.C nc (Nat.le_refl _), nI_add]
  rfl
end ST9

section SH
variable {S T : hs_S} {c nc nb i B q a : Nat}
theorem l4_2 (n : Nat) : (hs_l4 a T n).2 = T.2 := by
  induction n with
  | zero => rw [hs_l4_0]
  | succ n ih => rw [hs_l4_s]; exact ih
theorem l5_2 (n : Nat) : (hs_l5 a T n).2 = T.2 := by
  induction n with
  | zero => rw [hs_l5_0]
  | succ n ih => rw [hs_l5_s]; exact ih
theorem drp_2 (n : Nat) : (cs_drp a T n).2 = T.2 := by
  induction n with
  | zero => rw [cs_drp_0]
  | succ n ih => rw [cs_drp_s]; exact ih
theorem fail_J (hj : hJ S c nc nb i) (hi : i < 512) (hq : q < c) (h7 : S.1 7 q = nI 98) : hm_q (hs_fails S q c nc) (cs_fail S q nc) ∧ hJ (cs_fail S q nc) c nc nb (i + 1) := by
  obtain ⟨hc1, hc⟩ := hj.c6
  have hq0 : q ≠ 0 := fun e => by
    rw [e, hj.h70] at h7
    exact absurd ((nI_eq (by omega) (by omega)).mp h7) (by omega)
  obtain ⟨⟨a1, a2, a3, a4, a5, a6, a7, a8⟩, j2, j3, ⟨o1, o2⟩, ⟨c1, c2, c3, c4⟩, j6, j7⟩ := hj
  have e0 : ∀ r, r ≠ 8 → (hs_su S 8 q (nI 0)).1 r = S.1 r := fun r h => hs_su_ne _ _ _ h
  have r8 : (hs_su S 8 q (nI 0)).1 8 = upd (S.1 8) q (nI 0) := rfl
  have r2 : (hs_su S 8 q (nI 0)).2 = S.2 := rfl
  have hM0 : jM (hs_su S 8 q (nI 0)) := jM_of j3 (fun r hr => e0 r (by omega))
  have hB0 : jB (hs_su S 8 q (nI 0)) c nc := jB_of j2 (fun r hr => e0 r (by omega))
  have hf1 : cs_f1 S q nc = cs_pc q nc (hs_su S 8 q (nI 0)) 90 := by unfold cs_f1; rfl
  have hfs : hs_fails S q c nc = hs_l5 q (hs_l4 q (hs_l3 q (hs_pa q c nc 90 (hs_su S 8 q (nI 0))) c) c) 2 := by unfold hs_fails; rfl
  generalize hs_su S 8 q (nI 0) = S0 at e0 r8 r2 hM0 hB0 hf1 hfs
  have hP0 : fP S0 c nc (120000 * i) q S0 := ⟨hB0, ⟨by rw [e0 19 (by decide)]; exact c1, by rw [e0 19 (by decide)]; exact c2⟩, fun _ _ _ _ _ => rfl, ⟨by rw [e0 19 (by decide)]; exact c3 q (by omega), fun h h1 h2 => by rw [e0 19 (by decide)]; exact c4 h q h2 (by omega) (Or.inl (a8 h h1))⟩, fun _ _ => rfl, rfl⟩
  obtain ⟨P, G⟩ := pa_pc hM0 hc hc1 hq0 (by omega) (by omega) 90 S0 hP0 (Nat.le_trans (al_cnt_le _ _) j2.2.1)
  generalize cs_pc q nc S0 90 = U at P G hf1
  generalize hs_pa q c nc 90 S0 = V at G hfs
  obtain ⟨p1, ⟨p2, p3⟩, p4, ⟨p5, p6⟩, p7, p8⟩ := P
  have GG := G
  obtain ⟨g1, g2, -⟩ := GG
  have hV := jB_fG hq0 (by omega) hc1 p1 G
  -- the class's steps
  have hf2 : cs_f2 S q nc = hs_sl (cs_drp q U 6) (U.2 + cs_son U q 6) := by unfold cs_f2; rw [hf1]
  have d2 : ∀ r, r ≠ 19 → (cs_f2 S q nc).1 r = U.1 r := fun r hr => by rw [hf2]; exact cs_drp_ne q U hr 6
  have d19 : (cs_f2 S q nc).1 19 = (cs_drp q U 6).1 19 := by rw [hf2]; rfl
  have d22 : (cs_f2 S q nc).2 = U.2 + cs_son U q 6 := by rw [hf2]; rfl
  have hf3 : cs_f3 S q nc = cs_ga q 0 (cs_f2 S q nc) nc := by unfold cs_f3; rfl
  have G3 : fG q nc (cs_f2 S q nc) (cs_f3 S q nc) := by rw [hf3]; exact fG_ga nc
  have e15 := fG_eq (fun r hr => d2 r (by omega)) G G3
  obtain ⟨t1, t2, -⟩ := G3
  obtain ⟨dn1, dn2, dn3⟩ := drp_J (a := q) (by omega) p2 p3 6 (Nat.le_refl _)
  have X1 : ∀ h p, h < 6 → p < 6 → (cs_f4 S q nc 2).1 19 (h * 6 + p) = if p = q then nI 0 else S.1 19 (h * 6 + p) := fun h p hh hp => by
    rw [f4_ne (by decide), t1 19 (by decide), d19, dn3 h p hh hp]
    by_cases e : p = q
    · rw [if_pos ⟨hh, e⟩, if_pos e]
    · rw [if_neg (fun z => e z.2), if_neg e, p4 h p hh hp e, e0 19 (by decide)]
  have x19 : (cs_f4 S q nc 2).1 19 = (cs_drp q U 6).1 19 := by rw [f4_ne (by decide), t1 19 (by decide), d19]
  have y19 : (cs_f4 S q nc 2).1 19 = (hs_l3 q V c).1 19 := by
    rw [x19, ← drp_l3 (T := U) (T' := V) (g1 19 (by decide)) c]
    have := drp_st (T := U) p6 (6 - c) (by omega)
    rw [show c + (6 - c) = 6 by omega] at this
    exact this
  have z19 : (cs_fail S q nc).1 19 = (hs_fails S q c nc).1 19 := by
    rw [hfs, hs_l5_ne (by decide), ← lv_l4 hq0 y19 c]
    have := lv_st (T := cs_f4 S q nc 2) hq0 (by omega) (fun p h1 h2 => by
      rw [X1 q p (by omega) h2, if_neg (by omega)]
      exact c4 q p (by omega) h2 (Or.inr (a8 p h1))) hc1 (6 - c) (by omega)
    rw [show c + (6 - c) = 6 by omega] at this
    unfold cs_fail
    exact this
  have l12 : (cs_f3 S q nc).1 12 = (hs_l4 q (hs_l3 q V c) c).1 12 := by rw [t1 12 (by decide), d2 12 (by decide), hs_l4_ne (by decide), hs_l3_ne (by decide), g1 12 (by decide)]
  have z12 : (cs_fail S q nc).1 12 = (hs_l5 q (hs_l4 q (hs_l3 q V c) c) 2).1 12 := by
    unfold cs_fail
    rw [lv_ne (by decide)]
    exact f4_l5 hq0 l12 2 (Nat.le_refl _)
  have zf : ∀ r, r ≠ 12 → r ≠ 19 → (cs_fail S q nc).1 r = (cs_f3 S q nc).1 r := fun r h1 h2 => by
    unfold cs_fail
    rw [lv_ne h2, f4_ne h1]
  have zv : ∀ r, r ≠ 12 → r ≠ 19 → (cs_fail S q nc).1 r = V.1 r := fun r h1 h2 => by
    rw [zf r h1 h2]
    by_cases e : r = 15 ∨ r = 16 ∨ r = 17 ∨ r = 18
    · exact e15 r e
    · rw [t1 r (by omega), d2 r h2, g1 r (by omega)]
  have zs : ∀ r, r ≠ 12 → r ≠ 19 → (r ≠ 15 ∧ r ≠ 16 ∧ r ≠ 17 ∧ r ≠ 18) → (cs_fail S q nc).1 r = S0.1 r := fun r h1 h2 h3 => by
    rw [zf r h1 h2, t1 r h3, d2 r h2, p7 r ⟨h3.1, h3.2.1, h3.2.2.1, h3.2.2.2, h2⟩]
  have zS : ∀ r, r ≠ 8 → r ≠ 12 → r ≠ 19 → (r ≠ 15 ∧ r ≠ 16 ∧ r ≠ 17 ∧ r ≠ 18) → (cs_fail S q nc).1 r = S.1 r := fun r h0 h1 h2 h3 => by rw [zs r h1 h2 h3, e0 r h0]
  have z8 : (cs_fail S q nc).1 8 = upd (S.1 8) q (nI 0) := by rw [zs 8 (by decide) (by decide) (by decide), r8]
  have all : ∀ r, (cs_fail S q nc).1 r = (hs_fails S q c nc).1 r := fun r => by
    by_cases h19 : r = 19
    · rw [h19]; exact z19
    · by_cases h12 : r = 12
      · rw [h12, hfs]; exact z12
      · rw [zv r h12 h19, hfs, hs_l5_ne h12, hs_l4_ne h19, hs_l3_ne h19]
  have two : (cs_fail S q nc).2 = (hs_fails S q c nc).2 := by
    have s1 := son_st (T := U) p6 (6 - c) (by omega)
    rw [show c + (6 - c) = 6 by omega] at s1
    rw [hfs, l5_2, l4_2, l3_2 (by omega) c hc, son_cg (T := U) (g1 19 (by decide)), g2]
    unfold cs_fail
    rw [lv_2, f4_2, t2, d22, s1]
  refine ⟨⟨fun r _ => all r, fun j _ => by rw [all 12], fun j _ => by rw [all 19], two⟩, ?_⟩
  have w8 : ∀ b, b ≠ q → (cs_fail S q nc).1 8 b = S.1 8 b := fun b hb => by rw [z8, pk_un hb]
  refine ⟨⟨by rw [zS 30 (by decide) (by decide) (by decide) (by decide)]; exact a1, a2, a3, by rw [zS 7 (by decide) (by decide) (by decide) (by decide)]; exact a4, by rw [w8 0 (fun e => hq0 e.symm)]; exact a5, fun b => ?_, fun b => by rw [zS 7 (by decide) (by decide) (by decide) (by decide)]; exact a7 b, fun b hb => by rw [w8 b (by omega)]; exact a8 b hb⟩, jB_of hV (fun r hr => zv r (by omega) (by omega)), jM_of j3 (fun r hr => zS r (by omega) (by omega) (by omega) (by omega)), ?_, ?_, jD_of j6 (Nat.le_succ i) (fun r hr => zS r (by omega) (by omega) (by omega) (by omega)), jV_of j7 (Nat.le_succ i) (zS 27 (by decide) (by decide) (by decide) (by decide))⟩
  · by_cases e : b = q
    · rw [z8, e]; exact Or.inl (if_pos rfl)
    · rw [w8 b e]; exact a6 b
  · have q12 : (hs_l4 q (hs_l3 q V c) c).1 12 = S.1 12 := by rw [hs_l4_ne (by decide), hs_l3_ne (by decide), g1 12 (by decide), p7 12 (by decide), e0 12 (by decide)]
    have qT : ∀ m, m < 2 → hs_oT (hs_l4 q (hs_l3 q V c) c) m = hs_oT S m := fun m hm => oT_ext (fun b hb => by rw [q12])
    obtain ⟨k1, k2⟩ := l5_J (T := hs_l4 q (hs_l3 q V c) c) (B := 99 * i) hq0 (by omega) (by rw [q12]; exact o1) (fun m hm => by rw [qT m hm]; have := (o2 m hm).2; omega) (by omega) 2 (Nat.le_refl _)
    refine ⟨by rw [z12]; exact k1, fun m hm => ?_⟩
    have u1 : hs_oT (cs_fail S q nc) m = hs_oT S m := by
      rw [← qT m hm, ← k2 m hm]
      exact oT_ext (fun b hb => by rw [z12])
    have u2 : hs_wT (cs_fail S q nc) m nc = hs_wT S m nc := hs_wT_ext (fun j hj => by rw [zS 13 (by decide) (by decide) (by decide) (by decide), zS 14 (by decide) (by decide) (by decide) (by decide)]; exact ⟨rfl, rfl⟩)
    rw [u1, u2, zS 11 (by decide) (by decide) (by decide) (by decide)]
    exact ⟨(o2 m hm).1, by have := (o2 m hm).2; omega⟩
  · obtain ⟨k1, k2, k3⟩ := lv_J (T := cs_f4 S q nc 2) (B := 120000 * i) hq0 (by omega) (by rw [x19]; exact dn1) (by rw [x19]; exact dn2) (by omega) 6 (Nat.le_refl _)
    have hff : cs_fail S q nc = cs_lv q (cs_f4 S q nc 2) 6 := by unfold cs_fail; rfl
    have k4 : ∀ h p, h < 6 → p < 6 → h ≠ q → (cs_fail S q nc).1 19 (h * 6 + p) = if h = 0 ∧ p ≠ 0 then (if p = q then nI 0 else S.1 19 (0 * 6 + p)) + (if p = q then nI 0 else S.1 19 (q * 6 + p)) else (if p = q then nI 0 else S.1 19 (h * 6 + p)) := fun h p hh hp hn => by
      rw [hff, k3 h p hh hp, if_pos hp, if_neg hn, X1 0 p (by omega) hp, X1 q p (by omega) hp, X1 h p hh hp]
    have k5 : ∀ p, p < 6 → (cs_fail S q nc).1 19 (q * 6 + p) = nI 0 := fun p hp => by
      rw [hff, k3 q p (by omega) hp, if_pos hp, if_pos rfl]
    refine ⟨by rw [hff]; exact k1, by rw [hff]; omega, fun b hb => ?_, fun b p hb hp hz => ?_⟩
    · by_cases e : b = q
      · rw [e]; exact k5 q (by omega)
      · rw [k4 b b hb hb e, if_neg (fun z => z.2 z.1), if_neg e]
        exact c3 b hb
    · by_cases e : b = q
      · rw [e]; exact k5 p hp
      · rw [k4 b p hb hp e]
        by_cases e2 : p = q
        · rw [if_pos e2, if_pos e2, if_pos e2]
          split <;> rfl
        · rw [if_neg e2, if_neg e2, if_neg e2]
          rw [w8 b e, w8 p e2] at hz
          split
          · rename_i hh
            have hz2 : S.1 8 p = nI 0 := hz.resolve_left (fun z => by
              rw [hh.1, a5] at z
              exact absurd ((nI_eq (by omega) (by omega)).mp z) (by omega))
            rw [c4 0 p (by omega) hp (Or.inr hz2), c4 q p (by omega) hp (Or.inr hz2)]
            rfl
          · exact c4 b p hb hp hz
theorem st_withdraw {v0 v1 v2 v3 : Int32} (hj : hJ S c nc nb i) (hi : i < 512) (z : cd_withdraw S c v0 v1 v2 v3 = 0) : hm_q ((hs_wd S c nc (vN v0) (vN v1) (cs_m v2) (vN v3)).1) ((cs_withdraw S nc v0 v1 v2 v3).1) ∧ hJ ((cs_withdraw S nc v0 v1 v2 v3).1) (c) (nc) (nb) (i + 1) ∧ (cs_withdraw S nc v0 v1 v2 v3).2 = (hs_wd S c nc (vN v0) (vN v1) (cs_m v2) (vN v3)).2 := by
  obtain ⟨z1, z⟩ := cs_sq_z.mp z
  obtain ⟨z2, z⟩ := cs_sq_z.mp z
  obtain ⟨z3, z⟩ := cs_sq_z.mp z
  obtain ⟨z4, z⟩ := cs_sq_z.mp z
  obtain ⟨z5, z6⟩ := cs_sq_z.mp z
  have hc := hj.c6.2
  obtain ⟨a, ha, rfl⟩ := cd_H_of (by omega) z1
  obtain ⟨t, ht, rfl⟩ := cd_H_of (by omega) z2
  obtain ⟨k, k1, k2, rfl⟩ := cd_R_of (by omega) z4
  have va : vN (nI a) = a := vN_nI (by omega)
  have vt : vN (nI t) = t := vN_nI (by omega)
  have vk : vN (nI k) = k := vN_nI (by omega)
  rw [va, vt] at z5 z6
  obtain ⟨q1, q2, q3, q4⟩ := cd_K_0 (by omega) (by omega) z5
  unfold cs_withdraw
  rw [va, vt, vk]
  by_cases h : k ≤ cs_loose S t (cs_m v2) nc
  · have e1 : hs_wd S c nc a t (cs_m v2) k = (cs_cadd (cs_gl t a (cs_m v2) nc S k).1 a t (-(nI k * S.1 9 (cs_m v2))), nI 112) := by unfold hs_wd; rw [if_pos h]
    have e2 : cs_wd S nc a t (cs_m v2) k = (cs_cadd (cs_gl t a (cs_m v2) nc S k).1 a t (-(nI k * S.1 9 (cs_m v2))), nI 112) := by unfold cs_wd; rw [if_pos h]
    rw [e1, e2]
    refine ⟨hm_q.rf, ?_, rfl⟩
    obtain ⟨g1, g2⟩ := gl_J (m := cs_m v2) (a := t) (by omega) ha hj.2.1 k
    obtain ⟨f, f1, f2⟩ := (hj.2.2.1 (cs_m v2) (cs_m_lt v2)).1
    rw [f2, cx_nmul] at z6 ⊢
    have hkf : k * f ≤ 90 * 99 := Nat.mul_le_mul k2 f1
    have hC : jCb S (120000 * i) := hj.2.2.2.2.1
    have hle := cd_C_0 hC (by omega) (by omega) (by omega) z6
    have h0 : jCb (cs_gl t a (cs_m v2) nc S k).1 (120000 * i) := jCb_of (S := S) hC (Nat.le_refl _) (fun r hr => g2 r (by omega))
    have h1 := jCb_sub (y := k * f) (a := a) (q := t) h0 (by omega) (by omega) (by rw [g2 19 (by decide)]; exact hle)
    exact hJ_BC hj (jB_of g1 (fun r hr => cadd_ne (by omega))) (jCb_of h1 (by omega) (fun _ _ => rfl)) (fun r hr => (cadd_ne hr.2.2.2.2).trans (g2 r ⟨hr.1, hr.2.1, hr.2.2.1, hr.2.2.2.1⟩))
  · have e1 : hs_wd S c nc a t (cs_m v2) k = (hs_fails S t c nc, nI 120) := by unfold hs_wd; rw [if_neg h]
    have e2 : cs_wd S nc a t (cs_m v2) k = (cs_fail S t nc, nI 120) := by unfold cs_wd; rw [if_neg h]
    rw [e1, e2]
    obtain ⟨f1, f2⟩ := fail_J hj hi ht q2
    exact ⟨f1, f2, rfl⟩
end SH

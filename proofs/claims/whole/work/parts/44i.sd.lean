section TP
variable {X : Nat → Nat} {S S' T P : hs_S} {p : (Nat → Int32) × (Nat → Int32)} {f : Nat → Int32} {g q s n k c nc nb i B a : Nat}
def ho_R (T : hs_S) (X : Nat → Nat) (q s k : Nat) (p : (Nat → Int32) × (Nat → Int32)) : Prop := (∀ j, j < 6 → T.1 28 j = p.1 j) ∧ (∀ j, j < 6 → T.1 29 j = if p.2 j = nI 0 then nI (q * X j % s) else -1) ∧ (∀ j, p.2 j = nI 0 ∨ p.2 j = nI 1) ∧ (∀ j, j < 6 → p.1 j = nI (q * X j / s + (if p.2 j = nI 0 then 0 else 1)) ∧ (¬ p.2 j = nI 0 → 0 < X j)) ∧ ho_S (fun j => q * X j % s) 6 ≤ ho_S (fun j => if p.2 j = nI 0 then q * X j % s else 0) 6 + k * (s - 1)
theorem ho_R_st (h : hX S g X) (hq : q ≤ 99) (h0 : 1 ≤ s) (hs : s < 2 ^ 31) (R : ho_R T X q s k p) (hk : (k + 1) * s ≤ ho_S (fun j => q * X j % s) 6) : ∃ b, b < 6 ∧ ho_b S g (nI q) (nI s) p.2 6 = some b ∧ ho_R (cs_p2s T) X q s (k + 1) (ho_st S g (nI q) (nI s) p) := by
  obtain ⟨r1, r2, r3, r4, r5⟩ := R
  have hks : k * (s - 1) ≤ k * s := Nat.mul_le_mul_left k (Nat.sub_le s 1)
  rw [Nat.succ_mul] at hk
  have hpos : 0 < ho_S (fun j => if p.2 j = nI 0 then q * X j % s else 0) 6 := by omega
  obtain ⟨j, j1, j2⟩ := ho_S_pos hpos
  have hp : ∃ j, j < 6 ∧ p.2 j = nI 0 ∧ 0 < q * X j % s := by
    by_cases e : p.2 j = nI 0
    · rw [if_pos e] at j2; exact ⟨j, j1, e, j2⟩
    · rw [if_neg e] at j2; exact absurd j2 (Nat.lt_irrefl 0)
  obtain ⟨b1, b2, b3, b4⟩ := pick_eq (t := p.2) h hq h0 hs r2 hp
  refine ⟨cs_gr T 5, b4, b1, ?_⟩
  rw [ho_st_e b1]
  have q28 : (cs_p2s T).1 28 = upd (T.1 28) (cs_gr T 5) (T.1 28 (cs_gr T 5) + nI 1) := rfl
  have q29 : (cs_p2s T).1 29 = upd (T.1 29) (cs_gr T 5) (-1) := rfl
  generalize cs_gr T 5 = b at b1 b2 b3 b4 q28 q29
  refine ⟨fun j hj => ?_, fun j hj => ?_, fun j => ?_, fun j hj => ?_, ?_⟩
  · rw [q28]
    by_cases e : j = b
    · subst e
      rw [r1 j hj]
      exact (if_pos rfl).trans (if_pos rfl).symm
    · show _ = upd p.1 b _ j
      rw [pk_un e, pk_un e]; exact r1 j hj
  · rw [q29]
    show _ = if upd p.2 b (nI 1) j = nI 0 then _ else _
    by_cases e : j = b
    · subst e
      rw [show upd p.2 j (nI 1) j = nI 1 from if_pos rfl, if_neg (by decide)]
      exact if_pos rfl
    · rw [pk_un e, pk_un e]; exact r2 j hj
  · show upd p.2 b (nI 1) j = nI 0 ∨ upd p.2 b (nI 1) j = nI 1
    by_cases e : j = b
    · exact Or.inr (by rw [e]; exact if_pos rfl)
    · rw [pk_un e]; exact r3 j
  · show upd p.1 b _ j = nI (_ + (if upd p.2 b (nI 1) j = nI 0 then 0 else 1)) ∧ (¬ upd p.2 b (nI 1) j = nI 0 → 0 < X j)
    by_cases e : j = b
    · subst e
      have := (r4 j hj).1
      rw [if_pos b2] at this
      rw [show upd p.2 j (nI 1) j = nI 1 from if_pos rfl, if_neg (by decide)]
      refine ⟨?_, fun _ => b3⟩
      rw [show upd p.1 j (p.1 j + nI 1) j = p.1 j + nI 1 from if_pos rfl, this, nI_add]
    · rw [pk_un e, pk_un e]; exact r4 j hj
  · have hm := ho_S_mark (t := p.2) (R := fun j => q * X j % s) b2 6
    rw [if_pos b4] at hm
    have hlt := Nat.mod_lt (q * X b) h0
    have e1 : (k + 1) * (s - 1) = k * (s - 1) + (s - 1) := Nat.succ_mul _ _
    show _ ≤ ho_S (fun j => if upd p.2 b (nI 1) j = nI 0 then q * X j % s else 0) 6 + (k + 1) * (s - 1)
    rw [e1]
    have hm2 : ho_S (fun j => if upd p.2 b (nI 1) j = nI 0 then q * X j % s else 0) 6 + q * X b % s = ho_S (fun j => if p.2 j = nI 0 then q * X j % s else 0) 6 := hm
    omega
theorem cs_p2_0 : cs_p2 T 0 = T := rfl
theorem ho_all (h : hX S g X) (hq : q ≤ 99) (hs : s = ho_S X 6) (h0 : 1 ≤ s) (p28 : ∀ j, j < 6 → P.1 28 j = nI (q * X j / s) ∧ P.1 29 j = nI (q * X j % s)) (k : Nat) (hk : k ≤ q - ho_S (fun j => q * X j / s) 6) : ho_R (cs_p2 P k) X q s k (ho_k S g (nI q) (nI s) k) := by
  have hs6 : s ≤ 6 * 50688 := by rw [hs]; exact ho_S_le (fun j hj => (h j hj).2)
  induction k with
  | zero =>
    rw [cs_p2_0, ho_k_0]
    refine ⟨fun j hj => ?_, fun j hj => ?_, fun j => Or.inl rfl, fun j hj => ⟨?_, fun e => absurd rfl e⟩, ?_⟩
    · rw [(p28 j hj).1]; exact (ho_f_n h hq (by omega) 6 (Nat.le_refl _) j hj).symm
    · rw [(p28 j hj).2]; exact (if_pos rfl).symm
    · show ho_f S g (nI q) (nI s) 6 j = nI (_ + (if nI 0 = nI 0 then 0 else 1))
      rw [if_pos rfl]
      exact ho_f_n h hq (by omega) 6 (Nat.le_refl _) j hj
    · show _ ≤ ho_S (fun j => if nI 0 = nI 0 then q * X j % s else 0) 6 + 0 * (s - 1)
      simp only [if_true]
      omega
  | succ k ih =>
    rw [cs_p2_s, ho_k_s]
    obtain ⟨l1, l2, l3⟩ := p1_L (q := q) hs h0
    obtain ⟨b, -, -, r⟩ := ho_R_st h hq h0 (by omega) (ih (by omega)) (by rw [← l3]; exact Nat.mul_le_mul_right s hk)
    exact r
theorem ho_some (h : hX S g X) (hq : q ≤ 99) (hs : s = ho_S X 6) (h0 : 1 ≤ s) (k : Nat) (hk : k < q - ho_S (fun j => q * X j / s) 6) : ∃ b, b < 6 ∧ ho_b S g (nI q) (nI s) (ho_k S g (nI q) (nI s) k).2 6 = some b := by
  have hs6 : s ≤ 6 * 50688 := by rw [hs]; exact ho_S_le (fun j hj => (h j hj).2)
  obtain ⟨l1, l2, l3⟩ := p1_L (q := q) hs h0
  obtain ⟨b, b1, b2, -⟩ := ho_R_st h hq h0 (by omega) (ho_all (P := (cs_p1 g (nI q) (nI s) S 6).1) h hq hs h0 (p1_n h hq hs h0 6 (Nat.le_refl _)).2.1 k (by omega)) (by rw [← l3]; exact Nat.mul_le_mul_right s hk)
  exact ⟨b, b1, b2⟩
theorem p2_ne {r : Nat} (h1 : r ≠ 28) (h2 : r ≠ 29) (k : Nat) : (cs_p2 T k).1 r = T.1 r := by
  induction k with
  | zero => rw [cs_p2_0]
  | succ k ih =>
    rw [cs_p2_s, ← ih]
    unfold cs_p2s
    rw [hs_su_ne _ _ _ h2, hs_su_ne _ _ _ h1]
theorem p2_2 (k : Nat) : (cs_p2 T k).2 = T.2 := by
  induction k with
  | zero => rw [cs_p2_0]
  | succ k ih => rw [cs_p2_s]; exact ih
theorem cs_tv_0 : cs_tv a T 0 = T := rfl
theorem tv_ne {r : Nat} (h : r ≠ 19) (n : Nat) : (cs_tv a T n).1 r = T.1 r := by
  induction n with
  | zero => rw [cs_tv_0]
  | succ n ih =>
    rw [cs_tv_s, ← ih]
    unfold cs_tvs
    split
    · rfl
    · exact cadd_ne h
theorem tv_2 (n : Nat) : (cs_tv a T n).2 = T.2 := by
  induction n with
  | zero => rw [cs_tv_0]
  | succ n ih =>
    rw [cs_tv_s, ← ih]
    unfold cs_tvs
    split <;> rfl
theorem ho_c_ne {r : Nat} (h : r ≠ 19) (n : Nat) : (ho_c a f S n).1 r = S.1 r := by
  induction n with
  | zero => rw [ho_c_0]
  | succ n ih => rw [ho_c_s, hs_su_ne _ _ _ h, ih]
theorem ho_c_2 (n : Nat) : (ho_c a f S n).2 = S.2 := by
  induction n with
  | zero => rw [ho_c_0]
  | succ n ih => rw [ho_c_s]; exact ih
theorem tv_c (h28 : ∀ j, j < 6 → T.1 28 j = f j) (h19 : T.1 19 = S.1 19) (n : Nat) (hn : n ≤ 6) : (cs_tv a T n).1 19 = (ho_c a f S n).1 19 := by
  induction n with
  | zero => rw [cs_tv_0, ho_c_0, h19]
  | succ n ih =>
    have i := ih (by omega)
    have e28 : (cs_tv a T n).1 28 n = f n := by rw [tv_ne (by decide)]; exact h28 n (by omega)
    rw [cs_tv_s, ho_c_s]
    unfold cs_tvs
    by_cases e : n = a
    · rw [if_pos e, if_pos e, i]
      show _ = upd ((ho_c a f S n).1 19) _ _
      rw [up_id]
      exact (Int32.add_zero _).symm
    · rw [if_neg e, if_neg e, e28]
      show upd ((cs_tv a T n).1 19) _ ((cs_tv a T n).1 19 _ + _) = upd ((ho_c a f S n).1 19) _ _
      rw [i]
theorem tv_J (h : jCb T B) (hY : ∀ j, j < 6 → ∃ y, y ≤ 100 ∧ T.1 28 j = nI y ∧ (0 < y → ¬ T.1 8 j = nI 0)) (ha : a < 6) (oa : ¬ T.1 8 a = nI 0) (hB : B + 600 < 2 ^ 31) (n : Nat) (hn : n ≤ 6) : jCb (cs_tv a T n) (B + 100 * n) := by
  induction n with
  | zero => rw [cs_tv_0]; exact h
  | succ n ih =>
    have i := ih (by omega)
    obtain ⟨y, y1, y2, y3⟩ := hY n (by omega)
    have e28 : (cs_tv a T n).1 28 n = nI y := by rw [tv_ne (by decide)]; exact y2
    rw [cs_tv_s]
    unfold cs_tvs
    by_cases e : n = a
    · rw [if_pos e]; exact jCb_of i (by omega) (fun _ _ => rfl)
    · rw [if_neg e, e28]
      by_cases w : y = 0
      · refine jCb_of i (by omega) (fun r hr => ?_)
        rcases hr with rfl | rfl
        · exact cadd_ne (by decide)
        · show upd ((cs_tv a T n).1 19) _ _ = _
          rw [w]
          exact up_id (Int32.add_zero _).symm
      · exact jCb_of (jCb_add (y := y) i ha (by omega) (fun z => e z.symm) (by rw [tv_ne (by decide)]; exact oa) (by rw [tv_ne (by decide)]; exact y3 (by omega)) (by omega)) (by omega) (fun _ _ => rfl)
theorem cd_S_0 : cd_S S g 0 = 0 := rfl
theorem cd_S_all : ∀ {n : Nat}, cd_S S g n = 0 → ∀ j, j < n → S.1 27 (g * 6 + j) = nI 0 ∨ ¬ S.1 8 j = nI 0 := by
  intro n
  induction n with
  | zero => intro _ j hj; omega
  | succ n ih =>
    intro z j hj
    rw [cd_S_s] at z
    obtain ⟨z1, z2⟩ := cs_sq_z.mp z
    by_cases e : j = n
    · rw [e]
      unfold cd_Ss at z2
      split at z2
      · exact Or.inl (by assumption)
      · exact Or.inr (cd_O_o z2)
    · exact ih z1 j (by omega)
theorem st_throwOver {v0 v1 v2 : Int32} (hj : hJ S c nc nb i) (hi : i < 512) (z : cd_throwOver S c v0 v1 v2 = 0) : hm_q (hs_tho S v0 v1 v2) (cs_throwOver S v0 v1 v2) ∧ hJ (cs_throwOver S v0 v1 v2) (c) (nc) (nb) (i + 1) ∧ (cs_throwOver S v0 v1 v2).1 28 (vN v1) = hs_thr S v0 v1 v2 := by
  obtain ⟨z1, z⟩ := cs_sq_z.mp z
  obtain ⟨z2, z⟩ := cs_sq_z.mp z
  obtain ⟨z3, z⟩ := cs_sq_z.mp z
  obtain ⟨z4, z⟩ := cs_sq_z.mp z
  obtain ⟨z5, z6⟩ := cs_sq_z.mp z
  have hc := hj.c6.2
  obtain ⟨g, hg, rfl⟩ := cd_H_of (by omega) z1
  obtain ⟨a, ha, rfl⟩ := cd_H_of (by omega) z2
  obtain ⟨q, q1, q2, rfl⟩ := cd_R_99 z3
  have hx := hX_of hj hi hg
  have vg : vN (nI g) = g := vN_nI (by omega)
  have va : vN (nI a) = a := vN_nI (by omega)
  rw [vg, va] at z6
  rw [va] at z4
  rw [vg] at z5
  have hp := sh_pos hx (by omega) z6
  have hb : ho_S (fun j => vN (S.1 27 (g * 6 + j))) 6 ≤ 6 * 50688 := ho_S_le (fun j hj => (hx j hj).2)
  have hva := va_n hx 6 (Nat.le_refl _)
  have hXz : ∀ j, c ≤ j → j < 6 → vN (S.1 27 (g * 6 + j)) = 0 := fun j h1 h2 => by
    obtain ⟨x, x1, x2, x3⟩ := hj.2.2.2.2.2.2 g j hg h2
    rw [x2, x3 h1, vN_nI (by omega)]
  have hXo : ∀ j, j < 6 → 0 < vN (S.1 27 (g * 6 + j)) → ¬ S.1 8 j = nI 0 := fun j h1 h2 => by
    by_cases e : j < c
    · rcases cd_S_all z5 j e with w | w
      · rw [w, vN_nI (by omega)] at h2; omega
      · exact w
    · rw [hXz j (by omega) h1] at h2; omega
  generalize hXX : (fun j => vN (S.1 27 (g * 6 + j))) = X at hx hp hb hva
  have hXo2 : ∀ j, j < 6 → 0 < X j → ¬ S.1 8 j = nI 0 := fun j h1 h2 => hXo j h1 (by rw [← hXX] at h2; exact h2)
  generalize hss : ho_S X 6 = s at hp hb hva
  obtain ⟨t1, t2, t3, t4⟩ := p1_n hx q2 hss.symm hp 6 (Nat.le_refl _)
  obtain ⟨l1, l2, l3⟩ := p1_L (q := q) hss.symm hp
  have hl := ho_l_n hx q2 hss.symm hp 6 (Nat.le_refl _)
  have hR := ho_all (P := (cs_p1 g (nI q) (nI s) S 6).1) hx q2 hss.symm hp t2 _ (Nat.le_refl _)
  have eT : cs_throwOver S (nI g) (nI a) (nI q) = cs_tv a (cs_p2 (cs_p1 g (nI q) (nI s) S 6).1 (q - ho_S (fun j => q * X j / s) 6)) 6 := by
    unfold cs_throwOver cs_tp
    rw [vg, va, hva, t1, vN_nI (by omega)]
  have eE : ho_e S (nI g) (nI q) = ho_k S g (nI q) (nI s) (q - ho_S (fun j => q * X j / s) 6) := by
    unfold ho_e
    rw [vg, hva, hl, vN_nI (by omega)]
  generalize q - ho_S (fun j => q * X j / s) 6 = L at l2 l3 hR eT eE
  generalize ho_k S g (nI q) (nI s) L = p at hR eE
  have ne2 : ∀ r, r ≠ 28 → r ≠ 29 → (cs_p2 (cs_p1 g (nI q) (nI s) S 6).1 L).1 r = S.1 r := fun r h1 h2 => by rw [p2_ne h1 h2]; exact t3 r h1 h2
  have two2 : (cs_p2 (cs_p1 g (nI q) (nI s) S 6).1 L).2 = S.2 := by rw [p2_2]; exact t4
  generalize cs_p2 (cs_p1 g (nI q) (nI s) S 6).1 L = T at hR eT ne2 two2
  obtain ⟨r1, r2, r3, r4, r5⟩ := hR
  have e19 := tv_c (a := a) r1 (ne2 19 (by decide) (by decide)) 6 (Nat.le_refl _)
  have eH : hs_tho S (nI g) (nI a) (nI q) = ho_c a p.1 S 6 := by
    unfold hs_tho
    rw [eE, va]
  have eR : hs_thr S (nI g) (nI a) (nI q) = p.1 a := by
    unfold hs_thr
    rw [eE, va]
  rw [eT, eH, eR, va]
  have nS : ∀ r, r ≠ 19 → r ≠ 28 → r ≠ 29 → (cs_tv a T 6).1 r = S.1 r := fun r h1 h2 h3 => by rw [tv_ne h1]; exact ne2 r h2 h3
  refine ⟨⟨fun r hr => ?_, fun j hj => ?_, fun j hj => ?_, ?_⟩, ?_, ?_⟩
  · rw [nS r (by omega) (by omega) (by omega), ho_c_ne (by omega)]
  · rw [nS 12 (by decide) (by decide) (by decide), ho_c_ne (by decide)]
  · rw [e19]
  · rw [tv_2, ho_c_2, two2]
  · obtain ⟨j1, j2, j3, j4, j5, j6, j7⟩ := hj
    have hC0 : jCb T (120000 * i) := jCb_of (S := S) j5 (Nat.le_refl _) (fun r hr => ne2 r (by omega) (by omega))
    have hC := tv_J (a := a) hC0 (fun j hj => ?_) (by omega) (by rw [ne2 8 (by decide) (by decide)]; exact cd_O_o z4) (by omega) 6 (Nat.le_refl _)
    · exact ⟨jA_of j1 (fun r h => nS r (by omega) (by omega) (by omega)), jB_of j2 (fun r h => nS r (by omega) (by omega) (by omega)), jM_of j3 (fun r h => nS r (by omega) (by omega) (by omega)), jO_of j4 (Nat.le_succ i) (fun r h => nS r (by omega) (by omega) (by omega)), jCb_of hC (by omega) (fun _ _ => rfl), jD_of j6 (Nat.le_succ i) (fun r h => nS r (by omega) (by omega) (by omega)), jV_of j7 (Nat.le_succ i) (nS 27 (by decide) (by decide) (by decide))⟩
    · obtain ⟨w1, w2⟩ := r4 j hj
      have hle : q * X j / s ≤ q := by
        have h1 : X j ≤ s := by rw [← hss]; exact ho_S_ge hj
        have h2 : q * X j ≤ q * s := Nat.mul_le_mul_left q h1
        have h3 := Nat.div_mul_le_self (q * X j) s
        exact Nat.le_of_mul_le_mul_right (c := s) (Nat.le_trans h3 h2) (by omega)
      refine ⟨_, ?_, (r1 j hj).trans w1, fun hy => ?_⟩
      · split <;> omega
      · rw [ne2 8 (by decide) (by decide)]
        refine hXo2 j hj ?_
        by_cases e : p.2 j = nI 0
        · rw [if_pos e, Nat.add_zero] at hy
          rcases Nat.eq_zero_or_pos (X j) with w | w
          · rw [w, Nat.mul_zero, Nat.zero_div] at hy; omega
          · exact w
        · exact w2 e
  · rw [tv_ne (by decide)]; exact r1 a (by omega)
end TP

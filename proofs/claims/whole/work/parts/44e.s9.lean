section SG
variable {S S' T T' U V : hs_S} {c nc nb i B q a : Nat}
theorem jB_fG (hq0 : q ≠ 0) (hq : q < 6) (hc : 1 ≤ c) (h : jB U c nc) (g : fG q nc U V) : jB V c nc := by
  obtain ⟨b1, b2, b3, b4, b5, b6⟩ := h
  obtain ⟨g1, g2, g3⟩ := g
  refine ⟨by rw [g1 31 (by decide)]; exact b1, b2, fun j hj => ?_, fun j hj => ?_, fun j => ?_, fun j hj => ?_⟩
  · obtain ⟨m, w, h1, h2, h3, h4, h5⟩ := b3 j hj
    refine ⟨m, w, h1, h2, by rw [g1 13 (by decide)]; exact h3, by rw [g1 14 (by decide)]; exact h4, ?_⟩
    by_cases e : U.1 15 j = nI q
    · rw [((g3 j).1 ⟨hj, e⟩).1]
      rcases h5 with ⟨_, h5⟩ | ⟨h5, _⟩
      · rw [e] at h5
        exact absurd h5 (cx_ne1 (by omega))
      · exact Or.inr ⟨h5, 0, hc, rfl⟩
    · rw [((g3 j).2 (fun z => e z.2)).1]
      exact h5
  · rw [((g3 j).2 (fun z => absurd z.1 (by omega))).2.1]
    exact b4 j hj
  · by_cases e : j < nc ∧ U.1 15 j = nI q
    · exact Or.inl ((g3 j).1 e).2.2.1
    · rw [((g3 j).2 e).2.2.1]; exact b5 j
  · by_cases e : j < nc ∧ U.1 15 j = nI q
    · obtain ⟨k1, k2, k3, k4⟩ := (g3 j).1 e
      exact Or.inr (k1.trans k4.symm)
    · obtain ⟨k1, k2, k3, k4⟩ := (g3 j).2 e
      rw [k1, k4]; exact b6 j hj
-- two ways of the same coins
theorem fG_eq {U' W : hs_S} (h : ∀ r, r = 15 ∨ r = 16 ∨ r = 17 ∨ r = 18 → U'.1 r = U.1 r) (g : fG q nc U V) (g' : fG q nc U' W) : ∀ r, r = 15 ∨ r = 16 ∨ r = 17 ∨ r = 18 → W.1 r = V.1 r := by
  intro r hr
  funext j
  have e15 : U'.1 15 j = U.1 15 j := by rw [h 15 (by decide)]
  have e16 : U'.1 16 j = U.1 16 j := by rw [h 16 (by decide)]
  have e17 : U'.1 17 j = U.1 17 j := by rw [h 17 (by decide)]
  have e18 : U'.1 18 j = U.1 18 j := by rw [h 18 (by decide)]
  by_cases e : j < nc ∧ U.1 15 j = nI q
  · obtain ⟨k1, k2, k3, k4⟩ := (g.2.2 j).1 e
    obtain ⟨l1, l2, l3, l4⟩ := (g'.2.2 j).1 ⟨e.1, by rw [e15]; exact e.2⟩
    rcases hr with rfl | rfl | rfl | rfl
    · rw [k1, l1]
    · rw [k2, l2, e16]
    · rw [k3, l3]
    · rw [k4, l4]
  · obtain ⟨k1, k2, k3, k4⟩ := (g.2.2 j).2 e
    obtain ⟨l1, l2, l3, l4⟩ := (g'.2.2 j).2 (fun z => e ⟨z.1, by rw [← e15]; exact z.2⟩)
    rcases hr with rfl | rfl | rfl | rfl
    · rw [k1, l1, e15]
    · rw [k2, l2, e16]
    · rw [k3, l3, e17]
    · rw [k4, l4, e18]
theorem up_id {f : Nat → Int32} {k : Nat} {x : Int32} (h : f k = x) : upd f k x = f := by
  funext j
  by_cases e : j = k
  · rw [e, h]; exact if_pos rfl
  · exact pk_un e
-- the claims against the bank go
theorem cs_drp_0 : cs_drp a T 0 = T := rfl
theorem hs_l3_0 : hs_l3 a T 0 = T := rfl
theorem hs_l4_0 : hs_l4 a T 0 = T := rfl
theorem hs_l5_0 : hs_l5 a T 0 = T := rfl
theorem cs_lv_0 : cs_lv a T 0 = T := rfl
theorem cs_son_0 : cs_son T a 0 = 0 := rfl
theorem drp_l3 (h : T'.1 19 = T.1 19) (n : Nat) : (cs_drp a T n).1 19 = (hs_l3 a T' n).1 19 := by
  induction n with
  | zero => rw [cs_drp_0, hs_l3_0, h]
  | succ n ih =>
    rw [cs_drp_s, hs_l3_s]
    show upd ((cs_drp a T n).1 19) _ _ = upd ((hs_l3 a T' n).1 19) _ _
    rw [ih]
theorem drp_st (hz : ∀ h, c ≤ h → h < 6 → T.1 19 (h * 6 + a) = nI 0) (k : Nat) (hk : c + k ≤ 6) : (cs_drp a T (c + k)).1 19 = (cs_drp a T c).1 19 := by
  induction k with
  | zero => rfl
  | succ k ih =>
    rw [← Nat.add_assoc, cs_drp_s]
    show upd ((cs_drp a T (c + k)).1 19) _ _ = _
    have e : ∀ n, n ≤ c + k → (cs_drp a T n).1 19 ((c + k) * 6 + a) = nI 0 := by
      intro n
      induction n with
      | zero => intro _; rw [cs_drp_0]; exact hz (c + k) (by omega) (by omega)
      | succ n i2 =>
        intro hn
        rw [cs_drp_s]
        show upd ((cs_drp a T n).1 19) (n * 6 + a) (nI 0) ((c + k) * 6 + a) = nI 0
        rw [pk_un (by omega)]
        exact i2 (by omega)
    rw [up_id (e (c + k) (Nat.le_refl _))]
    exact ih (by omega)
theorem drp_J (ha : a < 6) (h1 : hs_nn (T.1 19) 36) (h2 : hs_T (T.1 19) 36 ≤ B) (n : Nat) (hn : n ≤ 6) : hs_nn ((cs_drp a T n).1 19) 36 ∧ hs_T ((cs_drp a T n).1 19) 36 ≤ B ∧ ∀ h p, h < 6 → p < 6 → (cs_drp a T n).1 19 (h * 6 + p) = if h < n ∧ p = a then nI 0 else T.1 19 (h * 6 + p) := by
  induction n with
  | zero =>
    rw [cs_drp_0]
    exact ⟨h1, h2, fun h p _ _ => by rw [if_neg (fun z => absurd z.1 (Nat.not_lt_zero h))]⟩
  | succ n ih =>
    obtain ⟨i1, i2, i3⟩ := ih (by omega)
    have r : (cs_drp a T (n + 1)).1 19 = upd ((cs_drp a T n).1 19) (n * 6 + a) (nI 0) := by rw [cs_drp_s]; rfl
    have u := hs_T_up (f := (cs_drp a T n).1 19) (x := nI 0) (show n * 6 + a < 36 by omega)
    rw [vN_nI (by omega)] at u
    refine ⟨by rw [r]; exact hs_nn_up i1 (nI_pos (by omega)), by rw [r]; omega, fun h p hh hp => ?_⟩
    rw [r]
    by_cases e : h * 6 + p = n * 6 + a
    · have e1 : h = n := by omega
      have e2 : p = a := by omega
      rw [if_pos ⟨by omega, e2⟩]
      exact if_pos e
    · rw [pk_un e, i3 h p hh hp]
      by_cases w : h < n ∧ p = a
      · rw [if_pos w, if_pos ⟨by omega, w.2⟩]
      · rw [if_neg w, if_neg (fun z => w ⟨by omega, z.2⟩)]
theorem l3_2 (ha : a < 6) (n : Nat) (hn : n ≤ 6) : (hs_l3 a T n).2 = T.2 + cs_son T a n := by
  induction n with
  | zero => rw [hs_l3_0, cs_son_0, Int64.add_zero]
  | succ n ih =>
    have e : ∀ k, k ≤ n → (hs_l3 a T k).1 19 (n * 6 + a) = T.1 19 (n * 6 + a) := by
      intro k
      induction k with
      | zero => intro _; rw [hs_l3_0]
      | succ k i2 =>
        intro hk
        rw [hs_l3_s]
        show upd ((hs_l3 a T k).1 19) (k * 6 + a) (nI 0) (n * 6 + a) = _
        rw [pk_un (by omega)]
        exact i2 (by omega)
    rw [hs_l3_s, cs_son_s]
    show (hs_l3 a T n).2 + ((hs_l3 a T n).1 19 (n * 6 + a)).toInt64 = _
    rw [e n (Nat.le_refl _), ih (by omega), Int64.add_assoc]
theorem son_st (hz : ∀ h, c ≤ h → h < 6 → T.1 19 (h * 6 + a) = nI 0) (k : Nat) (hk : c + k ≤ 6) : cs_son T a (c + k) = cs_son T a c := by
  induction k with
  | zero => rfl
  | succ k ih =>
    rw [← Nat.add_assoc, cs_son_s, hz (c + k) (by omega) (by omega), ih (by omega)]
    exact Int64.add_zero _
theorem son_cg (h : T'.1 19 = T.1 19) (n : Nat) : cs_son T' a n = cs_son T a n := by
  induction n with
  | zero => rw [cs_son_0, cs_son_0]
  | succ n ih => rw [cs_son_s, cs_son_s, ih, h]
-- the bank's own claims
theorem lvs_19 (ha0 : a ≠ 0) (j : Nat) : (cs_lvs a j T).1 19 = upd (upd (T.1 19) (0 * 6 + j) (T.1 19 (0 * 6 + j) + (if j = 0 then nI 0 else T.1 19 (a * 6 + j)))) (a * 6 + j) (nI 0) := by
  unfold cs_lvs
  by_cases e : j = 0
  · rw [if_pos e, if_pos e]
    show upd (T.1 19) _ _ = _
    rw [up_id (f := T.1 19) (k := 0 * 6 + j) (show T.1 19 (0 * 6 + j) = T.1 19 (0 * 6 + j) + nI 0 from (Int32.add_zero _).symm)]
  · rw [if_neg e, if_neg e]
    rfl
theorem lv_l4 (ha0 : a ≠ 0) (h : T.1 19 = T'.1 19) (n : Nat) : (cs_lv a T n).1 19 = (hs_l4 a T' n).1 19 := by
  induction n with
  | zero => rw [cs_lv_0, hs_l4_0, h]
  | succ n ih =>
    rw [cs_lv_s, hs_l4_s, lvs_19 ha0, ih]
    rfl
theorem lv_J (ha0 : a ≠ 0) (ha : a < 6) (h1 : hs_nn (T.1 19) 36) (h2 : hs_T (T.1 19) 36 ≤ B) (hB : B < 2 ^ 30) (n : Nat) (hn : n ≤ 6) : hs_nn ((cs_lv a T n).1 19) 36 ∧ hs_T ((cs_lv a T n).1 19) 36 ≤ B ∧ ∀ h p, h < 6 → p < 6 → (cs_lv a T n).1 19 (h * 6 + p) = if p < n then (if h = a then nI 0 else if h = 0 ∧ p ≠ 0 then T.1 19 (0 * 6 + p) + T.1 19 (a * 6 + p) else T.1 19 (h * 6 + p)) else T.1 19 (h * 6 + p) := by
  induction n with
  | zero =>
    rw [cs_lv_0]
    exact ⟨h1, h2, fun h p _ _ => by rw [if_neg (Nat.not_lt_zero p)]⟩
  | succ n ih =>
    obtain ⟨i1, i2, i3⟩ := ih (by omega)
    have r : (cs_lv a T (n + 1)).1 19 = upd (upd ((cs_lv a T n).1 19) (0 * 6 + n) ((cs_lv a T n).1 19 (0 * 6 + n) + (if n = 0 then nI 0 else (cs_lv a T n).1 19 (a * 6 + n)))) (a * 6 + n) (nI 0) := by rw [cs_lv_s, lvs_19 ha0]
    generalize hR : (cs_lv a T n).1 19 = R at i1 i2 i3 r
    have hv := hs_T_le (f := R) (show a * 6 + n < 36 by omega)
    obtain ⟨w1, w2⟩ := nn_of (i1 (a * 6 + n) (by omega))
    obtain ⟨y, y1, y2⟩ : ∃ y, (if n = 0 then nI 0 else R (a * 6 + n)) = nI y ∧ y ≤ vN (R (a * 6 + n)) := by
      by_cases e : n = 0
      · rw [if_pos e]; exact ⟨0, rfl, Nat.zero_le _⟩
      · rw [if_neg e]; exact ⟨_, w1, Nat.le_refl _⟩
    rw [y1] at r
    obtain ⟨n1, n2, n3⟩ := nn_add (y := y) (B := B) i1 (show 0 * 6 + n < 36 by omega) i2 (by omega)
    have u := hs_T_up (f := upd R (0 * 6 + n) (R (0 * 6 + n) + nI y)) (x := nI 0) (show a * 6 + n < 36 by omega)
    rw [pk_un (show a * 6 + n ≠ 0 * 6 + n by omega), vN_nI (by omega), n3] at u
    refine ⟨by rw [r]; exact hs_nn_up n2 (nI_pos (by omega)), by rw [r]; omega, fun h p hh hp => ?_⟩
    rw [r]
    by_cases e : h * 6 + p = a * 6 + n
    · have e1 : h = a := by omega
      have e2 : p = n := by omega
      rw [if_pos (by omega), if_pos e1]
      exact if_pos e
    · rw [pk_un e]
      by_cases e2 : h * 6 + p = 0 * 6 + n
      · have e3 : h = 0 := by omega
        have e4 : p = n := by omega
        rw [if_pos (by omega), if_neg (by omega), e2, show upd R (0 * 6 + n) (R (0 * 6 + n) + nI y) (0 * 6 + n) = R (0 * 6 + n) + nI y from if_pos rfl, ← y1]
        have j1 := i3 0 n (by omega) (by omega)
        have j2 := i3 a n ha (by omega)
        rw [if_neg (Nat.lt_irrefl n)] at j1 j2
        rw [j1, j2]
        by_cases e5 : n = 0
        · rw [if_pos e5, if_neg (fun z => z.2 (by omega))]
          exact Int32.add_zero _
        · rw [if_neg e5, if_pos ⟨e3, by omega⟩, e4]
      · rw [pk_un e2, i3 h p hh hp]
        by_cases w : p < n
        · rw [if_pos w, if_pos (show p < n + 1 by omega)]
        · rw [if_neg w]
          by_cases w2 : p < n + 1
          · have e4 : p = n := by omega
            rw [if_pos w2, if_neg (fun z => e (by omega)), if_neg (fun z => e2 (by omega))]
          · rw [if_neg w2]
theorem lv_st (ha0 : a ≠ 0) (ha : a < 6) (hz : ∀ p, c ≤ p → p < 6 → T.1 19 (a * 6 + p) = nI 0) (hc : 1 ≤ c) (k : Nat) (hk : c + k ≤ 6) : (cs_lv a T (c + k)).1 19 = (cs_lv a T c).1 19 := by
  induction k with
  | zero => rfl
  | succ k ih =>
    have e : ∀ n, n ≤ c + k → (cs_lv a T n).1 19 (a * 6 + (c + k)) = nI 0 := by
      intro n
      induction n with
      | zero => intro _; rw [cs_lv_0]; exact hz (c + k) (by omega) (by omega)
      | succ n i2 =>
        intro hn
        rw [cs_lv_s, lvs_19 ha0, pk_un (by omega), pk_un (by omega)]
        exact i2 (by omega)
    have e1 := e (c + k) (Nat.le_refl _)
    rw [← Nat.add_assoc, cs_lv_s, lvs_19 ha0, if_neg (by omega), e1]
    rw [up_id (f := (cs_lv a T (c + k)).1 19) (k := 0 * 6 + (c + k)) (show _ = (cs_lv a T (c + k)).1 19 (0 * 6 + (c + k)) + nI 0 from (Int32.add_zero _).symm), up_id e1]
    exact ih (by omega)
-- the bank's ore
theorem mv_12 (ha0 : a ≠ 0) (m : Nat) (hm : m < 2) : (cs_mv T a 0 m).1 12 = upd (upd (T.1 12) (0 * 2 + m) (T.1 12 (0 * 2 + m) + T.1 12 (a * 2 + m))) (a * 2 + m) (nI 0) := by
  show upd (upd (T.1 12) (a * 2 + m) (T.1 12 (a * 2 + m) + -(T.1 12 (a * 2 + m)))) (0 * 2 + m) (upd (T.1 12) (a * 2 + m) (T.1 12 (a * 2 + m) + -(T.1 12 (a * 2 + m))) (0 * 2 + m) + T.1 12 (a * 2 + m)) = _
  rw [pk_un (show 0 * 2 + m ≠ a * 2 + m by omega), Int32.add_right_neg]
  funext j
  by_cases e : j = a * 2 + m
  · subst e
    rw [pk_un (by omega)]
    exact (if_pos rfl).trans (if_pos rfl).symm
  · rw [pk_un e]
    by_cases w : j = 0 * 2 + m
    · subst w
      exact (if_pos rfl).trans (if_pos rfl).symm
    · rw [pk_un w, pk_un w, pk_un e]
theorem cs_f4_0 : cs_f4 S q nc 0 = cs_f3 S q nc := rfl
theorem cs_f4_s (n : Nat) : cs_f4 S q nc (n + 1) = cs_mv (cs_f4 S q nc n) q 0 n := by
  unfold cs_f4
  exact cx_it1 _ _ _
theorem f4_l5 (hq0 : q ≠ 0) (h : (cs_f3 S q nc).1 12 = T.1 12) (n : Nat) (hn : n ≤ 2) : (cs_f4 S q nc n).1 12 = (hs_l5 q T n).1 12 := by
  induction n with
  | zero => rw [cs_f4_0, hs_l5_0, h]
  | succ n ih =>
    rw [cs_f4_s, hs_l5_s, mv_12 hq0 n (by omega), ih (by omega)]
    show _ = upd (upd ((hs_l5 q T n).1 12) _ _) _ _
    rfl
theorem f4_ne {r : Nat} (h : r ≠ 12) (n : Nat) : (cs_f4 S q nc n).1 r = (cs_f3 S q nc).1 r := by
  induction n with
  | zero => rw [cs_f4_0]
  | succ n ih =>
    rw [cs_f4_s, ← ih]
    exact (hs_su_ne _ _ _ h).trans (hs_su_ne _ _ _ h)
theorem f4_2 (n : Nat) : (cs_f4 S q nc n).2 = (cs_f3 S q nc).2 := by
  induction n with
  | zero => rw [cs_f4_0]
  | succ n ih => rw [cs_f4_s]; exact ih
theorem lv_ne {r : Nat} (h : r ≠ 19) (n : Nat) : (cs_lv a T n).1 r = T.1 r := by
  induction n with
  | zero => rw [cs_lv_0]
  | succ n ih =>
    rw [cs_lv_s, ← ih]
    unfold cs_lvs
    rw [hs_su_ne _ _ _ h]
    split
    · rfl
    · exact cadd_ne h
theorem lv_2 (n : Nat) : (cs_lv a T n).2 = T.2 := by
  induction n with
  | zero => rw [cs_lv_0]
  | succ n ih =>
    rw [cs_lv_s, ← ih]
    unfold cs_lvs
    split <;> rfl
theorem l5_J (ha0 : a ≠ 0) (ha : a < 6) (h : hs_nn (T.1 12) 12) (hb : ∀ m, m < 2 → hs_oT T m ≤ B) (hB : B < 2 ^ 30) (n : Nat) (hn : n ≤ 2) : hs_nn ((hs_l5 a T n).1 12) 12 ∧ ∀ m, m < 2 → hs_oT (hs_l5 a T n) m = hs_oT T m := by
  induction n with
  | zero => rw [hs_l5_0]; exact ⟨h, fun _ _ => rfl⟩
  | succ n ih =>
    obtain ⟨i1, i2⟩ := ih (by omega)
    generalize hR : hs_l5 a T n = R at i1 i2
    have hs : hs_l5 a T (n + 1) = hs_su (hs_su R 12 (0 * 2 + n) (R.1 12 (0 * 2 + n) + R.1 12 (a * 2 + n))) 12 (a * 2 + n) (nI 0) := by rw [← hR]; exact hs_l5_s a T n
    obtain ⟨w1, w2⟩ := nn_of (i1 (a * 2 + n) (by omega))
    generalize hy : vN (R.1 12 (a * 2 + n)) = y at w1 w2
    rw [w1] at hs
    have l0 := oT_le (S := R) (a := 0) (m := n) (by omega)
    have la := oT_le (S := R) (a := a) (m := n) ha
    have lb := hb n (by omega)
    have le := i2 n (by omega)
    obtain ⟨n1, n2, n3⟩ := nn_add1 (y := y) (B := B) i1 (show 0 * 2 + n < 12 by omega) (by omega) (by omega)
    have r1 : (hs_su R 12 (0 * 2 + n) (R.1 12 (0 * 2 + n) + nI y)).1 12 = upd (R.1 12) (0 * 2 + n) (R.1 12 (0 * 2 + n) + nI y) := rfl
    generalize hR1 : hs_su R 12 (0 * 2 + n) (R.1 12 (0 * 2 + n) + nI y) = R1 at hs r1
    have r2 : (hs_su R1 12 (a * 2 + n) (nI 0)).1 12 = upd (R1.1 12) (a * 2 + n) (nI 0) := rfl
    rw [hs]
    refine ⟨by rw [r2]; exact hs_nn_up (by rw [r1]; exact n2) (nI_pos (by omega)), fun m hm => ?_⟩
    by_cases e : m = n
    · subst e
      have u1 := oT_up (S := R) r1 (show 0 < 6 by omega)
      have u2 := oT_up (S := R1) r2 ha
      have e3 : R1.1 12 (a * 2 + m) = R.1 12 (a * 2 + m) := by rw [r1, pk_un (by omega)]
      rw [e3, hy, vN_nI (by omega)] at u2
      rw [n3] at u1
      omega
    · rw [oT_ot (S := R1) r2 (by omega) hm e, oT_ot (S := R) r1 (by omega) hm e, i2 m hm]
end SG

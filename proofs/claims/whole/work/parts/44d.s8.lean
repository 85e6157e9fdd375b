section SF
variable {S S' T U V : hs_S} {c nc nb i B q : Nat}
theorem heavy_none {a : Nat} : ∀ {n : Nat}, cs_heavy S a n = none → ∀ j, j < n → ¬ S.1 15 j = nI a := by
  intro n
  induction n with
  | zero => intro _ j hj; exact absurd hj (Nat.not_lt_zero j)
  | succ n ih =>
    intro h j hj
    rw [cs_heavy_s] at h
    cases e : cs_heavy S a n with
    | none =>
      rw [e, cs_hvs_n] at h
      by_cases q : S.1 15 n = nI a
      · rw [if_pos q] at h; cases h
      · by_cases w : j = n
        · rw [w]; exact q
        · exact ih e j (by omega)
    | some b =>
      rw [e, cs_hvs_s] at h
      split at h
      · split at h <;> cases h
      · cases h
theorem cs_gc_0 (S : hs_S) (a : Nat) : cs_gc S a 0 = (none, nI 0) := rfl
theorem gc_cg {a : Nat} (h : S'.1 19 = S.1 19) : ∀ n, cs_gc S' a n = cs_gc S a n := by
  intro n
  induction n with
  | zero => rw [cs_gc_0, cs_gc_0]
  | succ n ih =>
    rw [cs_gc_s, cs_gc_s, ih]
    unfold cs_gcs
    rw [h]
theorem cs_pc_0 (n : Nat) : cs_pc q n T 0 = T := rfl
theorem pcs_n1 {n : Nat} (h : cs_heavy T q n = none) : cs_pcs q n T = T := by
  unfold cs_pcs
  simp only [h]
theorem pcs_n2 {n j : Nat} (h : cs_heavy T q n = some j) (g : (cs_gc T q 6).1 = none) : cs_pcs q n T = T := by
  unfold cs_pcs
  simp only [h, g]
theorem pcs_s {n j t : Nat} (h : cs_heavy T q n = some j) (g : (cs_gc T q 6).1 = some t) : cs_pcs q n T = cs_cadd (cs_give T j (nI t)) t q (-(cs_min (T.1 19 (t * 6 + q)) (T.1 9 (vN (T.1 13 j))))) := by
  unfold cs_pcs
  simp only [h, g]
theorem gc_c {a : Nat} (hz : ∀ h, c ≤ h → h < 6 → S.1 19 (h * 6 + a) = nI 0) : ∀ k, c + k ≤ 6 → cs_gc S a (c + k) = cs_gc S a c
  | 0, _ => rfl
  | k + 1, h => by
    rw [← Nat.add_assoc, cs_gc_s, gc_c hz k (by omega)]
    refine cs_gcs_st ?_
    rw [hz (c + k) (by omega) (by omega)]
    obtain ⟨g1, g2⟩ := cs_gc_inv (S := S) (a := a) c
    cases e : (cs_gc S a c).1 with
    | none => rw [g1 e]; exact Int32.le_refl _
    | some b => exact Int32.le_of_lt (g2 b e).2
theorem mx_min {d f : Nat} (hd : d < 2 ^ 30) (hf : f < 2 ^ 30) : nI d + -nI (min d f) = hs_mx (nI d - nI f) := by
  unfold hs_mx
  rw [← Int32.sub_eq_add_neg, pk_sub (Nat.min_le_left d f)]
  by_cases h : f < d
  · rw [pk_sub (by omega), if_pos (nI_lt (by omega) (by omega))]
    congr 1
    omega
  · rw [if_neg]
    · congr 1
      omega
    · rw [Int32.lt_iff_toInt_lt, pk_sub_toInt (by omega) (by omega), nI_toInt (by decide)]
      omega
-- what is kept while a bank's coins are parted
def fP (S : hs_S) (c nc B q : Nat) (T : hs_S) : Prop := jB T c nc ∧ (hs_nn (T.1 19) 36 ∧ hs_T (T.1 19) 36 ≤ B) ∧ (∀ h p, h < 6 → p < 6 → p ≠ q → T.1 19 (h * 6 + p) = S.1 19 (h * 6 + p)) ∧ (T.1 19 (q * 6 + q) = nI 0 ∧ ∀ h, c ≤ h → h < 6 → T.1 19 (h * 6 + q) = nI 0) ∧ (∀ r, (r ≠ 15 ∧ r ≠ 16 ∧ r ≠ 17 ∧ r ≠ 18 ∧ r ≠ 19) → T.1 r = S.1 r) ∧ T.2 = S.2
theorem pcs_prs (hM : jM S) (hP : fP S c nc B q T) (hc : c ≤ 6) (hq : q < 6) (hB : B < 2 ^ 30) {j t : Nat} (hh : cs_heavy T q nc = some j) (hg : (cs_gc T q c).1 = some t) : cs_pcs q nc T = hs_prs T q c j ∧ fP S c nc B q (hs_prs T q c j) := by
  obtain ⟨p1, ⟨p2, p3⟩, p4, ⟨p5, p6⟩, p7, p8⟩ := hP
  obtain ⟨h1, h2⟩ := cs_heavy_lt hh
  have ht := cs_gc_lt hg
  have htq := hs_gc_ne p5 hg
  obtain ⟨m, x, m1, m2, m3, -⟩ := p1.2.2.1 j h1
  obtain ⟨f, f1, f2⟩ := (hM m m1).1
  have e9 : T.1 9 (vN (T.1 13 j)) = nI f := by rw [m3, vN_nI (by omega), p7 9 (by decide), f2]
  obtain ⟨d1, d2⟩ := nn_of (p2 (t * 6 + q) (by omega))
  have hd := hs_T_le (f := T.1 19) (show t * 6 + q < 36 by omega)
  generalize hdd : vN (T.1 19 (t * 6 + q)) = d at d1 d2 hd
  have hmin : cs_min (T.1 19 (t * 6 + q)) (T.1 9 (vN (T.1 13 j))) = nI (min d f) := by rw [e9, d1, cs_min_nI (by omega) (by omega)]
  have e1 : cs_pcs q nc T = cs_cadd (cs_give T j (nI t)) t q (-nI (min d f)) := by
    have hg6 : (cs_gc T q 6).1 = some t := by
      have := gc_c p6 (6 - c) (by omega)
      rw [show c + (6 - c) = 6 by omega] at this
      rw [this]; exact hg
    rw [pcs_s hh hg6, hmin]
  have e2 : hs_prs T q c j = cs_cadd (cs_give T j (nI t)) t q (-nI (min d f)) := by
    rw [hs_prs_t hg]
    show hs_su (cs_give T j (nI t)) 19 (t * 6 + q) (hs_mx (T.1 19 (t * 6 + q) - T.1 9 (vN (T.1 13 j)))) = hs_su (cs_give T j (nI t)) 19 (t * 6 + q) (T.1 19 (t * 6 + q) + -nI (min d f))
    rw [e9, d1, mx_min (by omega) (by omega)]
  refine ⟨e1.trans e2.symm, ?_⟩
  rw [e2]
  have r19 : (cs_cadd (cs_give T j (nI t)) t q (-nI (min d f))).1 19 = upd (T.1 19) (t * 6 + q) (T.1 19 (t * 6 + q) + -nI (min d f)) := rfl
  obtain ⟨n1, n2, n3⟩ := nn_sub (y := min d f) p2 (show t * 6 + q < 36 by omega) (by rw [hdd]; omega)
  refine ⟨jB_of (jB_give p1 h1 ht (fun e => by rw [h2] at e; exact cx_ne1 (by omega) e)) (fun r hr => cadd_ne (by omega)), ⟨by rw [r19]; exact n2, by rw [r19]; omega⟩, fun h p hh hp hne => ?_, ⟨?_, fun h h1 h2 => ?_⟩, fun r hr => ?_, p8⟩
  · rw [r19, pk_un (by omega)]; exact p4 h p hh hp hne
  · rw [r19, pk_un (by omega)]; exact p5
  · rw [r19, pk_un (by omega)]; exact p6 h h1 h2
  · exact (cadd_ne hr.2.2.2.2).trans ((cs_give_ne _ _ _ hr.1 hr.2.1 hr.2.2.1 hr.2.2.2.1).trans (p7 r hr))
-- all coins of a house to the crown
def fG (q n : Nat) (U V : hs_S) : Prop := (∀ r, (r ≠ 15 ∧ r ≠ 16 ∧ r ≠ 17 ∧ r ≠ 18) → V.1 r = U.1 r) ∧ V.2 = U.2 ∧ ∀ j, ((j < n ∧ U.1 15 j = nI q) → V.1 15 j = nI 0 ∧ V.1 16 j = U.1 16 j + nI 1 ∧ V.1 17 j = nI 0 ∧ V.1 18 j = nI 0) ∧ (¬ (j < n ∧ U.1 15 j = nI q) → V.1 15 j = U.1 15 j ∧ V.1 16 j = U.1 16 j ∧ V.1 17 j = U.1 17 j ∧ V.1 18 j = U.1 18 j)
theorem cs_ga_0 : cs_ga q 0 U 0 = U := rfl
theorem fG_ga (n : Nat) : fG q n U (cs_ga q 0 U n) := by
  induction n with
  | zero => rw [cs_ga_0]; exact ⟨fun _ _ => rfl, rfl, fun j => ⟨fun h => absurd h.1 (Nat.not_lt_zero j), fun _ => ⟨rfl, rfl, rfl, rfl⟩⟩⟩
  | succ n ih =>
    obtain ⟨g1, g2, g3⟩ := ih
    have g4 := (g3 n).2 (fun h => absurd h.1 (Nat.lt_irrefl n))
    rw [cs_ga_s, g4.1]
    split
    · rename_i ho
      have r15 : (cs_give (cs_ga q 0 U n) n (nI 0)).1 15 = upd ((cs_ga q 0 U n).1 15) n (nI 0) := rfl
      have r16 : (cs_give (cs_ga q 0 U n) n (nI 0)).1 16 = upd ((cs_ga q 0 U n).1 16) n ((cs_ga q 0 U n).1 16 n + nI 1) := rfl
      have r17 : (cs_give (cs_ga q 0 U n) n (nI 0)).1 17 = upd ((cs_ga q 0 U n).1 17) n (nI 0) := rfl
      have r18 : (cs_give (cs_ga q 0 U n) n (nI 0)).1 18 = upd ((cs_ga q 0 U n).1 18) n (nI 0) := rfl
      refine ⟨fun r hr => (cs_give_ne _ _ _ hr.1 hr.2.1 hr.2.2.1 hr.2.2.2).trans (g1 r hr), g2, fun j => ⟨fun h => ?_, fun h => ?_⟩⟩
      · rw [r15, r16, r17, r18]
        by_cases e : j = n
        · subst e
          refine ⟨if_pos rfl, ?_, if_pos rfl, if_pos rfl⟩
          rw [g4.2.1]
          exact if_pos rfl
        · rw [pk_un e, pk_un e, pk_un e, pk_un e]
          exact (g3 j).1 ⟨by omega, h.2⟩
      · have e : j ≠ n := fun e => h ⟨by omega, by rw [e]; exact ho⟩
        rw [r15, r16, r17, r18, pk_un e, pk_un e, pk_un e, pk_un e]
        exact (g3 j).2 (fun z => h ⟨by omega, z.2⟩)
    · rename_i ho
      refine ⟨g1, g2, fun j => ⟨fun h => ?_, fun h => ?_⟩⟩
      · have e : j ≠ n := fun e => ho (by rw [← e]; exact h.2)
        exact (g3 j).1 ⟨by omega, h.2⟩
      · by_cases e : j = n
        · rw [e]; exact g4
        · exact (g3 j).2 (fun z => h ⟨by omega, z.2⟩)
theorem fG_rf {n : Nat} (h : ∀ j, j < n → ¬ U.1 15 j = nI q) : fG q n U U := ⟨fun _ _ => rfl, rfl, fun j => ⟨fun z => absurd z.2 (h j z.1), fun _ => ⟨rfl, rfl, rfl, rfl⟩⟩⟩
theorem fG_pa (hq0 : q ≠ 0) (hq : q < 6) : ∀ (f : Nat) (T : hs_S), (cs_gc T q c).1 = none → al_cnt (hs_own T q) nc ≤ f → fG q nc T (hs_pa q c nc f T) := by
  intro f
  induction f with
  | zero =>
    intro T hg hf
    refine fG_rf (fun j hj e => ?_)
    have := al_cnt_pos (p := hs_own T q) hj (decide_eq_true e)
    omega
  | succ f ih =>
    intro T hg hf
    cases hh : cs_heavy T q nc with
    | none =>
      rw [hs_pa_none hh]
      exact fG_rf (heavy_none hh)
    | some j =>
      obtain ⟨h1, h2⟩ := cs_heavy_lt hh
      have hto : hs_to T q c = 0 := by unfold hs_to; rw [hg]
      have hcnt := al_cnt_rem (hs_prs_own (S := T) (a := q) (c := c) (j := j) hq (by rw [hto]; exact ⟨fun e => hq0 e.symm, by omega⟩) h2) (decide_eq_true h2) nc
      rw [if_pos h1] at hcnt
      rw [hs_pa_some hh]
      have ep := hs_prs_n (S := T) (j := j) hg
      rw [ep] at hcnt ⊢
      have hg2 : (cs_gc (cs_give T j (nI 0)) q c).1 = none := by rw [gc_cg (S := T) (S' := cs_give T j (nI 0)) rfl c]; exact hg
      obtain ⟨g1, g2, g3⟩ := ih (cs_give T j (nI 0)) hg2 (by omega)
      have r15 : (cs_give T j (nI 0)).1 15 = upd (T.1 15) j (nI 0) := rfl
      have r16 : (cs_give T j (nI 0)).1 16 = upd (T.1 16) j (T.1 16 j + nI 1) := rfl
      have r17 : (cs_give T j (nI 0)).1 17 = upd (T.1 17) j (nI 0) := rfl
      have r18 : (cs_give T j (nI 0)).1 18 = upd (T.1 18) j (nI 0) := rfl
      refine ⟨fun r hr => (g1 r hr).trans (cs_give_ne _ _ _ hr.1 hr.2.1 hr.2.2.1 hr.2.2.2), g2, fun k => ⟨fun h => ?_, fun h => ?_⟩⟩
      · by_cases e : k = j
        · subst e
          have hn : ¬ (k < nc ∧ (cs_give T k (nI 0)).1 15 k = nI q) := fun z => by
            have z2 := z.2
            rw [r15, show upd (T.1 15) k (nI 0) k = nI 0 from if_pos rfl] at z2
            exact hq0 ((nI_eq (by omega) (by omega)).mp z2).symm
          obtain ⟨k1, k2, k3, k4⟩ := (g3 k).2 hn
          exact ⟨k1.trans (if_pos rfl), k2.trans (if_pos rfl), k3.trans (if_pos rfl), k4.trans (if_pos rfl)⟩
        · have := (g3 k).1 ⟨h.1, by rw [r15, pk_un e]; exact h.2⟩
          rw [r16, pk_un e] at this
          exact this
      · have e : k ≠ j := fun e => h ⟨by omega, by rw [e]; exact h2⟩
        have := (g3 k).2 (fun z => h ⟨z.1, by have z2 := z.2; rw [r15, pk_un e] at z2; exact z2⟩)
        rw [r15, r16, r17, r18, pk_un e, pk_un e, pk_un e, pk_un e] at this
        exact this
theorem pc_fr {n : Nat} (k : Nat) : cs_pc q n T (k + 1) = cs_pc q n (cs_pcs q n T) k := by
  induction k with
  | zero => rw [cs_pc_s, cs_pc_0, cs_pc_0]
  | succ k ih => rw [cs_pc_s q n T (k + 1), ih, cs_pc_s q n (cs_pcs q n T) k]
theorem pc_st {n : Nat} (h : cs_pcs q n T = T) (k : Nat) : cs_pc q n T k = T := by
  induction k with
  | zero => rw [cs_pc_0]
  | succ k ih => rw [cs_pc_s, ih, h]
theorem pa_pc (hM : jM S) (hc : c ≤ 6) (hc1 : 1 ≤ c) (hq0 : q ≠ 0) (hq : q < 6) (hB : B < 2 ^ 30) : ∀ (f : Nat) (T : hs_S), fP S c nc B q T → al_cnt (hs_own T q) nc ≤ f → fP S c nc B q (cs_pc q nc T f) ∧ fG q nc (cs_pc q nc T f) (hs_pa q c nc f T) := by
  intro f
  induction f with
  | zero =>
    intro T hP hf
    refine ⟨hP, fG_rf (fun j hj e => ?_)⟩
    have := al_cnt_pos (p := hs_own T q) hj (decide_eq_true e)
    omega
  | succ f ih =>
    intro T hP hf
    cases hh : cs_heavy T q nc with
    | none =>
      rw [pc_st (pcs_n1 hh), hs_pa_none hh]
      exact ⟨hP, fG_rf (heavy_none hh)⟩
    | some j =>
      cases hg : (cs_gc T q c).1 with
      | none =>
        have hg6 : (cs_gc T q 6).1 = none := by
          have := gc_c hP.2.2.2.1.2 (6 - c) (by omega)
          rw [show c + (6 - c) = 6 by omega] at this
          rw [this]; exact hg
        rw [pc_st (pcs_n2 hh hg6)]
        exact ⟨hP, fG_pa hq0 hq (f + 1) T hg hf⟩
      | some t =>
        obtain ⟨e1, e2⟩ := pcs_prs hM hP hc hq hB hh hg
        obtain ⟨h1, h2⟩ := cs_heavy_lt hh
        have hcnt := al_cnt_rem (hs_prs_own (S := T) (a := q) (c := c) (j := j) hq (by obtain ⟨w1, w2⟩ := hs_to_ne (c := c) hP.2.2.2.1.1 hq0 hc1; exact ⟨w1, by omega⟩) h2) (decide_eq_true h2) nc
        rw [if_pos h1] at hcnt
        rw [pc_fr, e1, hs_pa_some hh]
        exact ih _ e2 (by omega)
end SF

-- claims
def jCb (S : hs_S) (B : Nat) : Prop := hs_nn (S.1 19) 36 ∧ hs_T (S.1 19) 36 ≤ B ∧ (∀ a, a < 6 → S.1 19 (a * 6 + a) = nI 0) ∧ (∀ a q, a < 6 → q < 6 → S.1 8 a = nI 0 ∨ S.1 8 q = nI 0 → S.1 19 (a * 6 + q) = nI 0)
section ST3
variable {S S' : hs_S} {c nc nb i B : Nat}
theorem jCb_of (h : jCb S B) {k : Nat} (hk : B ≤ k) (e : ∀ i, i = 8 ∨ i = 19 → S'.1 i = S.1 i) : jCb S' k := by
  unfold jCb at h ⊢
  rw [e 8 (by decide), e 19 (by decide)]
  exact ⟨h.1, by have := h.2.1; omega, h.2.2⟩
theorem cd_K_0 {a q : Nat} (ha : a < 6) (hq : q < 6) (z : cd_K S a q = 0) : a ≠ q ∧ S.1 7 q = nI 98 ∧ ¬ S.1 8 a = nI 0 ∧ ¬ S.1 8 q = nI 0 := by
  obtain ⟨z1, z⟩ := cs_sq_z.mp z
  obtain ⟨z2, z⟩ := cs_sq_z.mp z
  obtain ⟨z3, z4⟩ := cs_sq_z.mp z
  refine ⟨fun e => ?_, ?_, cd_O_o z3, cd_O_o z4⟩
  · rw [cd_D_eq e] at z1; cases z1
  · unfold cd_B at z2
    split at z2
    · assumption
    · cases z2
theorem jCb_add {a q y : Nat} (h : jCb S B) (ha : a < 6) (hq : q < 6) (hne : a ≠ q) (o1 : ¬ S.1 8 a = nI 0) (o2 : ¬ S.1 8 q = nI 0) (hy : y + B < 2 ^ 31) : jCb (cs_cadd S a q (nI y)) (B + y) := by
  obtain ⟨h1, h2, h3, h4⟩ := h
  have r : (cs_cadd S a q (nI y)).1 19 = upd (S.1 19) (a * 6 + q) (S.1 19 (a * 6 + q) + nI y) := rfl
  have r8 : (cs_cadd S a q (nI y)).1 8 = S.1 8 := rfl
  obtain ⟨n1, n2, n3⟩ := nn_add (y := y) h1 (show a * 6 + q < 36 by omega) h2 hy
  refine ⟨by rw [r]; exact n2, by rw [r, n3]; omega, fun b hb => ?_, fun b p hb hp hz => ?_⟩
  · rw [r, pk_un (by omega)]; exact h3 b hb
  · rw [r8] at hz
    have : b * 6 + p ≠ a * 6 + q := fun e => by
      have e1 : b = a := by omega
      have e2 : p = q := by omega
      subst e1; subst e2
      exact hz.elim o1 o2
    rw [r, pk_un this]
    exact h4 b p hb hp hz
theorem jCb_sub {a q y : Nat} (h : jCb S B) (ha : a < 6) (hq : q < 6) (hy : y ≤ vN (S.1 19 (a * 6 + q))) : jCb (cs_cadd S a q (-nI y)) B := by
  obtain ⟨h1, h2, h3, h4⟩ := h
  have r : (cs_cadd S a q (-nI y)).1 19 = upd (S.1 19) (a * 6 + q) (S.1 19 (a * 6 + q) + -nI y) := rfl
  have r8 : (cs_cadd S a q (-nI y)).1 8 = S.1 8 := rfl
  obtain ⟨n1, n2, n3⟩ := nn_sub (y := y) h1 (show a * 6 + q < 36 by omega) hy
  have hz0 : S.1 19 (a * 6 + q) = nI 0 → S.1 19 (a * 6 + q) + -nI y = nI 0 := fun e => by
    rw [n1, e, vN_nI (by omega), Nat.zero_sub]
  refine ⟨by rw [r]; exact n2, by rw [r]; omega, fun b hb => ?_, fun b p hb hp hz => ?_⟩
  · rw [r]
    by_cases e : b * 6 + b = a * 6 + q
    · rw [e, show upd (S.1 19) (a * 6 + q) _ (a * 6 + q) = _ from if_pos rfl]
      exact hz0 (by rw [← e]; exact h3 b hb)
    · rw [pk_un e]; exact h3 b hb
  · rw [r8] at hz
    rw [r]
    by_cases e : b * 6 + p = a * 6 + q
    · rw [e, show upd (S.1 19) (a * 6 + q) _ (a * 6 + q) = _ from if_pos rfl]
      exact hz0 (by rw [← e]; exact h4 b p hb hp hz)
    · rw [pk_un e]; exact h4 b p hb hp hz
theorem cd_C_0 {a q y : Nat} (h : jCb S B) (ha : a < 6) (hq : q < 6) (hy : y < 2 ^ 31) (z : cd_C S a q (nI y) = 0) : y ≤ vN (S.1 19 (a * 6 + q)) := by
  refine nn_le h.1 (show a * 6 + q < 36 by omega) hy ?_
  unfold cd_C at z
  split at z
  · assumption
  · cases z
theorem hJ_C {S' : hs_S} (hj : hJ S c nc nb i) (hC : jC S' (i + 1)) (e : ∀ i, i ≠ 19 → S'.1 i = S.1 i) : hJ S' c nc nb (i + 1) := by
  obtain ⟨j1, j2, j3, j4, j5, j6, j7⟩ := hj
  exact ⟨jA_of j1 (fun i h => e i (by omega)), jB_of j2 (fun i h => e i (by omega)), jM_of j3 (fun i h => e i (by omega)), jO_of j4 (Nat.le_succ i) (fun i h => e i (by omega)), hC, jD_of j6 (Nat.le_succ i) (fun i h => e i (by omega)), jV_of j7 (Nat.le_succ i) (e 27 (by decide))⟩
theorem cadd_ne {a q : Nat} {v : Int32} {r : Nat} (h : r ≠ 19) : (cs_cadd S a q v).1 r = S.1 r := hs_su_ne _ _ _ h
theorem st_lend {v0 v1 v2 : Int32} (hj : hJ S c nc nb i) (hi : i < 512) (z : cd_lend S c v0 v1 v2 = 0) : hm_q (cs_lend S v0 v1 v2) (cs_lend S v0 v1 v2) ∧ hJ (cs_lend S v0 v1 v2) (c) (nc) (nb) (i + 1) ∧ (cs_lend S v0 v1 v2).1 19 (vN v1 * 6 + vN v0) = (cs_lend S v0 v1 v2).1 19 (vN v1 * 6 + vN v0) := by
  obtain ⟨z1, z⟩ := cs_sq_z.mp z
  obtain ⟨z2, z⟩ := cs_sq_z.mp z
  obtain ⟨z3, z4⟩ := cs_sq_z.mp z
  have hc := hj.c6.2
  obtain ⟨q, hq, rfl⟩ := cd_H_of (by omega) z1
  obtain ⟨a, ha, rfl⟩ := cd_H_of (by omega) z2
  obtain ⟨y, y1, y2, rfl⟩ := cd_R_of (by omega) z3
  have vq : vN (nI q) = q := vN_nI (by omega)
  have va : vN (nI a) = a := vN_nI (by omega)
  rw [vq, va] at z4
  obtain ⟨k1, k2, k3, k4⟩ := cd_K_0 (by omega) (by omega) z4
  refine ⟨hm_q.rf, ?_, rfl⟩
  unfold cs_lend
  rw [vq, va]
  have h1 := jCb_add (y := y) (a := a) (q := q) (B := 120000 * i) hj.2.2.2.2.1 (by omega) (by omega) k1 k3 k4 (by omega)
  have h2 := jCb_add (y := y) (a := q) (q := a) h1 (by omega) (by omega) (fun e => k1 e.symm) k4 k3 (by omega)
  exact hJ_C hj (jCb_of h2 (by omega) (fun _ _ => rfl)) (fun r hr => (cadd_ne hr).trans (cadd_ne hr))
theorem st_hand {v0 v1 v2 v3 : Int32} (hj : hJ S c nc nb i) (hi : i < 512) (z : cd_hand S c v0 v1 v2 v3 = 0) : hm_q (cs_hand S v0 v1 v2 v3) (cs_hand S v0 v1 v2 v3) ∧ hJ (cs_hand S v0 v1 v2 v3) (c) (nc) (nb) (i + 1) ∧ (cs_hand S v0 v1 v2 v3).1 19 (vN v0 * 6 + vN v2) = (cs_hand S v0 v1 v2 v3).1 19 (vN v0 * 6 + vN v2) := by
  obtain ⟨z1, z⟩ := cs_sq_z.mp z
  obtain ⟨z2, z⟩ := cs_sq_z.mp z
  obtain ⟨z3, z⟩ := cs_sq_z.mp z
  obtain ⟨z4, z⟩ := cs_sq_z.mp z
  obtain ⟨z5, z⟩ := cs_sq_z.mp z
  obtain ⟨z6, z⟩ := cs_sq_z.mp z
  obtain ⟨z7, z⟩ := cs_sq_z.mp z
  obtain ⟨z8, z9⟩ := cs_sq_z.mp z
  have hc := hj.c6.2
  obtain ⟨a, ha, rfl⟩ := cd_H_of (by omega) z1
  obtain ⟨b, hb, rfl⟩ := cd_H_of (by omega) z2
  obtain ⟨q, hq, rfl⟩ := cd_H_of (by omega) z3
  obtain ⟨y, y1, y2, rfl⟩ := cd_R_of (by omega) z4
  have va : vN (nI a) = a := vN_nI (by omega)
  have vb : vN (nI b) = b := vN_nI (by omega)
  have vq : vN (nI q) = q := vN_nI (by omega)
  rw [va, vq] at z7 z9
  rw [vb] at z8
  obtain ⟨k1, k2, k3, k4⟩ := cd_K_0 (by omega) (by omega) z7
  have hbq : b ≠ q := fun e => by rw [cd_D_eq e] at z6; cases z6
  refine ⟨hm_q.rf, ?_, rfl⟩
  unfold cs_hand
  rw [va, vb, vq]
  have h0 : jCb S (120000 * i) := hj.2.2.2.2.1
  have h1 := jCb_sub (a := a) (q := q) h0 (by omega) (by omega) (cd_C_0 h0 (by omega) (by omega) (by omega) z9)
  have h2 := jCb_add (y := y) (a := b) (q := q) h1 (by omega) (by omega) hbq (cd_O_o z8) k4 (by omega)
  exact hJ_C hj (jCb_of h2 (by omega) (fun _ _ => rfl)) (fun r hr => (cadd_ne hr).trans (cadd_ne hr))
theorem st_forgive {v0 v1 v2 : Int32} (hj : hJ S c nc nb i) (hi : i < 512) (z : cd_forgive S c v0 v1 v2 = 0) : hm_q (cs_cadd S (vN v0) (vN v1) (-v2)) (cs_cadd S (vN v0) (vN v1) (-v2)) ∧ hJ (cs_cadd S (vN v0) (vN v1) (-v2)) (c) (nc) (nb) (i + 1) ∧ (cs_cadd S (vN v0) (vN v1) (-v2)).1 19 (vN v0 * 6 + vN v1) = (cs_cadd S (vN v0) (vN v1) (-v2)).1 19 (vN v0 * 6 + vN v1) := by
  obtain ⟨z1, z⟩ := cs_sq_z.mp z
  obtain ⟨z2, z⟩ := cs_sq_z.mp z
  obtain ⟨z3, z4⟩ := cs_sq_z.mp z
  have hc := hj.c6.2
  obtain ⟨a, ha, rfl⟩ := cd_H_of (by omega) z1
  obtain ⟨q, hq, rfl⟩ := cd_H_of (by omega) z2
  obtain ⟨y, y1, y2, rfl⟩ := cd_R_of (by omega) z3
  have va : vN (nI a) = a := vN_nI (by omega)
  have vq : vN (nI q) = q := vN_nI (by omega)
  rw [va, vq] at z4 ⊢
  refine ⟨hm_q.rf, ?_, rfl⟩
  have h0 : jCb S (120000 * i) := hj.2.2.2.2.1
  have h1 := jCb_sub (a := a) (q := q) h0 (by omega) (by omega) (cd_C_0 h0 (by omega) (by omega) (by omega) z4)
  exact hJ_C hj (jCb_of h1 (by omega) (fun _ _ => rfl)) (fun r hr => cadd_ne hr)
theorem st_addShare {v0 v1 v2 : Int32} (hj : hJ S c nc nb i) (hi : i < 512) (z : cd_addShare S c v0 v1 v2 = 0) : hm_q (cs_addShare S v0 v1 v2) (cs_addShare S v0 v1 v2) ∧ hJ (cs_addShare S v0 v1 v2) (c) (nc) (nb) (i + 1) ∧ (cs_addShare S v0 v1 v2).1 27 (vN v0 * 6 + vN v1) = (cs_addShare S v0 v1 v2).1 27 (vN v0 * 6 + vN v1) := by
  obtain ⟨z1, z⟩ := cs_sq_z.mp z
  obtain ⟨z2, z⟩ := cs_sq_z.mp z
  obtain ⟨z3, z4⟩ := cs_sq_z.mp z
  have hc := hj.c6.2
  obtain ⟨v, hv, rfl⟩ := cd_H_of (by omega) z1
  obtain ⟨a, ha, rfl⟩ := cd_H_of (by omega) z2
  obtain ⟨y, y1, y2, rfl⟩ := cd_R_of (by omega) z3
  have vv : vN (nI v) = v := vN_nI (by omega)
  have va : vN (nI a) = a := vN_nI (by omega)
  obtain ⟨j1, j2, j3, j4, j5, j6, j7⟩ := hj
  refine ⟨hm_q.rf, ⟨jA_of j1 (fun i h => by rcases h with rfl | rfl | rfl <;> rfl), jB_of j2 (fun i h => by rcases h with rfl | rfl | rfl | rfl | rfl | rfl | rfl <;> rfl), jM_of j3 (fun i h => by rcases h with rfl | rfl <;> rfl), jO_of j4 (Nat.le_succ i) (fun i h => by rcases h with rfl | rfl | rfl | rfl <;> rfl), jC_of j5 (Nat.le_succ i) (fun i h => by rcases h with rfl | rfl <;> rfl), jD_of j6 (Nat.le_succ i) (fun i h => by rcases h with rfl | rfl | rfl | rfl | rfl | rfl | rfl | rfl | rfl <;> rfl), fun w b hw hb => ?_⟩, rfl⟩
  unfold cs_addShare
  rw [vv, va, hs_su_eq]
  obtain ⟨x, x1, x2, x3⟩ := j7 w b hw hb
  by_cases e : w * 6 + b = v * 6 + a
  · have e1 : b = a := by omega
    rw [e, show upd (S.1 27) (v * 6 + a) _ (v * 6 + a) = _ from if_pos rfl, ← e, x2, nI_add]
    exact ⟨x + y, by omega, rfl, fun h => absurd h (by omega)⟩
  · rw [pk_un e]
    exact ⟨x, by omega, x2, x3⟩
end ST3

section ST4
variable {S S' : hs_S} {c nc nb i B : Nat}
theorem mi_C_up {c2 : Nat} (h : mi_C S c nc) (hc : c ≤ c2) : mi_C S c2 nc := fun j hj => by
  obtain ⟨m, w, h1, h2, h3, h4, h5⟩ := h j hj
  refine ⟨m, w, h1, h2, h3, h4, ?_⟩
  rcases h5 with h5 | ⟨h5, a, h6, h7⟩
  · exact Or.inl h5
  · exact Or.inr ⟨h5, a, by omega, h7⟩
theorem cd_n_0 {a k e : Nat} (he : e ≠ 0) (z : cd_n a k e = 0) : a < k := by
  unfold cd_n at z
  split at z
  · assumption
  · exact absurd z he
theorem st_addHouse {v0 : Int32} (hj : hJ S c nc nb i) (hi : i < 512) (z : cd_addHouse c v0 = 0) : hm_q (cs_open S c v0) (cs_open S c v0) ∧ hJ (cs_open S c v0) (c + 1) (nc) (nb) (i + 1) ∧ nI c = nI c := by
  obtain ⟨z1, z2⟩ := cs_sq_z.mp z
  have hc6 := cd_n_0 (by decide) z2
  obtain ⟨⟨a1, a2, a3, a4, a5, a6, a7, a8⟩, ⟨b1, b2, b3, b4, b5, b6⟩, j3, j4, ⟨c1, c2, c3, c4⟩, ⟨d1, d2, d3, d4, d5, d6, d7⟩, j7⟩ := hj
  have r7 : (cs_open S c v0).1 7 = upd (S.1 7) c v0 := rfl
  have r8 : (cs_open S c v0).1 8 = upd (S.1 8) c (nI 1) := rfl
  refine ⟨hm_q.rf, ⟨⟨rfl, by omega, by omega, ?_, ?_, fun a => ?_, fun a => ?_, fun a ha => ?_⟩, jB_of (S := S) ⟨b1, b2, mi_C_up b3 (Nat.le_succ c), b4, b5, b6⟩ (fun i h => by rcases h with rfl | rfl | rfl | rfl | rfl | rfl | rfl <;> rfl), jM_of j3 (fun i h => by rcases h with rfl | rfl <;> rfl), jO_of j4 (Nat.le_succ i) (fun i h => by rcases h with rfl | rfl | rfl | rfl <;> rfl), ⟨c1, Nat.le_trans c2 (by omega), c3, fun a q ha hq hz => ?_⟩, jD_of (S := S) (i := i) ⟨d1, d2, fun j hj => ?_, fun j hj => ?_, d5, d6, d7⟩ (Nat.le_succ i) (fun i h => by rcases h with rfl | rfl | rfl | rfl | rfl | rfl | rfl | rfl | rfl <;> rfl), fun v a hv ha => ?_⟩, rfl⟩
  · rw [r7, pk_un (by omega)]; exact a4
  · rw [r8, pk_un (by omega)]; exact a5
  · rw [r8]
    by_cases e : a = c
    · exact Or.inr (by rw [e]; exact if_pos rfl)
    · rw [pk_un e]; exact a6 a
  · rw [r7]
    by_cases e : a = c
    · rw [e, show upd (S.1 7) c v0 c = v0 from if_pos rfl]
      unfold cd_a at z1
      split at z1
      · exact ⟨98, by decide, by assumption⟩
      · split at z1
        · exact ⟨116, by decide, by assumption⟩
        · cases z1
    · rw [pk_un e]; exact a7 a
  · rw [r8, pk_un (by omega)]; exact a8 a (by omega)
  · rw [r8] at hz
    refine c4 a q ha hq ?_
    rcases hz with hz | hz
    · by_cases e : a = c
      · exact Or.inl (by rw [e]; exact a8 c (Nat.le_refl _))
      · rw [pk_un e] at hz; exact Or.inl hz
    · by_cases e : q = c
      · exact Or.inr (by rw [e]; exact a8 c (Nat.le_refl _))
      · rw [pk_un e] at hz; exact Or.inr hz
  · rcases d3 j hj with h | ⟨a, ha, h⟩
    · exact Or.inl h
    · exact Or.inr ⟨a, by omega, h⟩
  · obtain ⟨e, e1, e2, e3⟩ := d4 j hj
    refine ⟨e, e1, e2, fun q hq => ?_⟩
    obtain ⟨a, ha, h⟩ := e3 q hq
    exact ⟨a, by omega, h⟩
  · obtain ⟨x, x1, x2, x3⟩ := j7 v a hv ha
    exact ⟨x, by omega, x2, fun h => x3 (by omega)⟩
theorem hJ_D {S' : hs_S} {nb2 : Nat} (hj : hJ S c nc nb i) (hD : jD S' c nb2 (i + 1)) (e : ∀ i, ¬ (i = 20 ∨ i = 21 ∨ i = 22 ∨ i = 23 ∨ i = 24 ∨ i = 25 ∨ i = 26 ∨ i = 32 ∨ i = 33) → S'.1 i = S.1 i) : hJ S' c nc nb2 (i + 1) := by
  obtain ⟨j1, j2, j3, j4, j5, j6, j7⟩ := hj
  exact ⟨jA_of j1 (fun i h => e i (by omega)), jB_of j2 (fun i h => e i (by omega)), jM_of j3 (fun i h => e i (by omega)), jO_of j4 (Nat.le_succ i) (fun i h => e i (by omega)), jC_of j5 (Nat.le_succ i) (fun i h => e i (by omega)), hD, jV_of j7 (Nat.le_succ i) (e 27 (by decide))⟩
theorem st_draw {v0 v1 v2 v3 : Int32} (hj : hJ S c nc nb i) (hi : i < 512) (z : cd_draw S c nb v0 v1 v2 v3 = 0) : hm_q (cs_write S nb v0 v1 v2 v3) (cs_write S nb v0 v1 v2 v3) ∧ hJ (cs_write S nb v0 v1 v2 v3) (c) (nc) (nb + 1) (i + 1) ∧ nI nb = nI nb := by
  obtain ⟨z1, z⟩ := cs_sq_z.mp z
  obtain ⟨z2, z⟩ := cs_sq_z.mp z
  obtain ⟨z3, z⟩ := cs_sq_z.mp z
  obtain ⟨z4, z⟩ := cs_sq_z.mp z
  obtain ⟨z5, z⟩ := cs_sq_z.mp z
  obtain ⟨z6, z⟩ := cs_sq_z.mp z
  obtain ⟨z7, z8⟩ := cs_sq_z.mp z
  have hn := cd_n_0 (by decide) z8
  have hc := hj.c6.2
  obtain ⟨a, ha, rfl⟩ := cd_H_of (by omega) z1
  obtain ⟨b, hb, rfl⟩ := cd_H_of (by omega) z2
  obtain ⟨y, y1, y2, rfl⟩ := cd_R_of (by omega) z3
  refine ⟨hm_q.rf, hJ_D hj ?_ (fun r hr => ?_), rfl⟩
  · obtain ⟨d1, d2, d3, d4, d5, d6, d, d7, d8, d9⟩ := hj.2.2.2.2.2.1
    have r20 : (cs_write S nb (nI a) (nI b) (nI y) v3).1 20 = upd (S.1 20) nb (nI a) := rfl
    have r21 : (cs_write S nb (nI a) (nI b) (nI y) v3).1 21 = upd (S.1 21) nb (nI b) := rfl
    have r22 : (cs_write S nb (nI a) (nI b) (nI y) v3).1 22 = upd (S.1 22) nb (nI y) := rfl
    have r23 : (cs_write S nb (nI a) (nI b) (nI y) v3).1 23 = upd (S.1 23) nb (S.1 33 0 + v3) := rfl
    have r24 : (cs_write S nb (nI a) (nI b) (nI y) v3).1 24 = upd (S.1 24) nb (nI a) := rfl
    have r25 : (cs_write S nb (nI a) (nI b) (nI y) v3).1 25 = S.1 25 := rfl
    have r26 : (cs_write S nb (nI a) (nI b) (nI y) v3).1 26 = S.1 26 := rfl
    refine ⟨rfl, by omega, fun j hj => ?_, fun j hj => ?_, fun j hj => ?_, fun j hj => ?_, d, by omega, d8, fun j hj hz => ?_⟩
    · rw [r24]
      by_cases e : j = nb
      · exact Or.inr ⟨a, ha, by rw [e]; exact if_pos rfl⟩
      · rw [pk_un e]; exact d3 j (by omega)
    · rw [r26]
      by_cases e : j = nb
      · subst e
        refine ⟨0, by omega, d6 j (Nat.le_refl _), fun q hq => ?_⟩
        unfold cs_liab
        rw [r20, r21]
        by_cases q0 : q = 0
        · rw [if_pos q0]; exact ⟨b, hb, if_pos rfl⟩
        · rw [if_neg q0, if_pos (by omega)]; exact ⟨a, ha, if_pos rfl⟩
      · obtain ⟨e1, e2, e3, e4⟩ := d4 j (by omega)
        refine ⟨e1, e2, e3, fun q hq => ?_⟩
        obtain ⟨p, p1, p2⟩ := e4 q hq
        refine ⟨p, p1, ?_⟩
        rw [← p2]
        unfold cs_liab
        rw [r20, r21, r25, pk_un e, pk_un e]
    · rw [r22]
      by_cases e : j = nb
      · exact ⟨y, y2, by rw [e]; exact if_pos rfl⟩
      · rw [pk_un e]; exact d5 j (by omega)
    · rw [r26]; exact d6 j (by omega)
    · rw [r24] at hz
      rw [r23]
      by_cases e : j = nb
      · rw [e, show upd (S.1 24) nb (nI a) nb = nI a from if_pos rfl] at hz
        exact absurd hz (cx_ne1 (by omega))
      · rw [pk_un e] at hz ⊢
        exact d9 j (by omega) hz
  · unfold cs_write
    rw [hs_su_ne _ _ _ (by omega), hs_su_ne _ _ _ (by omega), hs_su_ne _ _ _ (by omega), hs_su_ne _ _ _ (by omega), hs_su_ne _ _ _ (by omega), hs_su_ne _ _ _ (by omega)]
theorem st_endorse {v0 v1 : Int32} (hj : hJ S c nc nb i) (hi : i < 512) (z : cd_endorse S c nb v0 v1 = 0) : hm_q (cs_endorse S v0 v1) (cs_endorse S v0 v1) ∧ hJ (cs_endorse S v0 v1) (c) (nc) (nb) (i + 1) ∧ S.1 24 (vN v0) = S.1 24 (vN v0) := by
  obtain ⟨z1, z⟩ := cs_sq_z.mp z
  obtain ⟨z2, z⟩ := cs_sq_z.mp z
  obtain ⟨z3, z⟩ := cs_sq_z.mp z
  obtain ⟨z4, z⟩ := cs_sq_z.mp z
  obtain ⟨z5, z⟩ := cs_sq_z.mp z
  obtain ⟨z6, z7⟩ := cs_sq_z.mp z
  have hc := hj.c6.2
  have hnb := hj.2.2.2.2.2.1.2.1
  obtain ⟨j, hjb, rfl⟩ := cd_H_of (by omega) z1
  obtain ⟨t, ht, rfl⟩ := cd_H_of (by omega) z2
  have vj : vN (nI j) = j := vN_nI (by omega)
  refine ⟨hm_q.rf, ?_, rfl⟩
  unfold cs_endorse
  rw [vj] at z4 z7 ⊢
  have hne : ¬ S.1 24 j = -1 := fun e => by unfold cd_dn at z4; rw [if_pos e] at z4; cases z4
  obtain ⟨d1, d2, d3, d4, d5, d6, d, d7, d8, d9⟩ := hj.2.2.2.2.2.1
  obtain ⟨a, ha, h24⟩ := (d3 j hjb).resolve_left hne
  obtain ⟨e, e5, e26, el⟩ := d4 j hjb
  rw [e26, vN_nI (by omega)] at z7 ⊢
  have he := cd_n_0 (by decide) z7
  refine hJ_D hj ?_ (fun r hr => ?_)
  · have r20 : (cs_pass S j e (nI t)).1 20 = S.1 20 := rfl
    have r21 : (cs_pass S j e (nI t)).1 21 = S.1 21 := rfl
    have r22 : (cs_pass S j e (nI t)).1 22 = S.1 22 := rfl
    have r23 : (cs_pass S j e (nI t)).1 23 = S.1 23 := rfl
    have r24 : (cs_pass S j e (nI t)).1 24 = upd (S.1 24) j (nI t) := rfl
    have r25 : (cs_pass S j e (nI t)).1 25 = upd (S.1 25) (j * 5 + e) (S.1 24 j) := rfl
    have r26 : (cs_pass S j e (nI t)).1 26 = upd (S.1 26) j (S.1 26 j + nI 1) := rfl
    refine ⟨d1, d2, fun p hp => ?_, fun p hp => ?_, fun p hp => ?_, fun p hp => ?_, d, by omega, d8, fun p hp hz => ?_⟩
    · rw [r24]
      by_cases q : p = j
      · exact Or.inr ⟨t, ht, by rw [q]; exact if_pos rfl⟩
      · rw [pk_un q]; exact d3 p hp
    · rw [r26]
      by_cases q : p = j
      · subst q
        refine ⟨e + 1, by omega, by rw [show upd (S.1 26) p (S.1 26 p + nI 1) p = S.1 26 p + nI 1 from if_pos rfl, e26, nI_add], fun k hk => ?_⟩
        unfold cs_liab
        rw [r20, r21, r25]
        by_cases k0 : k = 0
        · rw [if_pos k0]
          have := el 0 (by omega)
          unfold cs_liab at this
          rw [if_pos rfl] at this
          exact this
        · rw [if_neg k0]
          by_cases k1 : k = 1
          · rw [if_pos k1]
            have := el 1 (by omega)
            unfold cs_liab at this
            rw [if_neg (by decide), if_pos rfl] at this
            exact this
          · rw [if_neg k1]
            by_cases k2 : k = 2
            · subst k2
              refine ⟨a, ha, ?_⟩
              rw [show p * 5 + (e + 1) + 1 - 2 = p * 5 + e by omega, show upd (S.1 25) (p * 5 + e) (S.1 24 p) (p * 5 + e) = S.1 24 p from if_pos rfl, h24]
            · rw [pk_un (by omega)]
              have := el (k - 1) (by omega)
              unfold cs_liab at this
              rw [if_neg (by omega), if_neg (by omega), show p * 5 + e + 1 - (k - 1) = p * 5 + (e + 1) + 1 - k by omega] at this
              exact this
      · obtain ⟨f, f1, f2, f3⟩ := d4 p hp
        rw [pk_un q]
        refine ⟨f, f1, f2, fun k hk => ?_⟩
        obtain ⟨x, x1, x2⟩ := f3 k hk
        refine ⟨x, x1, ?_⟩
        rw [← x2]
        unfold cs_liab
        rw [r20, r21, r25]
        by_cases k0 : k = 0
        · rw [if_pos k0, if_pos k0]
        · rw [if_neg k0, if_neg k0]
          by_cases k1 : k = 1
          · rw [if_pos k1, if_pos k1]
          · rw [if_neg k1, if_neg k1, pk_un (by omega)]
    · rw [r22]; exact d5 p hp
    · rw [r26, pk_un (by omega)]; exact d6 p hp
    · rw [r24] at hz
      rw [r23]
      by_cases q : p = j
      · rw [q, show upd (S.1 24) j (nI t) j = nI t from if_pos rfl] at hz
        exact absurd hz (cx_ne1 (by omega))
      · rw [pk_un q] at hz
        exact d9 p hp hz
  · unfold cs_pass
    rw [hs_su_ne _ _ _ (by omega), hs_su_ne _ _ _ (by omega), hs_su_ne _ _ _ (by omega)]
end ST4
section ST5
variable {S S' : hs_S} {c nc nb i B : Nat}
theorem cs_fol_op {S : hs_S} {j e c : Nat} (hl : ∀ q, q < 2 + e → ∃ a, a < c ∧ cs_liab S j e q = nI a) (hc : c ≤ 6) : ∀ {n t : Nat}, cs_fol S j e n = some t → n ≤ 2 + e → t < c ∧ ¬ S.1 8 t = 0
  | 0, t, h, _ => by cases h
  | n + 1, t, h, hn => by
    rw [cs_fol_s] at h
    unfold cs_fols at h
    split at h
    · rename_i t' ht'
      cases h
      exact cs_fol_op hl hc ht' (by omega)
    · obtain ⟨a, ha, hav⟩ := hl n (by omega)
      rw [hav, vN_nI (by omega)] at h
      split at h
      · cases h
      · cases h; exact ⟨ha, by assumption⟩
-- a bill comes due: the claims behind it
theorem jCb_set {j e : Nat} (h : jCb S B) (hc : c ≤ 6) (hl : ∀ q, q < 2 + e → ∃ a, a < c ∧ cs_liab S j e q = nI a) (h24 : S.1 24 j = -1 ∨ ∃ a, a < c ∧ S.1 24 j = nI a) (h22 : ∃ x, x ≤ 9999 ∧ S.1 22 j = nI x) (hB : 9999 + B < 2 ^ 31) : jCb (cs_set S j e).1 (B + 9999) := by
  have h0 : jCb (hs_su S 24 j (-1)) B := jCb_of h (Nat.le_refl _) (fun i h => by rcases h with rfl | rfl <;> rfl)
  have h1 : jCb (hs_su S 24 j (-1)) (B + 9999) := jCb_of h0 (by omega) (fun _ _ => rfl)
  unfold cs_set
  split
  · exact h1
  · rename_i n1
    obtain ⟨a, ha, e24⟩ := h24.resolve_left n1
    rw [e24, vN_nI (by omega)]
    split
    · exact h1
    · rename_i n2
      split
      · exact h1
      · rename_i t ht
        have hl2 : ∀ q, q < 2 + e → ∃ a, a < c ∧ cs_liab (hs_su S 24 j (-1)) j e q = nI a := hl
        obtain ⟨t1, t2⟩ := cs_fol_op hl2 hc ht (Nat.le_refl _)
        split
        · exact h1
        · rename_i n3
          obtain ⟨x, x1, x2⟩ := h22
          rw [x2]
          exact jCb_of (jCb_add (y := x) h0 (by omega) (by omega) (fun e => n3 e.symm) n2 t2 (by omega)) (by omega) (fun _ _ => rfl)
theorem cs_nd_33b (S : hs_S) : ∀ n, (cs_nd S n).1.1 33 0 = S.1 33 0 + nI 1
  | 0 => rfl
  | n + 1 => by
    rw [cs_nd_s]
    unfold cs_nds
    split
    · show (cs_set _ _ _).1.1 33 0 = _
      rw [cs_set_ne _ _ _ (by decide) (by decide)]
      exact cs_nd_33b S n
    · exact cs_nd_33b S n
theorem cs_nd_J (hj : hJ S c nc nb i) (hi : i < 512) : ∀ n, n ≤ nb → jCb (cs_nd S n).1 (120000 * i + 9999 * n) ∧ ∀ j, (cs_nd S n).1.1 24 j = -1 → S.1 24 j = -1 ∨ S.1 23 j = S.1 33 0 + nI 1
  | 0, _ => ⟨jCb_of (S := S) hj.2.2.2.2.1 (by omega) (fun i h => by rcases h with rfl | rfl <;> rfl), fun j h => Or.inl h⟩
  | n + 1, hn => by
    obtain ⟨i1, i2⟩ := cs_nd_J hj hi n (by omega)
    have hnb := hj.2.2.2.2.2.1.2.1
    rw [cs_nd_s]
    unfold cs_nds
    split
    · rename_i hd
      obtain ⟨e, e1, e2, e3⟩ := hj.hli n (by omega)
      have h26 : (cs_nd S n).1.1 26 n = nI e := by rw [cs_nd_ne S (by decide) (by decide) (by decide)]; exact e2
      rw [h26, vN_nI (by omega)]
      refine ⟨?_, fun j hz => ?_⟩
      · refine jCb_of (jCb_set (c := c) (j := n) (e := e) i1 hj.c6.2 (fun q hq => ?_) ?_ ?_ (by omega)) (by omega) (fun _ _ => rfl)
        · obtain ⟨a, a1, a2⟩ := e3 q hq
          refine ⟨a, a1, ?_⟩
          rw [← a2]
          unfold cs_liab
          rw [cs_nd_ne S (by decide) (by decide) (by decide), cs_nd_ne S (by decide) (by decide) (by decide), cs_nd_ne S (by decide) (by decide) (by decide)]
        · rcases cs_nd_24 S n n with h | h
          · exact Or.inl h
          · rw [h]; exact hj.h24 n (by omega)
        · rw [cs_nd_ne S (by decide) (by decide) (by decide)]
          exact hj.2.2.2.2.2.1.2.2.2.2.1 n (by omega)
      · have hz2 : (cs_set (cs_nd S n).1 n e).1.1 24 j = -1 := hz
        rw [cs_set_24] at hz2
        by_cases q : j = n
        · right
          unfold cs_due at hd
          split at hd
          · rename_i hd2
            rw [cs_nd_ne S (by decide) (by decide) (by decide), cs_nd_33b] at hd2
            rw [q]; exact hd2
          · cases hd
        · rw [if_neg q] at hz2
          exact i2 j hz2
    · exact ⟨jCb_of i1 (by omega) (fun _ _ => rfl), i2⟩
theorem st_nextDay {S : hs_S} {c nc nb i : Nat} (hj : hJ S c nc nb i) (hi : i < 512) : hJ (cs_nd S nb).1 c nc nb (i + 1) := by
  obtain ⟨k1, k2⟩ := cs_nd_J hj hi nb (Nat.le_refl _)
  have hne : ∀ r, r ≠ 19 → r ≠ 24 → r ≠ 33 → (cs_nd S nb).1.1 r = S.1 r := fun r h1 h2 h3 => cs_nd_ne S h1 h2 h3 nb
  have h24 := fun j => cs_nd_24 S j nb
  have h33 := cs_nd_33b S nb
  obtain ⟨j1, j2, j3, j4, j5, ⟨d1, d2, d3, d4, d5, d6, d, d7, d8, d9⟩, j7⟩ := hj
  have hC : jC (cs_nd S nb).1 (i + 1) := jCb_of k1 (by omega) (fun _ _ => rfl)
  refine ⟨jA_of j1 (fun i h => hne i (by omega) (by omega) (by omega)), jB_of j2 (fun i h => hne i (by omega) (by omega) (by omega)), jM_of j3 (fun i h => hne i (by omega) (by omega) (by omega)), jO_of j4 (Nat.le_succ i) (fun i h => hne i (by omega) (by omega) (by omega)), hC, ?_, jV_of j7 (Nat.le_succ i) (hne 27 (by omega) (by omega) (by omega))⟩
  refine ⟨by rw [hne 32 (by omega) (by omega) (by omega)]; exact d1, d2, fun j hj => ?_, fun j hj => ?_, fun j hj => ?_, fun j hj => ?_, d + 1, by omega, by rw [h33, d8, nI_add], fun j hj hz => ?_⟩
  · rcases h24 j with h | h
    · exact Or.inl h
    · rw [h]; exact d3 j hj
  · obtain ⟨e, e1, e2, e3⟩ := d4 j hj
    refine ⟨e, e1, by rw [hne 26 (by omega) (by omega) (by omega)]; exact e2, fun q hq => ?_⟩
    obtain ⟨a, a1, a2⟩ := e3 q hq
    refine ⟨a, a1, ?_⟩
    rw [← a2]
    unfold cs_liab
    rw [hne 20 (by omega) (by omega) (by omega), hne 21 (by omega) (by omega) (by omega), hne 25 (by omega) (by omega) (by omega)]
  · rw [hne 22 (by omega) (by omega) (by omega)]; exact d5 j hj
  · rw [hne 26 (by omega) (by omega) (by omega)]; exact d6 j hj
  · rw [hne 23 (by omega) (by omega) (by omega)]
    rcases k2 j hz with h | h
    · obtain ⟨u, u1, u2⟩ := d9 j hj h
      exact ⟨u, by omega, u2⟩
    · exact ⟨d + 1, Nat.le_refl _, by rw [h, d8, nI_add]⟩
end ST5

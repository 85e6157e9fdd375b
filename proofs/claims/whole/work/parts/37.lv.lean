theorem hs_E_o {A : Nat → Nat} {S : hs_S} {i : Nat} {n : Nat} {f : Nat → Int64} : ¬ (.inl (2, n, .inr (.inl f)) : hk_E) = hs_E A S i := by
  intro e
  match i, e with
  | 0, e => cases e
  | 1, e => cases e
  | 2, e => cases e
  | 3, e => cases e
  | 4, e => cases e
  | 5, e => cases e
  | 6, e => cases e
  | n + 7, e =>
    rw [hs_E_arr A S (by omega)] at e
    have h3 := (Prod.mk.inj (Prod.mk.inj (Sum.inl.inj e)).2).2
    cases h3
theorem hs_E_d {A : Nat → Nat} {S : hs_S} {i : Nat} {n : Nat} {f : Nat → UInt64} : ¬ (.inl (3, n, .inr (.inr (.inr (.inl f)))) : hk_E) = hs_E A S i := by
  intro e
  match i, e with
  | 0, e => cases e
  | 1, e => cases e
  | 2, e => cases e
  | 3, e => cases e
  | 4, e => cases e
  | 5, e => cases e
  | 6, e => cases e
  | n + 7, e =>
    rw [hs_E_arr A S (by omega)] at e
    have h3 := (Prod.mk.inj (Prod.mk.inj (Sum.inl.inj e)).2).2
    cases h3
-- the same memory as the reference sees it
def hm_q (S S' : hs_S) : Prop := (∀ i, (i ≠ 11 ∧ i ≠ 12 ∧ i ≠ 18 ∧ i ≠ 19 ∧ i ≠ 28 ∧ i ≠ 29) → S'.1 i = S.1 i) ∧ (∀ j, j < 12 → S'.1 12 j = S.1 12 j) ∧ (∀ j, j < 36 → S'.1 19 j = S.1 19 j) ∧ S'.2 = S.2
theorem hm_q.rf {S : hs_S} : hm_q S S := ⟨fun _ _ => rfl, fun _ _ => rfl, fun _ _ => rfl, rfl⟩
theorem hm_Wd_q {G : hk_G} {m c nc nb : Nat} {thr : Int32} {S S' : hs_S} {g h : hk_H} (hw : hm_Wd G m S c nc nb thr g h) (q : hm_q S S') : hm_Wd G m S' c nc nb thr g h := by
  obtain ⟨A, M, e1, e2, ok, hk, rfl⟩ := hw
  obtain ⟨q1, q2, q3, q4⟩ := q
  have hi : ∀ i, i = 7 ∨ i = 8 ∨ i = 25 ∨ i = 26 ∨ i = 30 ∨ i = 31 ∨ i = 32 → S'.1 i = S.1 i := fun i h => q1 i (by omega)
  have he := hm_eq (G := G) (S' := S') (M' := M) (A := A) hk (fun j => by unfold hm_D; rw [q1 32 (by decide), q1 31 (by decide)]) (fun j hj => hm_E_pc
    (fun e => by rw [hm_e0, hm_e0, q4, q1 33 (by decide)]) (fun _ => q1 9 (by decide)) (fun _ => q1 10 (by decide)) (fun a ha _ p hp => q2 _ (by omega)) (fun a ha _ p hp => q3 _ (by omega)) (fun a ha _ p hp => by rw [q1 27 (by decide)])
    (fun i _ _ => by unfold hm_ls hm_n; rw [q1 30 (by decide), q1 31 (by decide), q1 32 (by decide), q1 26 (by decide)])
    (fun i _ => ⟨rfl, rfl⟩)
    (fun i _ => by unfold hm_co; rw [q1 13 (by decide), q1 14 (by decide), q1 15 (by decide), q1 16 (by decide), q1 17 (by decide)])
    (fun i _ => by unfold hm_bi; rw [q1 20 (by decide), q1 21 (by decide), q1 22 (by decide), q1 23 (by decide), q1 24 (by decide)])
    (by unfold hm_D at hj; omega))
  exact ⟨A, M, e1, e2, hm_okS ok hi, he.2, he.1.symm⟩
theorem hm_Wd_at {G : hk_G} {m c nc nb : Nat} {thr : Int32} {S : hs_S} {g h : hk_H} (hw : hm_Wd G m S c nc nb thr g h) : ∃ fs, h m = some (.inr (16, fs)) := by
  obtain ⟨A, M, rfl, e2, ok, hk, rfl⟩ := hw
  exact ⟨_, hm_g0 hk⟩
-- THE LAW'S WORLD: the class's object x and the reference m hold one memory S; the rows o, od of answers
def hl_lo (f : Nat → Int64) : hk_E := .inl (2, 1, .inr (.inl f))
def hl_db (f : Nat → UInt64) : hk_E := .inl (3, 1, .inr (.inr (.inr (.inl f))))
def hl_I (G : hk_G) (x m o od : Nat) (S : hs_S) (c nc nb : Nat) (h : hk_H) : Prop := ∃ (A : Nat → Nat) (g hm : hk_H) (thr : Int32) (f : Nat → Int64) (fd : Nat → UInt64), hs_inj A ∧ A 0 = x ∧ hm_Wd G m S c nc nb thr g hm ∧ (∀ i, i < 30 → hm (A i) = none) ∧ g o = some (hl_lo f) ∧ g od = some (hl_db fd) ∧ h = hs_ov A S hm
-- behind the class's call: the class is at S', the reference still at S
def hl_R (G : hk_G) (x m o od : Nat) (S S' : hs_S) (c nc nb : Nat) (f : Nat → Int64) (fd : Nat → UInt64) (g h : hk_H) : Prop := ∃ (A : Nat → Nat) (thr : Int32), hs_inj A ∧ A 0 = x ∧ hm_Wd G m S c nc nb thr g h ∧ (∀ i, i < 30 → g (A i) = some (hs_E A S' i)) ∧ g o = some (hl_lo f) ∧ g od = some (hl_db fd)
section HLV
variable {G : hk_G} {x m o od c nc nb c2 nc2 nb2 : Nat} {thr : Int32} {S S' S2 : hs_S} {A : Nat → Nat} {g g2 hm h h2 : hk_H} {f f1 : Nat → Int64} {fd fd1 : Nat → UInt64}
theorem hl_oA (hw : hm_Wd G m S c nc nb thr g hm) (hd : ∀ i, i < 30 → hm (A i) = none) {y : hk_E} (ho : g o = some y) : hm o = some y ∧ ∀ i, i < 30 → A i ≠ o := by
  have h1 := (hl_out (x := y) hw ho).2
  exact ⟨h1, fun i hi e => by have := hd i hi; rw [e, h1] at this; cases this⟩
theorem hl_R0 (hA : hs_inj A) (hw : hm_Wd G m S c nc nb thr g hm) (hd : ∀ i, i < 30 → hm (A i) = none) (ho : g o = some (hl_lo f)) (hod : g od = some (hl_db fd)) : hl_R G (A 0) m o od S S' c nc nb f fd (hs_ov A S' g) (hs_ov A S' hm) :=
  ⟨A, thr, hA, rfl, hl_swap hA hw hd, fun i hi => hs_ov_get hA hi, by rw [hs_ov_ne (hl_oA hw hd ho).2]; exact ho, by rw [hs_ov_ne (hl_oA hw hd hod).2]; exact hod⟩
theorem hl_R1 (hA : hs_inj A) (hw : hm_Wd G m S c nc nb thr g hm) (hd : ∀ i, i < 30 → hm (A i) = none) (ho : g o = some (hl_lo f)) (hod : g od = some (hl_db fd)) : hl_R G (A 0) m o od S S' c nc nb f1 fd (hs_ov A S' (hk_set g o (hl_lo f1))) (hs_ov A S' (hk_set hm o (hl_lo f1))) := by
  have h2 := (hl_out (x := hl_lo f1) hw ho).1
  have hne : od ≠ o := fun e => by rw [e, ho] at hod; cases hod
  refine hl_R0 hA h2 (fun i hi => ?_) hk_set_eq (by rw [hk_set_ne hne]; exact hod)
  rw [hk_set_ne ((hl_oA hw hd ho).2 i hi)]
  exact hd i hi
theorem hl_R2 (hA : hs_inj A) (hw : hm_Wd G m S c nc nb thr g hm) (hd : ∀ i, i < 30 → hm (A i) = none) (ho : g o = some (hl_lo f)) (hod : g od = some (hl_db fd)) : hl_R G (A 0) m o od S S' c nc nb f fd1 (hs_ov A S' (hk_set g od (hl_db fd1))) (hs_ov A S' (hk_set hm od (hl_db fd1))) := by
  have h2 := (hl_out (x := hl_db fd1) hw hod).1
  have hne : o ≠ od := fun e => by rw [e, hod] at ho; cases ho
  refine hl_R0 hA h2 (fun i hi => ?_) (by rw [hk_set_ne hne]; exact ho) hk_set_eq
  rw [hk_set_ne ((hl_oA hw hd hod).2 i hi)]
  exact hd i hi
-- behind the reference's call
theorem hl_fin (hR : hl_R G x m o od S S' c nc nb f fd g h) (hx : hm_x g g2) (hw : hm_Wd G m S2 c2 nc2 nb2 thr g2 h2) (q : hm_q S2 S') : hl_I G x m o od S' c2 nc2 nb2 h2 ∧ h2 o = some (hl_lo f) ∧ h2 od = some (hl_db fd) := by
  obtain ⟨A, thr1, hA, rfl, hw1, hE, ho, hod⟩ := hR
  have hw2 := hm_Wd_q hw q
  obtain ⟨hm2, k1, k2, k3⟩ := hl_back hA hw2 (fun i hi => hx _ _ (hE i hi))
  have hn1 : ∀ i, i < 30 → A i ≠ o := fun i hi e => by have := hE i hi; rw [e, ho] at this; exact hs_E_o (Option.some.inj this)
  have hn2 : ∀ i, i < 30 → A i ≠ od := fun i hi e => by have := hE i hi; rw [e, hod] at this; exact hs_E_d (Option.some.inj this)
  refine ⟨⟨A, _, hm2, thr, f, fd, hA, rfl, k1, k3, by rw [hl_cut_ne hn1]; exact hx _ _ ho, by rw [hl_cut_ne hn2]; exact hx _ _ hod, k2⟩, (hl_out (x := hl_lo f) hw2 (hx _ _ ho)).2, (hl_out (x := hl_db fd) hw2 (hx _ _ hod)).2⟩
end HLV
theorem ml_tr_n {L : List Nat} {k : Nat} (h : ¬ k = 0) : ml_tr L k = L.idxOf k + 1 := by
  unfold ml_tr
  exact if_neg h
theorem ml_tr_z {L : List Nat} {k : Nat} (h : k = 0) : ml_tr L k = 0 := by
  unfold ml_tr
  exact if_pos h
theorem ml_tr_p {L : List Nat} {k : Nat} (h : ¬ k = 0) (hL : L.length ≤ 10) : ¬ ml_tr L k = 0 ∧ ml_tr L k < 2 ^ 31 := by
  rw [ml_tr_n h]
  have := List.idxOf_le_length (l := L) (a := k)
  omega

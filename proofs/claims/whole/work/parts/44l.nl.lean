section CM15
variable {G : hk_G} {l : Launch} {S : hs_S} {M : hm_M} {A : Nat → Nat} {c nc nb m : Nat} {thr : Int32} {g h : hk_H}
-- something more at the end of a list that lies in the ground
theorem hq_add {M : hm_M} {gg : hk_H} {fl ed n cap v0 : Nat} {mc : Int32} {f : Nat → Option Nat} {h1 : hk_H} (hk : ha_ok (hm_D S M) A gg) (hal : hk_al G gg fl mc ed n cap f) (hx : hm_x g gg) (gfl : g fl = none) (hed : cap = 0 ∨ g ed = none) (hc : cap ≤ 100) (hgr : hk_grown (hm_h G S M A gg) fl mc ed n cap f v0 h1) :
    ∃ (gg2 : hk_H) (e1 cap1 : Nat) (f1 : Nat → Option Nat), h1 = hm_h G S M A gg2 ∧ ha_ok (hm_D S M) A gg2 ∧ hm_x g gg2 ∧ hk_al G gg2 fl (mc + nI 1) e1 (n + 1) cap1 f1 ∧ g e1 = none ∧ (∀ i, i < n → f1 i = f i) ∧ f1 n = some v0 ∧ (cap = 0 → cap1 = 10) ∧ (n < cap → cap1 = cap) ∧ (∀ q x, gg q = some x → q ≠ fl → q ≠ ed → gg2 q = some x) := by
  obtain ⟨h3, h4, h5, h6⟩ := hal
  obtain ⟨e1, cap1, f1, r1, r2, r3, r4, r5, r6⟩ := hgr
  have he1 : e1 ≠ fl ∧ g e1 = none ∧ ((∃ y, gg e1 = some y) ∨ hm_h G S M A gg e1 = none) ∧ (∀ q x, gg q = some x → q ≠ ed → q ≠ e1) := by
    rcases r2 with ⟨p1, p2, p3⟩ | ⟨p1, p2⟩
    · subst p1
      obtain ⟨h6, h9⟩ := h6.resolve_right (fun q => by omega)
      exact ⟨fun e => (by rw [e, h3] at h6; cases h6), hed.resolve_left (by omega), Or.inl ⟨_, h6⟩, fun q x _ hq => hq⟩
    · have n2 : e1 ≠ fl := fun e => by rw [e, hm_gnd hk h3] at p1; cases p1
      have n3 := (ha_none hk.1 p1).2
      refine ⟨n2, ?_, Or.inr p1, fun q x hq _ e => by rw [e, n3] at hq; cases hq⟩
      cases e : g e1 with
      | none => rfl
      | some y => rw [hx e1 y e] at n3; cases n3
  obtain ⟨n2, n3, n4, n5⟩ := he1
  have hk2 : ha_ok (hm_D S M) A (hk_set gg e1 (.inl (5, cap1, .inr (.inr (.inr (.inr f1)))))) ∧ hk_set (hm_h G S M A gg) e1 (.inl (5, cap1, .inr (.inr (.inr (.inr f1))))) = hm_h G S M A (hk_set gg e1 (.inl (5, cap1, .inr (.inr (.inr (.inr f1)))))) := by
    rcases n4 with ⟨y, n4⟩ | n4
    · exact hm_sg hk n4
    · exact ⟨(hm_okg hk n4).1, (hm_okg hk n4).2.1⟩
  have hk3 := hm_sg (x := .inr (6, [.int (mc + nI 1), .ref e1, .int (nI (n + 1))])) (G := G) (S := S) (M := M) hk2.1 (by rw [hk_set_ne n2.symm]; exact h3)
  refine ⟨_, e1, cap1, f1, (by rw [r1, hk2.2]; exact hk3.2), hk3.1, (hx.st n3).st gfl, ⟨hk_set_eq, r3, ?_, Or.inl ⟨?_, by omega⟩⟩, n3, r5, r6, ?_, ?_, ?_⟩
  · rcases r2 with ⟨p1, p2, p3⟩ | ⟨p1, p2⟩ <;> omega
  · rw [hk_set_ne n2]; exact hk_set_eq
  · intro z; rcases r2 with ⟨p1, p2, p3⟩ | ⟨p1, p2, p3⟩
    · omega
    · exact p3 z
  · intro z; rcases r2 with ⟨p1, p2, p3⟩ | ⟨p1, p2⟩ <;> omega
  · intro q x hq hqf hqe
    rw [hk_set_ne hqf, hk_set_ne (n5 q x hq hqe)]
    exact hq
-- the class's day, case by case
theorem nd_no {p : hs_S × Nat} {j : Nat} (h : ¬ p.1.1 23 j = p.1.1 33 0) : cs_nds j p = p := by
  unfold cs_nds cs_due
  rw [if_neg h]
  exact if_neg (by decide)
theorem nd_yes {p : hs_S × Nat} {j e : Nat} (h : p.1.1 23 j = p.1.1 33 0) (he : p.1.1 26 j = nI e) (he5 : e ≤ 5) : cs_nds j p = ((cs_set p.1 j e).1, if (cs_set p.1 j e).2 = true then p.2 + 1 else p.2) := by
  unfold cs_nds cs_due
  rw [if_pos h, he, vN_nI (by omega)]
  exact if_pos rfl
theorem set_failed {S : hs_S} {j e a : Nat} (h : S.1 24 j = nI a) (ha : a < 6) (hf : S.1 8 a = 0) : cs_set S j e = (hs_su S 24 j (-1), false) := by
  unfold cs_set
  rw [h, vN_nI (by omega), if_neg (cx_ne1 (by omega)), if_pos hf]
theorem set_none {S : hs_S} {j e a : Nat} (h : S.1 24 j = nI a) (ha : a < 6) (hf : ¬ S.1 8 a = 0) (hl : cs_fol (hs_su S 24 j (-1)) j e (2 + e) = none) : cs_set S j e = (hs_su S 24 j (-1), false) := by
  unfold cs_set
  rw [h, vN_nI (by omega), if_neg (cx_ne1 (by omega)), if_neg hf]
  simp only [hl]
theorem set_same {S : hs_S} {j e a : Nat} (h : S.1 24 j = nI a) (ha : a < 6) (hf : ¬ S.1 8 a = 0) (hl : cs_fol (hs_su S 24 j (-1)) j e (2 + e) = some a) : cs_set S j e = (hs_su S 24 j (-1), false) := by
  unfold cs_set
  rw [h, vN_nI (by omega), if_neg (cx_ne1 (by omega)), if_neg hf]
  simp only [hl]
  exact if_pos trivial
theorem set_paid {S : hs_S} {j e a t : Nat} (h : S.1 24 j = nI a) (ha : a < 6) (hf : ¬ S.1 8 a = 0) (hl : cs_fol (hs_su S 24 j (-1)) j e (2 + e) = some t) (hne : ¬ t = a) : cs_set S j e = (cs_cadd (hs_su S 24 j (-1)) a t (S.1 22 j), true) := by
  unfold cs_set
  rw [h, vN_nI (by omega), if_neg (cx_ne1 (by omega)), if_neg hf]
  simp only [hl]
  exact if_neg hne
theorem cs_nd_24g (S : hs_S) {i : Nat} : ∀ n, n ≤ i → (cs_nd S n).1.1 24 i = S.1 24 i
  | 0, _ => rfl
  | n + 1, h => by
    rw [cs_nd_s]
    unfold cs_nds
    split
    · show (cs_set _ _ _).1.1 24 i = _
      rw [cs_set_24, if_neg (by omega)]
      exact cs_nd_24g S n (by omega)
    · exact cs_nd_24g S n (by omega)
-- the houses asked, in a list that lies in the ground
def nd_L (G : hk_G) (g gg : hk_H) (fl n : Nat) (F : Nat → Nat) (mc : Int32) (ed cap : Nat) (f : Nat → Option Nat) : Prop := g fl = none ∧ hk_al G gg fl mc ed n cap f ∧ (∀ q, q < n → f q = some (hk_K G (3000 + (F q + 128)))) ∧ (cap = 0 ∨ g ed = none) ∧ ((n = 0 ∧ cap = 0) ∨ cap = 10)
theorem nd_L0 {fl : Nat} {F : Nat → Nat} (h : g fl = none) : nd_L G g (hk_set g fl (.inr (6, [.int 0, .ref (hk_K G 1001), .int (nI 0)]))) fl 0 F 0 (hk_K G 1001) 0 (fun _ => none) := ⟨h, ⟨hk_set_eq, Nat.le_refl _, by omega, Or.inr ⟨rfl, rfl⟩⟩, fun q hq => absurd hq (Nat.not_lt_zero q), Or.inl rfl, Or.inl ⟨rfl, rfl⟩⟩
theorem hq_al {gg : hk_H} {fl ed n cap : Nat} {mc : Int32} {f : Nat → Option Nat} (hk : ha_ok (hm_D S M) A gg) (h : hk_al G gg fl mc ed n cap f) : hk_al G (hm_h G S M A gg) fl mc ed n cap f := ⟨hm_gnd hk h.1, h.2.1, h.2.2.1, h.2.2.2.imp (fun z => ⟨hm_gnd hk z.1, z.2⟩) id⟩
theorem nd_ob {gg h1 : hk_H} {fl n ed cap : Nat} {F : Nat → Nat} {mc : Int32} {f : Nat → Option Nat} (L : nd_L G g gg fl n F mc ed cap f) (hF : ∀ q, q < n → F q < 128) : ∀ i v, i < n → f i = some v → hk_ob G h1 v := fun i v hi hv => by
  have h2 := L.2.2.1 i hi
  rw [hv] at h2
  cases h2
  exact Or.inr (Or.inl ⟨F i + 128, by have := hF i hi; omega, rfl⟩)
theorem nd_add {gg h1 : hk_H} {fl n ed cap : Nat} {F : Nat → Nat} {mc : Int32} {f : Nat → Option Nat} (hk : ha_ok (hm_D S M) A gg) (hx : hm_x g gg) (L : nd_L G g gg fl n F mc ed cap f) (hn : n < 10) (hgr : hk_grown (hm_h G S M A gg) fl mc ed n cap f (hk_K G (3000 + (F n + 128))) h1) : ∃ (gg2 : hk_H) (mc2 : Int32) (ed2 cap2 : Nat) (f2 : Nat → Option Nat), h1 = hm_h G S M A gg2 ∧ ha_ok (hm_D S M) A gg2 ∧ hm_x g gg2 ∧ nd_L G g gg2 fl (n + 1) F mc2 ed2 cap2 f2 := by
  obtain ⟨l1, l2, l3, l4, l5⟩ := L
  obtain ⟨gg2, e1, cap1, f1, r1, r2, r3, r4, r5, r6, r7, r8, r9, -⟩ := hq_add hk l2 hx l1 l4 (by omega) hgr
  refine ⟨gg2, _, e1, cap1, f1, r1, r2, r3, l1, r4, fun q hq => ?_, Or.inr r5, Or.inr ?_⟩
  · by_cases e : q = n
    · rw [e]; exact r7
    · rw [r6 q (by omega)]; exact l3 q (by omega)
  · rcases l5 with ⟨_, z⟩ | z
    · exact r8 z
    · rw [r9 (by omega)]; exact z
theorem nd_aa1 {gg h1 : hk_H} {fl n n2 ed q : Nat} {F : Nat → Nat} {mc : Int32} {f f2 : Nat → Option Nat} (hk : ha_ok (hm_D S M) A gg) (hx : hm_x g gg) (L : nd_L G g gg fl n F mc ed 10 f) (h2 : ∀ i, i < n2 → f2 i = some (hk_K G (3000 + (F (n + i) + 128)))) (hn : n + n2 ≤ 10) (hq : hm_h G S M A gg q = none) (e : h1 = hk_set (hk_set (hk_set (hm_h G S M A gg) q (.inl (5, n2, .inr (.inr (.inr (.inr (va_cpy f2 (fun _ => none) 0 0 n2))))))) ed (.inl (5, 10, .inr (.inr (.inr (.inr (va_cpy (va_cpy f2 (fun _ => none) 0 0 n2) f 0 n n2))))))) fl (.inr (6, [.int (mc + nI 1), .ref ed, .int (nI (n + n2))]))) : ∃ (gg2 : hk_H) (mc2 : Int32) (f3 : Nat → Option Nat), h1 = hm_h G S M A gg2 ∧ ha_ok (hm_D S M) A gg2 ∧ hm_x g gg2 ∧ nd_L G g gg2 fl (n + n2) F mc2 ed 10 f3 := by
  obtain ⟨l1, ⟨a1, a2, a3, a4⟩, l3, l4, l5⟩ := L
  obtain ⟨a4, a5⟩ := a4.resolve_right (fun z => by omega)
  have ged := l4.resolve_left (by omega)
  obtain ⟨k1, k2, k3⟩ := hm_okg (x := .inl (5, n2, .inr (.inr (.inr (.inr (va_cpy f2 (fun _ => none) 0 0 n2)))))) hk hq
  have gq : gg q = none := (ha_none hk.1 hq).2
  have nq1 : ed ≠ q := fun z => by rw [z, gq] at a4; cases a4
  have nq2 : fl ≠ q := fun z => by rw [z, gq] at a1; cases a1
  have nq3 : fl ≠ ed := fun z => by rw [z, a4] at a1; cases a1
  obtain ⟨k4, k5⟩ := hm_sg (G := G) (x := .inl (5, 10, .inr (.inr (.inr (.inr (va_cpy (va_cpy f2 (fun _ => none) 0 0 n2) f 0 n n2)))))) k1 ((hk_set_ne nq1).trans a4)
  obtain ⟨k6, k7⟩ := hm_sg (G := G) (x := .inr (6, [.int (mc + nI 1), .ref ed, .int (nI (n + n2))])) k4 ((hk_set_ne nq3).trans ((hk_set_ne nq2).trans a1))
  refine ⟨_, mc + nI 1, va_cpy (va_cpy f2 (fun _ => none) 0 0 n2) f 0 n n2, by rw [e, k2, k5, k7], k6, ?_, l1, ⟨hk_set_eq, hn, by omega, Or.inl ⟨?_, by omega⟩⟩, fun i hi => ?_, Or.inr ged, Or.inr rfl⟩
  · exact ((hx.tr k3).st ged).st l1
  · rw [hk_set_ne nq3.symm]; exact hk_set_eq
  · unfold va_cpy
    by_cases w : i < n
    · rw [if_neg (by omega)]; exact l3 i w
    · rw [if_pos (by omega), if_pos (by omega), h2 _ (by omega)]
      rw [show n + (0 + (0 + (i - n) - 0)) = i by omega]
theorem nd_aa0 {gg h1 : hk_H} {fl n ed q cap : Nat} {F : Nat → Nat} {mc : Int32} {f : Nat → Option Nat} (hk : ha_ok (hm_D S M) A gg) (hx : hm_x g gg) (L : nd_L G g gg fl n F mc ed cap f) (hq : hm_h G S M A gg q = none) (e : h1 = hk_set (hk_set (hm_h G S M A gg) q (.inl (5, 0, .inr (.inr (.inr (.inr (fun _ => none))))))) fl (.inr (6, [.int (mc + nI 1), .ref ed, .int (nI n)]))) : ∃ (gg2 : hk_H) (mc2 : Int32), h1 = hm_h G S M A gg2 ∧ ha_ok (hm_D S M) A gg2 ∧ hm_x g gg2 ∧ nd_L G g gg2 fl n F mc2 ed cap f := by
  obtain ⟨l1, ⟨a1, a2, a3, a4⟩, l3, l4, l5⟩ := L
  obtain ⟨k1, k2, k3⟩ := hm_okg (x := .inl (5, 0, .inr (.inr (.inr (.inr (fun _ => none)))))) hk hq
  have gq : gg q = none := (ha_none hk.1 hq).2
  have nq2 : fl ≠ q := fun z => by rw [z, gq] at a1; cases a1
  obtain ⟨k6, k7⟩ := hm_sg (G := G) (x := .inr (6, [.int (mc + nI 1), .ref ed, .int (nI n)])) k1 ((hk_set_ne nq2).trans a1)
  refine ⟨_, mc + nI 1, by rw [e, k2, k7], k6, (hx.tr k3).st l1, l1, ⟨hk_set_eq, a2, a3, a4.imp (fun z => ⟨?_, z.2⟩) id⟩, l3, l4, l5⟩
  have n3 : ed ≠ fl := fun y => by rw [y, a1] at z; exact absurd z.1 (by intro w; cases w)
  rw [hk_set_ne n3, hk_set_ne (fun y => by rw [y, gq] at z; exact absurd z.1 (by intro w; cases w))]
  exact z.1
theorem nd_liab {S' : hs_S} {j e q : Nat} (h : ∀ i, i = 20 ∨ i = 21 ∨ i = 25 → S'.1 i = S.1 i) : cs_liab S' j e q = cs_liab S j e q := by
  unfold cs_liab
  rw [h 20 (by decide), h 21 (by decide), h 25 (by decide)]
theorem nd_fol {j e i : Nat} (h : cs_fol S j e i = none) (hf : cd_O S (vN (cs_liab S j e i)) = 3) : cs_fol S j e (i + 1) = none := by
  rw [cs_fol_s, h]
  exact if_pos (cd_O_c hf)
theorem nd_fol2 {j e i : Nat} (h : cs_fol S j e i = none) (hi : i < 2 + e) (hf : cd_O S (vN (cs_liab S j e i)) = 0) : cs_fol S j e (2 + e) = some (vN (cs_liab S j e i)) := by
  have h1 : cs_fol S j e (i + 1) = some (vN (cs_liab S j e i)) := by
    rw [cs_fol_s, h]
    exact if_neg (cd_O_o hf)
  have := cs_fol_mono h1 (2 + e - (i + 1))
  rw [show i + 1 + (2 + e - (i + 1)) = 2 + e by omega] at this
  exact this
end CM15

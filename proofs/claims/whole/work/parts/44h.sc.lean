-- the same parting, as the law's own class walks it
def ho_r (S : hs_S) (g : Nat) (q z : Int32) (j : Nat) : Int32 := q * S.1 27 (g * 6 + j) % z
def ho_bs (S : hs_S) (g : Nat) (q z : Int32) (t : Nat → Int32) (j : Nat) (b : Option Nat) : Option Nat := if S.1 27 (g * 6 + j) ≤ nI 0 then b else (if t j = nI 0 then (match b with
  | none => some j
  | some k => if ho_r S g q z j ≤ ho_r S g q z k then some k else some j) else b)
def ho_b (S : hs_S) (g : Nat) (q z : Int32) (t : Nat → Int32) (n : Nat) : Option Nat := cx_it (ho_bs S g q z t) none n
theorem ho_b_0 (S : hs_S) (g : Nat) (q z : Int32) (t : Nat → Int32) : ho_b S g q z t 0 = none := rfl
theorem ho_b_s (S : hs_S) (g : Nat) (q z : Int32) (t : Nat → Int32) (n : Nat) : ho_b S g q z t (n + 1) = ho_bs S g q z t n (ho_b S g q z t n) := rfl
def ho_f (S : hs_S) (g : Nat) (q z : Int32) (n : Nat) : Nat → Int32 := cx_it (fun j f => upd f j (q * S.1 27 (g * 6 + j) / z)) (fun _ => nI 0) n
theorem ho_f_0 (S : hs_S) (g : Nat) (q z : Int32) : ho_f S g q z 0 = fun _ => nI 0 := rfl
theorem ho_f_s (S : hs_S) (g : Nat) (q z : Int32) (n : Nat) : ho_f S g q z (n + 1) = upd (ho_f S g q z n) n (q * S.1 27 (g * 6 + n) / z) := rfl
def ho_l (S : hs_S) (g : Nat) (q z : Int32) (n : Nat) : Int32 := cx_it (fun j l => l - q * S.1 27 (g * 6 + j) / z) q n
theorem ho_l_0 (S : hs_S) (g : Nat) (q z : Int32) : ho_l S g q z 0 = q := rfl
theorem ho_l_s (S : hs_S) (g : Nat) (q z : Int32) (n : Nat) : ho_l S g q z (n + 1) = ho_l S g q z n - q * S.1 27 (g * 6 + n) / z := rfl
def ho_st (S : hs_S) (g : Nat) (q z : Int32) (p : (Nat → Int32) × (Nat → Int32)) : (Nat → Int32) × (Nat → Int32) := match ho_b S g q z p.2 6 with
  | none => p
  | some b => (upd p.1 b (p.1 b + nI 1), upd p.2 b (nI 1))
theorem ho_st_e {S : hs_S} {g b : Nat} {q z : Int32} {p : (Nat → Int32) × (Nat → Int32)} (h : ho_b S g q z p.2 6 = some b) : ho_st S g q z p = (upd p.1 b (p.1 b + nI 1), upd p.2 b (nI 1)) := by
  unfold ho_st
  simp only [h]
def ho_k (S : hs_S) (g : Nat) (q z : Int32) (k : Nat) : (Nat → Int32) × (Nat → Int32) := cx_it (fun _ p => ho_st S g q z p) (ho_f S g q z 6, fun _ => nI 0) k
theorem ho_k_0 (S : hs_S) (g : Nat) (q z : Int32) : ho_k S g q z 0 = (ho_f S g q z 6, fun _ => nI 0) := rfl
theorem ho_k_s (S : hs_S) (g : Nat) (q z : Int32) (k : Nat) : ho_k S g q z (k + 1) = ho_st S g q z (ho_k S g q z k) := rfl
def ho_c (a : Nat) (f : Nat → Int32) (S : hs_S) (n : Nat) : hs_S := cx_it (fun j S => hs_su S 19 (a * 6 + j) (S.1 19 (a * 6 + j) + (if j = a then nI 0 else f j))) S n
theorem ho_c_0 (a : Nat) (f : Nat → Int32) (S : hs_S) : ho_c a f S 0 = S := rfl
theorem ho_c_s (a : Nat) (f : Nat → Int32) (S : hs_S) (n : Nat) : ho_c a f S (n + 1) = hs_su (ho_c a f S n) 19 (a * 6 + n) ((ho_c a f S n).1 19 (a * 6 + n) + (if n = a then nI 0 else f n)) := rfl
def ho_e (S : hs_S) (v0 v2 : Int32) : (Nat → Int32) × (Nat → Int32) := ho_k S (vN v0) v2 (cs_va S (vN v0) 6) (vN (ho_l S (vN v0) v2 (cs_va S (vN v0) 6) 6))
def hs_tho (S : hs_S) (v0 v1 v2 : Int32) : hs_S := ho_c (vN v1) (ho_e S v0 v2).1 S 6
def hs_thr (S : hs_S) (v0 v1 v2 : Int32) : Int32 := (ho_e S v0 v2).1 (vN v1)
section TO
variable {X : Nat → Nat} {S S' T : hs_S} {t : Nat → Int32} {g q s n c nc nb i B : Nat}
theorem ho_r_n (h : hX S g X) (hq : q ≤ 99) (hs : s < 2 ^ 31) {j : Nat} (hj : j < 6) : ho_r S g (nI q) (nI s) j = nI (q * X j % s) := by
  obtain ⟨x1, x2⟩ := h j hj
  have hm : q * X j ≤ 99 * 50688 := Nat.mul_le_mul hq x2
  unfold ho_r
  rw [x1, cx_nmul, nI_mod (by omega) hs]
theorem ho_l_n (h : hX S g X) (hq : q ≤ 99) (hs : s = ho_S X 6) (h0 : 1 ≤ s) (n : Nat) (hn : n ≤ 6) : ho_l S g (nI q) (nI s) n = nI (q - ho_S (fun j => q * X j / s) n) := by
  have hs6 : s ≤ 6 * 50688 := by rw [hs]; exact ho_S_le (fun j hj => (h j hj).2)
  induction n with
  | zero => rw [ho_l_0, ho_S_0]; rfl
  | succ n ih =>
    obtain ⟨x1, x2⟩ := h n (by omega)
    have hm : q * X n ≤ 99 * 50688 := Nat.mul_le_mul hq x2
    have hle : ho_S (fun j => q * X j / s) (n + 1) ≤ q := by
      have e : ∀ d, (n + 1) + d ≤ 6 → ho_S (fun j => q * X j / s) (n + 1) ≤ ho_S (fun j => q * X j / s) ((n + 1) + d) := by
        intro d
        induction d with
        | zero => intro _; exact Nat.le_refl _
        | succ d i => intro hd; rw [← Nat.add_assoc, ho_S_s (n := n + 1 + d)]; exact Nat.le_trans (i (by omega)) (Nat.le_add_right _ _)
      have e6 := e (6 - (n + 1)) (by omega)
      rw [show (n + 1) + (6 - (n + 1)) = 6 by omega] at e6
      exact Nat.le_trans e6 (p1_L hs h0).1
    rw [ho_S_s] at hle ⊢
    rw [ho_l_s, ih (by omega), x1, cx_nmul, nI_div (by omega) (by omega), pk_sub (by omega)]
    congr 1
    omega
theorem ho_f_n (h : hX S g X) (hq : q ≤ 99) (hs : s < 2 ^ 31) (n : Nat) (hn : n ≤ 6) : ∀ j, j < n → ho_f S g (nI q) (nI s) n j = nI (q * X j / s) := by
  induction n with
  | zero => intro j hj; omega
  | succ n ih =>
    intro j hj
    obtain ⟨x1, x2⟩ := h n (by omega)
    have hm : q * X n ≤ 99 * 50688 := Nat.mul_le_mul hq x2
    rw [ho_f_s, x1, cx_nmul, nI_div (by omega) hs]
    by_cases e : j = n
    · subst e; exact if_pos rfl
    · rw [pk_un e]; exact ih (by omega) j (by omega)
theorem ho_b_p (h : hX S g X) (hq : q ≤ 99) (h0 : 1 ≤ s) (hs : s < 2 ^ 31) (n : Nat) (hn : n ≤ 6) : (ho_b S g (nI q) (nI s) t n = none → ∀ j, j < n → ¬ (t j = nI 0 ∧ 0 < X j)) ∧ ∀ b, ho_b S g (nI q) (nI s) t n = some b → b < n ∧ (t b = nI 0 ∧ 0 < X b) ∧ (∀ j, j < n → t j = nI 0 ∧ 0 < X j → q * X j % s ≤ q * X b % s) ∧ ∀ j, j < b → t j = nI 0 ∧ 0 < X j → q * X j % s < q * X b % s := by
  induction n with
  | zero => rw [ho_b_0]; exact ⟨fun _ j hj => absurd hj (Nat.not_lt_zero j), fun b hb => by cases hb⟩
  | succ n ih =>
    obtain ⟨i1, i2⟩ := ih (by omega)
    obtain ⟨x1, x2⟩ := h n (by omega)
    have hrn : q * X n % s < s := Nat.mod_lt _ h0
    rw [ho_b_s]
    unfold ho_bs
    rw [x1]
    generalize ho_b S g (nI q) (nI s) t n = o at i1 i2
    by_cases e : nI (X n) ≤ nI 0
    · have e0 : X n ≤ 0 := (nI_leI (by omega) (by omega)).mp e
      rw [if_pos e]
      refine ⟨fun z j hj p => ?_, fun b hb => ?_⟩
      · by_cases w : j = n
        · rw [w] at p; omega
        · exact i1 z j (by omega) p
      · obtain ⟨b1, b2, b3, b4⟩ := i2 b hb
        refine ⟨by omega, b2, fun j hj p => ?_, b4⟩
        by_cases w : j = n
        · rw [w] at p; omega
        · exact b3 j (by omega) p
    · have e0 : 0 < X n := by
        rcases Nat.eq_zero_or_pos (X n) with w | w
        · rw [w] at e; exact absurd (Int32.le_refl _) e
        · exact w
      rw [if_neg e]
      by_cases e1 : t n = nI 0
      · rw [if_pos e1]
        cases o with
        | none =>
          refine ⟨fun z => (by cases z), fun b hb => ?_⟩
          cases hb
          refine ⟨by omega, ⟨e1, e0⟩, fun j hj p => ?_, fun j hj p => absurd p (i1 rfl j hj)⟩
          by_cases w : j = n
          · rw [w]; exact Nat.le_refl _
          · exact absurd p (i1 rfl j (by omega))
        | some k =>
          obtain ⟨b1, b2, b3, b4⟩ := i2 k rfl
          have hrk : q * X k % s < s := Nat.mod_lt _ h0
          refine ⟨fun z => ?_, fun b hb => ?_⟩
          · simp only [] at z
            split at z <;> cases z
          · simp only [] at hb
            rw [ho_r_n h hq hs (by omega), ho_r_n h hq hs (by omega)] at hb
            by_cases w : nI (q * X n % s) ≤ nI (q * X k % s)
            · rw [if_pos w] at hb
              cases hb
              have w2 := (nI_leI (by omega) (by omega)).mp w
              refine ⟨by omega, b2, fun j hj p => ?_, b4⟩
              by_cases w3 : j = n
              · rw [w3]; exact w2
              · exact b3 j (by omega) p
            · rw [if_neg w] at hb
              cases hb
              have w2 : q * X k % s < q * X n % s := by
                have := mt (nI_leI (a := q * X n % s) (b := q * X k % s) (by omega) (by omega)).mpr w
                omega
              refine ⟨by omega, ⟨e1, e0⟩, fun j hj p => ?_, fun j hj p => ?_⟩
              · by_cases w3 : j = n
                · rw [w3]; exact Nat.le_refl _
                · have := b3 j (by omega) p; omega
              · have := b3 j hj p; omega
      · rw [if_neg e1]
        refine ⟨fun z j hj p => ?_, fun b hb => ?_⟩
        · by_cases w : j = n
          · rw [w] at p; exact e1 p.1
          · exact i1 z j (by omega) p
        · obtain ⟨b1, b2, b3, b4⟩ := i2 b hb
          refine ⟨by omega, b2, fun j hj p => ?_, b4⟩
          by_cases w : j = n
          · rw [w] at p; exact absurd p.1 e1
          · exact b3 j (by omega) p
theorem cs_gr_0 : cs_gr T 0 = 0 := rfl
theorem gr_p (n : Nat) : (∀ j, j ≤ n → (T.1 29 j).toInt ≤ (T.1 29 (cs_gr T n)).toInt) ∧ ∀ j, j < cs_gr T n → (T.1 29 j).toInt < (T.1 29 (cs_gr T n)).toInt := by
  induction n with
  | zero => rw [cs_gr_0]; exact ⟨fun j hj => by rw [show j = 0 by omega]; exact Int.le_refl _, fun j hj => absurd hj (Nat.not_lt_zero j)⟩
  | succ n ih =>
    obtain ⟨i1, i2⟩ := ih
    have hle := cs_gr_le T n
    rw [cs_gr_s]
    by_cases e : T.1 29 (n + 1) ≤ T.1 29 (cs_gr T n)
    · rw [if_pos e]
      have e2 := Int32.le_iff_toInt_le.mp e
      refine ⟨fun j hj => ?_, i2⟩
      by_cases w : j = n + 1
      · rw [w]; exact e2
      · exact i1 j (by omega)
    · rw [if_neg e]
      have e2 : (T.1 29 (cs_gr T n)).toInt < (T.1 29 (n + 1)).toInt := by
        have := mt Int32.le_iff_toInt_le.mpr e
        omega
      refine ⟨fun j hj => ?_, fun j hj => ?_⟩
      · by_cases w : j = n + 1
        · rw [w]; exact Int.le_refl _
        · have := i1 j (by omega); omega
      · have := i1 j (by omega); omega
theorem pick_eq (h : hX S g X) (hq : q ≤ 99) (h0 : 1 ≤ s) (hs : s < 2 ^ 31) (E : ∀ j, j < 6 → T.1 29 j = if t j = nI 0 then nI (q * X j % s) else -1) (hp : ∃ j, j < 6 ∧ t j = nI 0 ∧ 0 < q * X j % s) : ho_b S g (nI q) (nI s) t 6 = some (cs_gr T 5) ∧ t (cs_gr T 5) = nI 0 ∧ 0 < X (cs_gr T 5) ∧ cs_gr T 5 < 6 := by
  have V : ∀ j, j < 6 → (T.1 29 j).toInt = if t j = nI 0 then ((q * X j % s : Nat) : Int) else -1 := fun j hj => by
    have := Nat.mod_lt (q * X j) h0
    rw [E j hj]
    split
    · exact nI_toInt (by omega)
    · rfl
  obtain ⟨g1, g2⟩ := gr_p (T := T) 5
  have gl := cs_gr_le T 5
  obtain ⟨j0, j1, j2, j3⟩ := hp
  generalize cs_gr T 5 = b at g1 g2 gl
  have k0 := g1 j0 (by omega)
  rw [V j0 j1, if_pos j2, V b (by omega)] at k0
  have tb : t b = nI 0 := by
    by_cases e : t b = nI 0
    · exact e
    · rw [if_neg e] at k0; omega
  rw [if_pos tb] at k0
  have xb : 0 < X b := by
    rcases Nat.eq_zero_or_pos (X b) with e | e
    · rw [e, Nat.mul_zero, Nat.zero_mod] at k0; omega
    · exact e
  refine ⟨?_, tb, xb, by omega⟩
  obtain ⟨p1, p2⟩ := ho_b_p (t := t) h hq h0 hs 6 (Nat.le_refl _)
  cases ho : ho_b S g (nI q) (nI s) t 6 with
  | none => exact absurd ⟨tb, xb⟩ (p1 ho b (by omega))
  | some b2 =>
    obtain ⟨m1, m2, m3, m4⟩ := p2 b2 ho
    have n1 := m3 b (by omega) ⟨tb, xb⟩
    have n2 := g1 b2 (by omega)
    rw [V b2 m1, if_pos m2.1, V b (by omega), if_pos tb] at n2
    congr 1
    rcases Nat.lt_trichotomy b b2 with e | e | e
    · have := m4 b e ⟨tb, xb⟩; omega
    · exact e.symm
    · have n3 := g2 b2 e
      rw [V b2 m1, if_pos m2.1, V b (by omega), if_pos tb] at n3
      omega
theorem ho_S_mark {R : Nat → Nat} {b : Nat} (ht : t b = nI 0) (n : Nat) : ho_S (fun j => if upd t b (nI 1) j = nI 0 then R j else 0) n + (if b < n then R b else 0) = ho_S (fun j => if t j = nI 0 then R j else 0) n := by
  induction n with
  | zero => rw [ho_S_0, ho_S_0, if_neg (Nat.not_lt_zero b)]
  | succ n ih =>
    rw [ho_S_s, ho_S_s]
    by_cases e : n = b
    · subst e
      rw [if_neg (Nat.lt_irrefl n)] at ih
      rw [if_pos (Nat.lt_succ_self n), if_pos ht, show upd t n (nI 1) n = nI 1 from if_pos rfl, if_neg (by decide)]
      omega
    · rw [pk_un e]
      by_cases w : b < n
      · rw [if_pos w] at ih
        rw [if_pos (show b < n + 1 by omega)]
        omega
      · rw [if_neg w] at ih
        rw [if_neg (show ¬ b < n + 1 by omega)]
        omega
end TO

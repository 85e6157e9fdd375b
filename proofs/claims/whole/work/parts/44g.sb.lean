-- A LOSS IS PARTED
def ho_S (X : Nat → Nat) (n : Nat) : Nat := cx_it (fun j s => s + X j) 0 n
theorem ho_S_0 (X : Nat → Nat) : ho_S X 0 = 0 := rfl
theorem ho_S_s (X : Nat → Nat) (n : Nat) : ho_S X (n + 1) = ho_S X n + X n := rfl
section TN
variable {X : Nat → Nat} {S S' T : hs_S} {g q s n c nc nb i B : Nat}
theorem ho_S_le (h : ∀ j, j < n → X j ≤ B) : ho_S X n ≤ n * B := by
  induction n with
  | zero => rw [ho_S_0]; omega
  | succ n ih =>
    have := ih (fun j hj => h j (by omega))
    have := h n (by omega)
    rw [ho_S_s, Nat.succ_mul]
    omega
theorem ho_S_ge {j : Nat} (h : j < n) : X j ≤ ho_S X n := by
  induction n with
  | zero => omega
  | succ n ih =>
    rw [ho_S_s]
    by_cases e : j = n
    · rw [e]; omega
    · have := ih (by omega); omega
theorem ho_S_dm (n : Nat) : ho_S (fun j => q * X j / s) n * s + ho_S (fun j => q * X j % s) n = q * ho_S X n := by
  induction n with
  | zero => rw [ho_S_0, ho_S_0, ho_S_0]; omega
  | succ n ih =>
    rw [ho_S_s, ho_S_s, ho_S_s, Nat.add_mul, Nat.mul_add]
    have := Nat.div_add_mod' (q * X n) s
    omega
theorem ho_S_pos : ∀ {n : Nat}, 0 < ho_S X n → ∃ j, j < n ∧ 0 < X j := by
  intro n
  induction n with
  | zero => intro h; rw [ho_S_0] at h; omega
  | succ n ih =>
    intro h
    rw [ho_S_s] at h
    by_cases e : 0 < X n
    · exact ⟨n, by omega, e⟩
    · obtain ⟨j, h1, h2⟩ := ih (by omega)
      exact ⟨j, by omega, h2⟩
theorem nI_mod {x z : Nat} (hx : x < 2 ^ 31) (hz : z < 2 ^ 31) : nI x % nI z = nI (x % z) := by
  have h1 : x % z < 2 ^ 31 := Nat.lt_of_le_of_lt (Nat.mod_le x z) hx
  apply Int32.toInt.inj
  rw [Int32.toInt_mod, nI_toInt hx, nI_toInt hz, nI_toInt h1, ← Int.ofNat_tmod]
-- the shares of a voyage
def hX (S : hs_S) (g : Nat) (X : Nat → Nat) : Prop := ∀ j, j < 6 → S.1 27 (g * 6 + j) = nI (X j) ∧ X j ≤ 50688
theorem cs_va_0 : cs_va S g 0 = nI 0 := rfl
theorem va_n (h : hX S g X) (n : Nat) (hn : n ≤ 6) : cs_va S g n = nI (ho_S X n) := by
  induction n with
  | zero => rw [cs_va_0, ho_S_0]
  | succ n ih => rw [cs_va_s, ho_S_s, ih (by omega), (h n (by omega)).1, nI_add]
theorem cs_p1_0 {v z : Int32} : cs_p1 g v z S 0 = (S, v) := rfl
theorem p1_n (h : hX S g X) (hq : q ≤ 99) (hs : s = ho_S X 6) (h0 : 1 ≤ s) (n : Nat) (hn : n ≤ 6) : (cs_p1 g (nI q) (nI s) S n).2 = nI (q - ho_S (fun j => q * X j / s) n) ∧ (∀ j, j < n → (cs_p1 g (nI q) (nI s) S n).1.1 28 j = nI (q * X j / s) ∧ (cs_p1 g (nI q) (nI s) S n).1.1 29 j = nI (q * X j % s)) ∧ (∀ r, r ≠ 28 → r ≠ 29 → (cs_p1 g (nI q) (nI s) S n).1.1 r = S.1 r) ∧ (cs_p1 g (nI q) (nI s) S n).1.2 = S.2 := by
  have hle : ∀ k, k ≤ 6 → ho_S (fun j => q * X j / s) k ≤ q := fun k hk => by
    have h1 := ho_S_dm (X := X) (q := q) (s := s) k
    have h2 : ho_S X k ≤ s := by
      have e : ∀ d, k + d ≤ 6 → ho_S X k ≤ ho_S X (k + d) := by
        intro d
        induction d with
        | zero => intro _; exact Nat.le_refl _
        | succ d i => intro hd; rw [← Nat.add_assoc, ho_S_s]; have := i (by omega); omega
      have := e (6 - k) (by omega)
      rw [show k + (6 - k) = 6 by omega] at this
      omega
    have h3 : q * ho_S X k ≤ q * s := Nat.mul_le_mul_left q h2
    exact Nat.le_of_mul_le_mul_right (c := s) (by omega) (by omega)
  have hs6 : s ≤ 6 * 50688 := by rw [hs]; exact ho_S_le (fun j hj => (h j hj).2)
  induction n with
  | zero => rw [cs_p1_0, ho_S_0]; exact ⟨rfl, fun j hj => absurd hj (Nat.not_lt_zero j), fun _ _ _ => rfl, rfl⟩
  | succ n ih =>
    obtain ⟨i1, i2, i3, i4⟩ := ih (by omega)
    have hle1 := hle (n + 1) hn
    rw [ho_S_s] at hle1
    obtain ⟨x1, x2⟩ := h n (by omega)
    have x27 : (cs_p1 g (nI q) (nI s) S n).1.1 27 (g * 6 + n) = nI (X n) := by rw [i3 27 (by decide) (by decide)]; exact x1
    have hm : q * X n ≤ 99 * 50688 := Nat.mul_le_mul hq x2
    have hd : nI q * nI (X n) / nI s = nI (q * X n / s) := by rw [cx_nmul, nI_div (by omega) (by omega)]
    have hdm := Nat.div_add_mod' (q * X n) s
    have hr : nI q * nI (X n) - nI (q * X n / s) * nI s = nI (q * X n % s) := by
      rw [cx_nmul, cx_nmul, pk_sub (by omega)]
      congr 1
      omega
    rw [cs_p1_s]
    unfold cs_p1s cs_p1b
    generalize cs_p1 g (nI q) (nI s) S n = P at i1 i2 i3 i4 x27
    rw [x27, hd, hr]
    refine ⟨?_, fun j hj => ?_, fun r h1 h2 => ?_, i4⟩
    · show P.2 - (upd (P.1.1 28) n (nI (q * X n / s))) n = _
      rw [show upd (P.1.1 28) n (nI (q * X n / s)) n = nI (q * X n / s) from if_pos rfl, i1, ho_S_s, pk_sub (by omega)]
      congr 1
      omega
    · show upd (P.1.1 28) n (nI (q * X n / s)) j = _ ∧ upd (P.1.1 29) n (nI (q * X n % s)) j = _
      by_cases e : j = n
      · subst e
        exact ⟨if_pos rfl, if_pos rfl⟩
      · rw [pk_un e, pk_un e]
        exact i2 j (by omega)
    · show (hs_su (hs_su P.1 28 n _) 29 n _).1 r = _
      rw [hs_su_ne _ _ _ h2, hs_su_ne _ _ _ h1]
      exact i3 r h1 h2
theorem p1_L (hs : s = ho_S X 6) (h0 : 1 ≤ s) : ho_S (fun j => q * X j / s) 6 ≤ q ∧ q - ho_S (fun j => q * X j / s) 6 ≤ 6 ∧ (q - ho_S (fun j => q * X j / s) 6) * s = ho_S (fun j => q * X j % s) 6 := by
  have h1 := ho_S_dm (X := X) (q := q) (s := s) 6
  rw [← hs] at h1
  have hR : ho_S (fun j => q * X j % s) 6 ≤ 6 * s := ho_S_le (fun j _ => Nat.le_of_lt (Nat.mod_lt _ (by omega)))
  generalize ho_S (fun j => q * X j % s) 6 = R at h1 hR
  generalize ho_S (fun j => q * X j / s) 6 = D at h1
  have hD : D ≤ q := Nat.le_of_mul_le_mul_right (c := s) (by omega) (by omega)
  have e : (q - D) * s = R := by rw [Nat.sub_mul]; omega
  refine ⟨hD, Nat.le_of_mul_le_mul_right (c := s) ?_ (by omega), e⟩
  omega
theorem hX_of (hj : hJ S c nc nb i) (hi : i < 512) (hg : g < 4) : hX S g (fun j => vN (S.1 27 (g * 6 + j))) := fun j hj2 => by
  obtain ⟨x, x1, x2, x3⟩ := hj.2.2.2.2.2.2 g j hg hj2
  show S.1 27 (g * 6 + j) = nI (vN (S.1 27 (g * 6 + j))) ∧ vN (S.1 27 (g * 6 + j)) ≤ 50688
  rw [x2, vN_nI (by omega)]
  exact ⟨rfl, by omega⟩
theorem cd_R_99 {v : Int32} (h : cd_R v 99 = 0) : ∃ q, 1 ≤ q ∧ q ≤ 99 ∧ v = nI q := cd_R_of (by omega) h
theorem sh_pos {a : Nat} (h : hX S g X) (ha : a < 6) (z : cd_sh S g a = 0) : 1 ≤ ho_S X 6 := by
  have h1 : 0 < X a := by
    unfold cd_sh at z
    split at z
    · cases z
    · rename_i n
      rw [(h a ha).1] at n
      rcases Nat.eq_zero_or_pos (X a) with e | e
      · rw [e] at n; exact absurd rfl n
      · exact e
  have := ho_S_ge (X := X) ha
  omega
theorem to_z {v0 v1 v2 : Int32} (hj : hJ S c nc nb i) (hi : i < 512) : cd_throwOver S c v0 v1 v2 = 0 → ¬ cs_va S (vN v0) 6 = 0 ∧ ∃ L, L ≤ 6 ∧ (cs_p1 (vN v0) v2 (cs_va S (vN v0) 6) S 6).2 = nI L := by
  intro z
  obtain ⟨z1, z⟩ := cs_sq_z.mp z
  obtain ⟨z2, z⟩ := cs_sq_z.mp z
  obtain ⟨z3, z⟩ := cs_sq_z.mp z
  obtain ⟨z4, z⟩ := cs_sq_z.mp z
  obtain ⟨z5, z6⟩ := cs_sq_z.mp z
  have hc := hj.c6.2
  obtain ⟨g, hg, rfl⟩ := cd_H_of (by omega) z1
  obtain ⟨a, ha, rfl⟩ := cd_H_of (by omega) z2
  obtain ⟨q, q1, q2, rfl⟩ := cd_R_99 z3
  have hx := hX_of hj hi hg
  rw [vN_nI (a := g) (by omega), vN_nI (a := a) (by omega)] at z6
  rw [vN_nI (a := g) (by omega)]
  have hp := sh_pos hx (by omega) z6
  have hb : ho_S (fun j => vN (S.1 27 (g * 6 + j))) 6 ≤ 6 * 50688 := ho_S_le (fun j hj => (hx j hj).2)
  rw [va_n hx 6 (Nat.le_refl _)]
  refine ⟨fun e => ?_, _, (p1_L (q := q) rfl hp).2.1, (p1_n hx q2 rfl hp 6 (Nat.le_refl _)).1⟩
  have := (nI_eq (b := 0) (by omega) (by omega)).mp e
  omega
end TN

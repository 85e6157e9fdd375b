-- NUMBERS: sums of a row
def hs_T (f : Nat → Int32) (n : Nat) : Nat := cx_it (fun j s => s + vN (f j)) 0 n
theorem hs_T_0 (f : Nat → Int32) : hs_T f 0 = 0 := rfl
theorem hs_T_s (f : Nat → Int32) (n : Nat) : hs_T f (n + 1) = hs_T f n + vN (f n) := rfl
theorem hs_T_ext {f g : Nat → Int32} {n : Nat} (h : ∀ j, j < n → f j = g j) : hs_T f n = hs_T g n := by
  induction n with
  | zero => rw [hs_T_0, hs_T_0]
  | succ n ih =>
    have h1 := ih (fun j hj => h j (by omega))
    rw [hs_T_s, hs_T_s, h1, h n (by omega)]
theorem hs_T_ge {f : Nat → Int32} {k n : Nat} {x : Int32} (h : n ≤ k) : hs_T (upd f k x) n = hs_T f n := hs_T_ext (fun j hj => pk_un (by omega))
theorem hs_T_up {f : Nat → Int32} {k : Nat} {x : Int32} : ∀ {n : Nat}, k < n → hs_T (upd f k x) n + vN (f k) = hs_T f n + vN x
  | 0, h => absurd h (by omega)
  | n + 1, h => by
    rw [hs_T_s, hs_T_s]
    by_cases e : k = n
    · subst e
      rw [hs_T_ge (Nat.le_refl _), show upd f k x k = x from if_pos rfl]
      omega
    · have ih := hs_T_up (f := f) (x := x) (k := k) (n := n) (by omega)
      rw [pk_un (by omega : n ≠ k)]
      omega
theorem hs_T_le {f : Nat → Int32} {k : Nat} : ∀ {n : Nat}, k < n → vN (f k) ≤ hs_T f n
  | 0, h => absurd h (by omega)
  | n + 1, h => by
    rw [hs_T_s]
    by_cases e : k = n
    · subst e; omega
    · have := hs_T_le (f := f) (k := k) (n := n) (by omega)
      omega
-- a row without negative ints
def hs_nn (f : Nat → Int32) (n : Nat) : Prop := ∀ k, k < n → ¬ f k < 0
theorem nn_of {x : Int32} (h : ¬ x < 0) : x = nI (vN x) ∧ vN x < 2 ^ 31 := by
  obtain ⟨a, ha, rfl⟩ := nI_of h
  rw [vN_nI ha]
  exact ⟨rfl, ha⟩
theorem hs_nn_up {f : Nat → Int32} {n k : Nat} {x : Int32} (h : hs_nn f n) (hx : ¬ x < 0) : hs_nn (upd f k x) n := fun j hj => by
  by_cases e : j = k
  · rw [show upd f k x j = x from if_pos e]; exact hx
  · rw [pk_un e]; exact h j hj
theorem nn_add {f : Nat → Int32} {n k y B : Nat} (h : hs_nn f n) (hk : k < n) (hT : hs_T f n ≤ B) (hy : y + B < 2 ^ 31) : f k + nI y = nI (vN (f k) + y) ∧ hs_nn (upd f k (f k + nI y)) n ∧ hs_T (upd f k (f k + nI y)) n = hs_T f n + y := by
  obtain ⟨h1, h2⟩ := nn_of (h k hk)
  have h3 := hs_T_le (f := f) hk
  have e : f k + nI y = nI (vN (f k) + y) := by
    rw [h1, nI_add, vN_nI h2]
  refine ⟨e, hs_nn_up h (by rw [e]; exact nI_pos (by omega)), ?_⟩
  have h4 := hs_T_up (f := f) (x := f k + nI y) hk
  rw [e, vN_nI (by omega)] at h4
  rw [e]
  omega
theorem nn_sub {f : Nat → Int32} {n k y : Nat} (h : hs_nn f n) (hk : k < n) (hy : y ≤ vN (f k)) : f k + -nI y = nI (vN (f k) - y) ∧ hs_nn (upd f k (f k + -nI y)) n ∧ hs_T (upd f k (f k + -nI y)) n + y = hs_T f n := by
  obtain ⟨h1, h2⟩ := nn_of (h k hk)
  have e : f k + -nI y = nI (vN (f k) - y) := by
    rw [← Int32.sub_eq_add_neg]
    refine (congrArg (· - nI y) h1).trans ?_
    exact pk_sub hy
  refine ⟨e, hs_nn_up h (by rw [e]; exact nI_pos (by omega)), ?_⟩
  have h4 := hs_T_up (f := f) (x := f k + -nI y) hk
  rw [e, vN_nI (by omega)] at h4
  rw [e]
  omega
theorem nn_le {f : Nat → Int32} {n k y : Nat} (h : hs_nn f n) (hk : k < n) (hy : y < 2 ^ 31) (hle : nI y ≤ f k) : y ≤ vN (f k) := by
  obtain ⟨h1, h2⟩ := nn_of (h k hk)
  rw [h1] at hle
  exact (nI_leI hy h2).mp hle
-- the weights of a metal's coins
def hs_wT (S : hs_S) (m n : Nat) : Nat := cx_it (fun j s => if S.1 13 j = nI m then s + vN (S.1 14 j) else s) 0 n
theorem hs_wT_0 (S : hs_S) (m : Nat) : hs_wT S m 0 = 0 := rfl
theorem hs_wT_s (S : hs_S) (m n : Nat) : hs_wT S m (n + 1) = if S.1 13 n = nI m then hs_wT S m n + vN (S.1 14 n) else hs_wT S m n := rfl
theorem hs_wT_ext {S S' : hs_S} {m n : Nat} (h : ∀ j, j < n → S'.1 13 j = S.1 13 j ∧ S'.1 14 j = S.1 14 j) : hs_wT S' m n = hs_wT S m n := by
  induction n with
  | zero => rw [hs_wT_0, hs_wT_0]
  | succ n ih =>
    have h1 := ih (fun j hj => h j (by omega))
    rw [hs_wT_s, hs_wT_s, h1, (h n (by omega)).1, (h n (by omega)).2]
-- the ore of a metal
def hs_oT (S : hs_S) (m : Nat) : Nat := hs_T (fun a => S.1 12 (a * 2 + m)) 6
-- WHAT ALWAYS HOLDS of the class's memory behind i calls
def jA (S : hs_S) (c : Nat) : Prop := S.1 30 0 = nI c ∧ 1 ≤ c ∧ c ≤ 6 ∧ S.1 7 0 = nI 99 ∧ S.1 8 0 = nI 1 ∧ (∀ a, S.1 8 a = nI 0 ∨ S.1 8 a = nI 1) ∧ (∀ a, ∃ k, k < 65536 ∧ S.1 7 a = nI k) ∧ (∀ a, c ≤ a → S.1 8 a = nI 0)
def jB (S : hs_S) (c nc : Nat) : Prop := S.1 31 0 = nI nc ∧ nc ≤ 90 ∧ mi_C S c nc ∧ (∀ j, nc ≤ j → S.1 16 j = 0) ∧ (∀ j, S.1 17 j = nI 0 ∨ S.1 17 j = nI 1) ∧ (∀ j, j < nc → S.1 15 j = -1 ∨ S.1 15 j = S.1 18 j)
def jM (S : hs_S) : Prop := ∀ m, m < 2 → (∃ f, f ≤ 99 ∧ S.1 9 m = nI f) ∧ ∃ x, 1 ≤ x ∧ x ≤ 9 ∧ S.1 10 m = nI x
def jO (S : hs_S) (nc i : Nat) : Prop := hs_nn (S.1 12) 12 ∧ ∀ m, m < 2 → S.1 11 m = nI (hs_oT S m + hs_wT S m nc) ∧ hs_oT S m + hs_wT S m nc ≤ 99 * i
def jC (S : hs_S) (i : Nat) : Prop := hs_nn (S.1 19) 36 ∧ hs_T (S.1 19) 36 ≤ 120000 * i ∧ (∀ a, a < 6 → S.1 19 (a * 6 + a) = nI 0) ∧ (∀ a q, a < 6 → q < 6 → S.1 8 a = nI 0 ∨ S.1 8 q = nI 0 → S.1 19 (a * 6 + q) = nI 0)
def jD (S : hs_S) (c nb i : Nat) : Prop := S.1 32 0 = nI nb ∧ nb ≤ 12 ∧ (∀ j, j < nb → S.1 24 j = -1 ∨ ∃ a, a < c ∧ S.1 24 j = nI a) ∧ (∀ j, j < nb → ∃ e, e ≤ 5 ∧ S.1 26 j = nI e ∧ ∀ q, q < 2 + e → ∃ a, a < c ∧ cs_liab S j e q = nI a) ∧ (∀ j, j < nb → ∃ x, x ≤ 9999 ∧ S.1 22 j = nI x) ∧ (∀ j, nb ≤ j → S.1 26 j = 0) ∧ ∃ d, d ≤ i ∧ S.1 33 0 = nI d ∧ ∀ j, j < nb → S.1 24 j = -1 → ∃ u, u ≤ d ∧ S.1 23 j = nI u
def jV (S : hs_S) (c i : Nat) : Prop := ∀ v a, v < 4 → a < 6 → ∃ x, x ≤ 99 * i ∧ S.1 27 (v * 6 + a) = nI x ∧ (c ≤ a → x = 0)
def hJ (S : hs_S) (c nc nb i : Nat) : Prop := jA S c ∧ jB S c nc ∧ jM S ∧ jO S nc i ∧ jC S i ∧ jD S c nb i ∧ jV S c i
theorem hJ.up {S : hs_S} {c nc nb i k : Nat} (h : hJ S c nc nb i) (hk : i ≤ k) : hJ S c nc nb k := by
  obtain ⟨h1, h2, h3, ⟨o1, o2⟩, ⟨c1, c2, c3⟩, ⟨d1, d2, d3, d4, d5, d6, d, e1, e2⟩, h7⟩ := h
  refine ⟨h1, h2, h3, ⟨o1, fun m hm => ⟨(o2 m hm).1, by have := (o2 m hm).2; omega⟩⟩, ⟨c1, by omega, c3⟩, ⟨d1, d2, d3, d4, d5, d6, d, by omega, e2⟩, fun v a hv ha => ?_⟩
  obtain ⟨x, x1, x2⟩ := h7 v a hv ha
  exact ⟨x, by omega, x2⟩
theorem nar_b {x : Int32} (h : x = nI 0 ∨ x = nI 1) : narrow .boolean (.int x) = .int x := by
  rcases h with rfl | rfl <;> rfl
theorem hJ.I {S : hs_S} {c nc nb i : Nat} (h : hJ S c nc nb i) : cx_I S c nc nb := by
  obtain ⟨⟨a1, a2, a3, a4, a5, a6, a7, a8⟩, ⟨b1, b2, b3, b4, b5, b6⟩, h3, h4, h5, ⟨d1, d2, d3, d4, d5, d6⟩, h7⟩ := h
  refine ⟨a1, a3, b1, b2, d1, d2, fun j => ?_, fun j => nar_b (a6 j), fun j => nar_b (b5 j), fun j hj => ?_, fun j hj => ?_, d3, d4⟩
  · obtain ⟨k, k1, k2⟩ := a7 j
    rw [k2]
    exact nar_ch k1
  · obtain ⟨m, x, m1, m2, m3, -⟩ := b3 j hj
    exact ⟨m, m1, m3⟩
  · obtain ⟨m, x, m1, m2, m3, m4, m5⟩ := b3 j hj
    rcases m5 with ⟨-, m5⟩ | ⟨-, a, m5, m6⟩
    · exact Or.inl m5
    · exact Or.inr ⟨a, m5, m6⟩
theorem hJ.C {S : hs_S} {c nc nb i : Nat} (h : hJ S c nc nb i) : mi_C S c nc := h.2.1.2.2.1
theorem hJ.h16 {S : hs_S} {c nc nb i : Nat} (h : hJ S c nc nb i) : ∀ j, nc ≤ j → S.1 16 j = 0 := h.2.1.2.2.2.1
theorem hJ.b17 {S : hs_S} {c nc nb i : Nat} (h : hJ S c nc nb i) : ∀ j, narrow .boolean (.int (S.1 17 j)) = .int (S.1 17 j) := fun j => nar_b (h.2.1.2.2.2.2.1 j)
theorem hJ.h26 {S : hs_S} {c nc nb i : Nat} (h : hJ S c nc nb i) : ∀ j, nb ≤ j → S.1 26 j = 0 := h.2.2.2.2.2.1.2.2.2.2.2.1
theorem hJ.h24 {S : hs_S} {c nc nb i : Nat} (h : hJ S c nc nb i) : ∀ j, j < nb → S.1 24 j = -1 ∨ ∃ a, a < c ∧ S.1 24 j = nI a := h.2.2.2.2.2.1.2.2.1
theorem hJ.hli {S : hs_S} {c nc nb i : Nat} (h : hJ S c nc nb i) : ∀ j, j < nb → ∃ e, e ≤ 5 ∧ S.1 26 j = nI e ∧ ∀ q, q < 2 + e → ∃ a, a < c ∧ cs_liab S j e q = nI a := h.2.2.2.2.2.1.2.2.2.1
theorem hJ.h70 {S : hs_S} {c nc nb i : Nat} (h : hJ S c nc nb i) : S.1 7 0 = nI 99 := h.1.2.2.2.1
theorem hJ.hdg {S : hs_S} {c nc nb i : Nat} (h : hJ S c nc nb i) : ∀ a, a < 6 → S.1 19 (a * 6 + a) = nI 0 := h.2.2.2.2.1.2.2.1
theorem hJ.hb8 {S : hs_S} {c nc nb i : Nat} (h : hJ S c nc nb i) : ∀ j, narrow .boolean (.int (S.1 8 j)) = .int (S.1 8 j) := fun j => nar_b (h.1.2.2.2.2.2.1 j)
theorem hJ.F {S : hs_S} {c nc nb i : Nat} (h : hJ S c nc nb i) : ∀ m, m < 2 → ∃ x : Nat, 1 ≤ x ∧ x ≤ 9 ∧ S.1 10 m = nI x := fun m hm => (h.2.2.1 m hm).2
theorem hJ.hov {S : hs_S} {c nc nb i : Nat} (h : hJ S c nc nb i) (hi : i < 512) : ∀ j, j < nb → S.1 24 j = -1 → ¬ S.1 23 j = S.1 33 0 + nI 1 := fun j hj hz e => by
  obtain ⟨d, e1, e2, e3⟩ := h.2.2.2.2.2.1.2.2.2.2.2.2
  obtain ⟨u, u1, u2⟩ := e3 j hj hz
  rw [u2, e2, nI_add] at e
  have := (nI_eq (by omega) (by omega)).mp e
  omega
theorem hJ.c6 {S : hs_S} {c nc nb i : Nat} (h : hJ S c nc nb i) : 1 ≤ c ∧ c ≤ 6 := ⟨h.1.2.1, h.1.2.2.1⟩

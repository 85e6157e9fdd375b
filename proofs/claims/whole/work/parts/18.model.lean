-- THE REFERENCE'S WORLD: a picture of the same memory S. M: what only the reference has: ints (0 thrown, 10 + l the modCount of list l, 100 + j the holder of a bill that is over), the lists' rows, their lengths, and whether a list has a row yet
abbrev hm_M : Type := (Nat → Int32) × (Nat → Nat → Option Nat) × (Nat → Nat) × (Nat → Bool)
def hm_n (S : hs_S) (i : Nat) : Nat := if i = 0 then vN (S.1 30 0) else (if i = 1 then vN (S.1 31 0) else (if i = 2 then vN (S.1 32 0) else vN (S.1 26 (i - 3))))
def hm_D (S : hs_S) (M : hm_M) (i : Nat) : Prop := i < 22 ∨ (30 ≤ i ∧ i < 33 + vN (S.1 32 0)) ∨ (50 ≤ i ∧ i < 53 + vN (S.1 32 0) ∧ M.2.2.2 (i - 50) = true) ∨ (100 ≤ i ∧ i < 100 + vN (S.1 31 0)) ∨ (200 ≤ i ∧ i < 200 + vN (S.1 32 0))
def hm_tr (n : Nat) (f : Nat → Int32) : Nat → Int32 := fun j => if j < n then f j else 0
def hm_rf (n b : Nat) (A : Nat → Nat) : Nat → Option Nat := fun j => if j < n then some (A (b + j)) else none
def hm_ls (G : hk_G) (S : hs_S) (M : hm_M) (A : Nat → Nat) (i : Nat) : hk_E := .inr (6, [.int (M.1 (10 + i)), .ref (if M.2.2.2 i = true then A (50 + i) else hk_K G 1001), .int (nI (hm_n S i))])
def hm_co (S : hs_S) (j : Nat) : hk_E := .inr (15, [.int (nI j), .int (S.1 13 j), .int (S.1 14 j), .int (S.1 15 j), .int (S.1 16 j), .int (S.1 17 j)])
def hm_bi (S : hs_S) (M : hm_M) (A : Nat → Nat) (j : Nat) : hk_E := .inr (14, [.int (S.1 20 j), .int (S.1 21 j), .int (S.1 22 j), .int (S.1 23 j), .ref (A (33 + j)), .int (if S.1 24 j = -1 then M.1 (100 + j) else S.1 24 j), .int (if S.1 24 j = -1 then nI 1 else nI 0)])
def hm_E (G : hk_G) (S : hs_S) (M : hm_M) (A : Nat → Nat) (i : Nat) : hk_E :=
  if i < 22 then (
    if i = 0 then .inr (16, [.int (M.1 0), .ref (A 30), .ref (A 1), .ref (A 2), .ref (A 3), .ref (A 31), .ref (A 10), .long S.2, .ref (A 32), .int (S.1 33 0), .ref (A 17)])
    else if i = 1 then .inl (0, 2, .inl (S.1 9)) else if i = 2 then .inl (0, 2, .inl (S.1 10))
    else if i = 3 then .inl (6, 6, .inr (.inr (.inr (.inr (hm_rf 6 4 A))))) else if i < 10 then .inl (0, 2, .inl (hm_tr 2 (fun j => S.1 12 ((i - 4) * 2 + j))))
    else if i = 10 then .inl (6, 6, .inr (.inr (.inr (.inr (hm_rf 6 11 A))))) else if i < 17 then .inl (0, 6, .inl (hm_tr 6 (fun j => S.1 19 ((i - 11) * 6 + j))))
    else if i = 17 then .inl (6, 4, .inr (.inr (.inr (.inr (hm_rf 4 18 A))))) else .inl (0, 6, .inl (hm_tr 6 (fun j => S.1 27 ((i - 18) * 6 + j)))))
  else if i < 50 then hm_ls G S M A (i - 30)
  else if i < 100 then .inl (5, M.2.2.1 (i - 50), .inr (.inr (.inr (.inr (M.2.1 (i - 50))))))
  else if i < 200 then hm_co S (i - 100) else hm_bi S M A (i - 200)
noncomputable def hm_h (G : hk_G) (S : hs_S) (M : hm_M) (A : Nat → Nat) (g : hk_H) : hk_H := ha (hm_D S M) A (hm_E G S M A) g
-- a house's kind as the reference has it
def hm_k (S : hs_S) (a : Nat) : Nat := if S.1 8 a = 0 then 120 else vN (S.1 7 a)
def hm_ok (G : hk_G) (S : hs_S) (M : hm_M) (A : Nat → Nat) (c nc nb : Nat) : Prop :=
  (S.1 30 0 = nI c ∧ 1 ≤ c ∧ c ≤ 6) ∧ (S.1 31 0 = nI nc ∧ nc ≤ 90) ∧ (S.1 32 0 = nI nb ∧ nb ≤ 12) ∧
  (∀ i, M.2.2.2 i = true → hm_n S i ≤ M.2.2.1 i ∧ 1 ≤ M.2.2.1 i ∧ M.2.2.1 i ≤ 150) ∧
  (M.2.2.2 0 = true ∧ ∀ a, a < c → M.2.1 0 a = some (hk_K G (2000 + hm_k S a)) ∧ ∃ k, k < 128 ∧ k ≠ 120 ∧ S.1 7 a = nI k ∧ (S.1 8 a = 0 → k = 98)) ∧
  ((M.2.2.2 1 = true ∨ nc = 0) ∧ ∀ j, j < nc → M.2.1 1 j = some (A (100 + j))) ∧
  ((M.2.2.2 2 = true ∨ nb = 0) ∧ ∀ j, j < nb → M.2.1 2 j = some (A (200 + j))) ∧
  (∀ j, j < nb → ∃ e, e ≤ 5 ∧ S.1 26 j = nI e ∧ ((M.2.2.2 (3 + j) = true ∧ M.2.2.1 (3 + j) = 10 ∧ 1 ≤ e) ∨ (e = 0 ∧ M.2.2.2 (3 + j) = false)) ∧ ∀ q, q < e → ∃ a, a < 6 ∧ S.1 25 (j * 5 + (e - 1 - q)) = nI a ∧ M.2.1 (3 + j) q = some (hk_K G (3000 + (a + 128))))
def hm_x (g g' : hk_H) : Prop := ∀ (q : Nat) (x : hk_E), g q = some x → g' q = some x
theorem hm_x.rf {g : hk_H} : hm_x g g := fun _ _ h => h
theorem hm_x.tr {g g' g'' : hk_H} (h1 : hm_x g g') (h2 : hm_x g' g'') : hm_x g g'' := fun q x h => h2 q x (h1 q x h)
theorem hm_x.nw {g : hk_H} {q : Nat} {x : hk_E} (h : g q = none) : hm_x g (hk_set g q x) := fun p y hp => by
  by_cases e : p = q
  · subst e; rw [h] at hp; cases hp
  · rw [hk_set_ne e]; exact hp
-- reading
section HM
variable {G : hk_G} {S : hs_S} {M : hm_M} {A : Nat → Nat} {g : hk_H}
theorem hm_e0  : hm_E G S M A (0) = .inr (16, [.int (M.1 0), .ref (A 30), .ref (A 1), .ref (A 2), .ref (A 3), .ref (A 31), .ref (A 10), .long S.2, .ref (A 32), .int (S.1 33 0), .ref (A 17)]) := by
  unfold hm_E
  rw [if_pos (by omega), if_pos rfl]
theorem hm_d0  : hm_D S M (0) := Or.inl (by omega)
theorem hm_g0 (hk : ha_ok (hm_D S M) A g) : hm_h G S M A g (A (0)) = some (.inr (16, [.int (M.1 0), .ref (A 30), .ref (A 1), .ref (A 2), .ref (A 3), .ref (A 31), .ref (A 10), .long S.2, .ref (A 32), .int (S.1 33 0), .ref (A 17)])) := by
  unfold hm_h
  rw [ha_get hk.1 (show hm_D S M (0) from Or.inl (by omega))]
  refine congrArg some ?_
  unfold hm_E
  rw [if_pos (by omega), if_pos rfl]
theorem hm_e1  : hm_E G S M A (1) = .inl (0, 2, .inl (S.1 9)) := by
  unfold hm_E
  rw [if_pos (by omega), if_neg (by omega), if_pos rfl]
theorem hm_d1  : hm_D S M (1) := Or.inl (by omega)
theorem hm_g1 (hk : ha_ok (hm_D S M) A g) : hm_h G S M A g (A (1)) = some (.inl (0, 2, .inl (S.1 9))) := by
  unfold hm_h
  rw [ha_get hk.1 (show hm_D S M (1) from Or.inl (by omega))]
  refine congrArg some ?_
  unfold hm_E
  rw [if_pos (by omega), if_neg (by omega), if_pos rfl]
theorem hm_e2  : hm_E G S M A (2) = .inl (0, 2, .inl (S.1 10)) := by
  unfold hm_E
  rw [if_pos (by omega), if_neg (by omega), if_neg (by omega), if_pos rfl]
theorem hm_d2  : hm_D S M (2) := Or.inl (by omega)
theorem hm_g2 (hk : ha_ok (hm_D S M) A g) : hm_h G S M A g (A (2)) = some (.inl (0, 2, .inl (S.1 10))) := by
  unfold hm_h
  rw [ha_get hk.1 (show hm_D S M (2) from Or.inl (by omega))]
  refine congrArg some ?_
  unfold hm_E
  rw [if_pos (by omega), if_neg (by omega), if_neg (by omega), if_pos rfl]
theorem hm_e3  : hm_E G S M A (3) = .inl (6, 6, .inr (.inr (.inr (.inr (hm_rf 6 4 A))))) := by
  unfold hm_E
  rw [if_pos (by omega), if_neg (by omega), if_neg (by omega), if_neg (by omega), if_pos rfl]
theorem hm_d3  : hm_D S M (3) := Or.inl (by omega)
theorem hm_g3 (hk : ha_ok (hm_D S M) A g) : hm_h G S M A g (A (3)) = some (.inl (6, 6, .inr (.inr (.inr (.inr (hm_rf 6 4 A)))))) := by
  unfold hm_h
  rw [ha_get hk.1 (show hm_D S M (3) from Or.inl (by omega))]
  refine congrArg some ?_
  unfold hm_E
  rw [if_pos (by omega), if_neg (by omega), if_neg (by omega), if_neg (by omega), if_pos rfl]
theorem hm_e4 {a : Nat}  (ha : a < 6) : hm_E G S M A (4 + a) = .inl (0, 2, .inl (hm_tr 2 (fun j => S.1 12 (a * 2 + j)))) := by
  unfold hm_E
  rw [if_pos (by omega), if_neg (by omega), if_neg (by omega), if_neg (by omega), if_neg (by omega), if_pos (by omega), show 4 + a - 4 = a by omega]
theorem hm_d4 {a : Nat}  (ha : a < 6) : hm_D S M (4 + a) := Or.inl (by omega)
theorem hm_g4 {a : Nat} (hk : ha_ok (hm_D S M) A g) (ha : a < 6) : hm_h G S M A g (A (4 + a)) = some (.inl (0, 2, .inl (hm_tr 2 (fun j => S.1 12 (a * 2 + j))))) := by
  unfold hm_h
  rw [ha_get hk.1 (show hm_D S M (4 + a) from Or.inl (by omega))]
  refine congrArg some ?_
  unfold hm_E
  rw [if_pos (by omega), if_neg (by omega), if_neg (by omega), if_neg (by omega), if_neg (by omega), if_pos (by omega), show 4 + a - 4 = a by omega]
theorem hm_e10  : hm_E G S M A (10) = .inl (6, 6, .inr (.inr (.inr (.inr (hm_rf 6 11 A))))) := by
  unfold hm_E
  rw [if_pos (by omega), if_neg (by omega), if_neg (by omega), if_neg (by omega), if_neg (by omega), if_neg (by omega), if_pos rfl]
theorem hm_d10  : hm_D S M (10) := Or.inl (by omega)
theorem hm_g10 (hk : ha_ok (hm_D S M) A g) : hm_h G S M A g (A (10)) = some (.inl (6, 6, .inr (.inr (.inr (.inr (hm_rf 6 11 A)))))) := by
  unfold hm_h
  rw [ha_get hk.1 (show hm_D S M (10) from Or.inl (by omega))]
  refine congrArg some ?_
  unfold hm_E
  rw [if_pos (by omega), if_neg (by omega), if_neg (by omega), if_neg (by omega), if_neg (by omega), if_neg (by omega), if_pos rfl]
theorem hm_e11 {a : Nat}  (ha : a < 6) : hm_E G S M A (11 + a) = .inl (0, 6, .inl (hm_tr 6 (fun j => S.1 19 (a * 6 + j)))) := by
  unfold hm_E
  rw [if_pos (by omega), if_neg (by omega), if_neg (by omega), if_neg (by omega), if_neg (by omega), if_neg (by omega), if_neg (by omega), if_pos (by omega), show 11 + a - 11 = a by omega]
theorem hm_d11 {a : Nat}  (ha : a < 6) : hm_D S M (11 + a) := Or.inl (by omega)
theorem hm_g11 {a : Nat} (hk : ha_ok (hm_D S M) A g) (ha : a < 6) : hm_h G S M A g (A (11 + a)) = some (.inl (0, 6, .inl (hm_tr 6 (fun j => S.1 19 (a * 6 + j))))) := by
  unfold hm_h
  rw [ha_get hk.1 (show hm_D S M (11 + a) from Or.inl (by omega))]
  refine congrArg some ?_
  unfold hm_E
  rw [if_pos (by omega), if_neg (by omega), if_neg (by omega), if_neg (by omega), if_neg (by omega), if_neg (by omega), if_neg (by omega), if_pos (by omega), show 11 + a - 11 = a by omega]
theorem hm_e17  : hm_E G S M A (17) = .inl (6, 4, .inr (.inr (.inr (.inr (hm_rf 4 18 A))))) := by
  unfold hm_E
  rw [if_pos (by omega), if_neg (by omega), if_neg (by omega), if_neg (by omega), if_neg (by omega), if_neg (by omega), if_neg (by omega), if_neg (by omega), if_pos rfl]
theorem hm_d17  : hm_D S M (17) := Or.inl (by omega)
theorem hm_g17 (hk : ha_ok (hm_D S M) A g) : hm_h G S M A g (A (17)) = some (.inl (6, 4, .inr (.inr (.inr (.inr (hm_rf 4 18 A)))))) := by
  unfold hm_h
  rw [ha_get hk.1 (show hm_D S M (17) from Or.inl (by omega))]
  refine congrArg some ?_
  unfold hm_E
  rw [if_pos (by omega), if_neg (by omega), if_neg (by omega), if_neg (by omega), if_neg (by omega), if_neg (by omega), if_neg (by omega), if_neg (by omega), if_pos rfl]
theorem hm_e18 {a : Nat}  (ha : a < 4) : hm_E G S M A (18 + a) = .inl (0, 6, .inl (hm_tr 6 (fun j => S.1 27 (a * 6 + j)))) := by
  unfold hm_E
  rw [if_pos (by omega), if_neg (by omega), if_neg (by omega), if_neg (by omega), if_neg (by omega), if_neg (by omega), if_neg (by omega), if_neg (by omega), if_neg (by omega), show 18 + a - 18 = a by omega]
theorem hm_d18 {a : Nat}  (ha : a < 4) : hm_D S M (18 + a) := Or.inl (by omega)
theorem hm_g18 {a : Nat} (hk : ha_ok (hm_D S M) A g) (ha : a < 4) : hm_h G S M A g (A (18 + a)) = some (.inl (0, 6, .inl (hm_tr 6 (fun j => S.1 27 (a * 6 + j))))) := by
  unfold hm_h
  rw [ha_get hk.1 (show hm_D S M (18 + a) from Or.inl (by omega))]
  refine congrArg some ?_
  unfold hm_E
  rw [if_pos (by omega), if_neg (by omega), if_neg (by omega), if_neg (by omega), if_neg (by omega), if_neg (by omega), if_neg (by omega), if_neg (by omega), if_neg (by omega), show 18 + a - 18 = a by omega]
theorem hm_e30 {i : Nat}  (hi : i < 3 + vN (S.1 32 0)) (hb : vN (S.1 32 0) ≤ 12) : hm_E G S M A (30 + i) = hm_ls G S M A i := by
  unfold hm_E
  rw [if_neg (by omega), if_pos (by omega), show 30 + i - 30 = i by omega]
theorem hm_d30 {i : Nat}  (hi : i < 3 + vN (S.1 32 0)) (hb : vN (S.1 32 0) ≤ 12) : hm_D S M (30 + i) := Or.inr (Or.inl ⟨by omega, by omega⟩)
theorem hm_g30 {i : Nat} (hk : ha_ok (hm_D S M) A g) (hi : i < 3 + vN (S.1 32 0)) (hb : vN (S.1 32 0) ≤ 12) : hm_h G S M A g (A (30 + i)) = some (hm_ls G S M A i) := by
  unfold hm_h
  rw [ha_get hk.1 (show hm_D S M (30 + i) from Or.inr (Or.inl ⟨by omega, by omega⟩))]
  refine congrArg some ?_
  unfold hm_E
  rw [if_neg (by omega), if_pos (by omega), show 30 + i - 30 = i by omega]
theorem hm_e50 {i : Nat}  (hi : i < 3 + vN (S.1 32 0)) (hb : vN (S.1 32 0) ≤ 12) (hg : M.2.2.2 i = true) : hm_E G S M A (50 + i) = .inl (5, M.2.2.1 i, .inr (.inr (.inr (.inr (M.2.1 i))))) := by
  unfold hm_E
  rw [if_neg (by omega), if_neg (by omega), if_pos (by omega), show 50 + i - 50 = i by omega]
theorem hm_d50 {i : Nat}  (hi : i < 3 + vN (S.1 32 0)) (hb : vN (S.1 32 0) ≤ 12) (hg : M.2.2.2 i = true) : hm_D S M (50 + i) := Or.inr (Or.inr (Or.inl ⟨by omega, by omega, by rw [show 50 + i - 50 = i by omega]; exact hg⟩))
theorem hm_g50 {i : Nat} (hk : ha_ok (hm_D S M) A g) (hi : i < 3 + vN (S.1 32 0)) (hb : vN (S.1 32 0) ≤ 12) (hg : M.2.2.2 i = true) : hm_h G S M A g (A (50 + i)) = some (.inl (5, M.2.2.1 i, .inr (.inr (.inr (.inr (M.2.1 i)))))) := by
  unfold hm_h
  rw [ha_get hk.1 (show hm_D S M (50 + i) from Or.inr (Or.inr (Or.inl ⟨by omega, by omega, by rw [show 50 + i - 50 = i by omega]; exact hg⟩)))]
  refine congrArg some ?_
  unfold hm_E
  rw [if_neg (by omega), if_neg (by omega), if_pos (by omega), show 50 + i - 50 = i by omega]
theorem hm_e100 {j : Nat}  (hj : j < vN (S.1 31 0)) (hb : vN (S.1 31 0) ≤ 90) : hm_E G S M A (100 + j) = hm_co S j := by
  unfold hm_E
  rw [if_neg (by omega), if_neg (by omega), if_neg (by omega), if_pos (by omega), show 100 + j - 100 = j by omega]
theorem hm_d100 {j : Nat}  (hj : j < vN (S.1 31 0)) (hb : vN (S.1 31 0) ≤ 90) : hm_D S M (100 + j) := Or.inr (Or.inr (Or.inr (Or.inl ⟨by omega, by omega⟩)))
theorem hm_g100 {j : Nat} (hk : ha_ok (hm_D S M) A g) (hj : j < vN (S.1 31 0)) (hb : vN (S.1 31 0) ≤ 90) : hm_h G S M A g (A (100 + j)) = some (hm_co S j) := by
  unfold hm_h
  rw [ha_get hk.1 (show hm_D S M (100 + j) from Or.inr (Or.inr (Or.inr (Or.inl ⟨by omega, by omega⟩))))]
  refine congrArg some ?_
  unfold hm_E
  rw [if_neg (by omega), if_neg (by omega), if_neg (by omega), if_pos (by omega), show 100 + j - 100 = j by omega]
theorem hm_e200 {j : Nat}  (hj : j < vN (S.1 32 0)) : hm_E G S M A (200 + j) = hm_bi S M A j := by
  unfold hm_E
  rw [if_neg (by omega), if_neg (by omega), if_neg (by omega), if_neg (by omega), show 200 + j - 200 = j by omega]
theorem hm_d200 {j : Nat}  (hj : j < vN (S.1 32 0)) : hm_D S M (200 + j) := Or.inr (Or.inr (Or.inr (Or.inr ⟨by omega, by omega⟩)))
theorem hm_g200 {j : Nat} (hk : ha_ok (hm_D S M) A g) (hj : j < vN (S.1 32 0)) : hm_h G S M A g (A (200 + j)) = some (hm_bi S M A j) := by
  unfold hm_h
  rw [ha_get hk.1 (show hm_D S M (200 + j) from Or.inr (Or.inr (Or.inr (Or.inr ⟨by omega, by omega⟩))))]
  refine congrArg some ?_
  unfold hm_E
  rw [if_neg (by omega), if_neg (by omega), if_neg (by omega), if_neg (by omega), show 200 + j - 200 = j by omega]
theorem hm_set {S' : hs_S} {M' : hm_M} {i : Nat} {x : hk_E} (hk : ha_ok (hm_D S M) A g) (hi : hm_D S M i) (hD : ∀ j, hm_D S' M' j ↔ hm_D S M j) (hx : hm_E G S' M' A i = x) (ho : ∀ j, hm_D S M j → j ≠ i → hm_E G S' M' A j = hm_E G S M A j) : hk_set (hm_h G S M A g) (A i) x = hm_h G S' M' A g ∧ ha_ok (hm_D S' M') A g := by
  have e : hm_D S' M' = hm_D S M := funext fun j => propext (hD j)
  refine ⟨?_, by rw [e]; exact hk⟩
  unfold hm_h
  rw [e]
  exact ha_set hk.1 hi hx ho
theorem hm_eq {S' : hs_S} {M' : hm_M} (hk : ha_ok (hm_D S M) A g) (hD : ∀ j, hm_D S' M' j ↔ hm_D S M j) (ho : ∀ j, hm_D S M j → hm_E G S' M' A j = hm_E G S M A j) : hm_h G S' M' A g = hm_h G S M A g ∧ ha_ok (hm_D S' M') A g := by
  have e : hm_D S' M' = hm_D S M := funext fun j => propext (hD j)
  refine ⟨?_, by rw [e]; exact hk⟩
  unfold hm_h
  rw [e]
  exact ha_ext hk.1 (fun _ _ => rfl) ho
def hm_mt (M : hm_M) (v : Int32) : hm_M := (ha_up M.1 0 v, M.2)
theorem hm_E_pc {S' : hs_S} {M' : hm_M} {j : Nat} (h0 : j = 0 → hm_E G S' M' A 0 = hm_E G S M A 0) (h1 : j = 1 → S'.1 9 = S.1 9) (h2 : j = 2 → S'.1 10 = S.1 10) (h4 : ∀ a, a < 6 → j = 4 + a → ∀ q, q < 2 → S'.1 12 (a * 2 + q) = S.1 12 (a * 2 + q)) (h11 : ∀ a, a < 6 → j = 11 + a → ∀ q, q < 6 → S'.1 19 (a * 6 + q) = S.1 19 (a * 6 + q)) (h18 : ∀ a, a < 4 → j = 18 + a → ∀ q, q < 6 → S'.1 27 (a * 6 + q) = S.1 27 (a * 6 + q)) (h30 : ∀ i, j = 30 + i → i < 20 → hm_ls G S' M' A i = hm_ls G S M A i) (h50 : ∀ i, j = 50 + i → M'.2.2.1 i = M.2.2.1 i ∧ M'.2.1 i = M.2.1 i) (h100 : ∀ i, j = 100 + i → hm_co S' i = hm_co S i) (h200 : ∀ i, j = 200 + i → hm_bi S' M' A i = hm_bi S M A i) (hj : j < 22 ∨ 30 ≤ j) : hm_E G S' M' A j = hm_E G S M A j := by
  unfold hm_E at h0 ⊢
  have tr : ∀ (n : Nat) (f f' : Nat → Int32), (∀ q, q < n → f q = f' q) → hm_tr n f = hm_tr n f' := fun n f f' h => by
    funext q
    unfold hm_tr
    split
    · exact h q (by assumption)
    · rfl
  by_cases c : j < 22
  · rw [if_pos c, if_pos c]
    by_cases c0 : j = 0
    · subst c0
      have := h0 rfl
      rw [if_pos (by omega), if_pos rfl, if_pos (by omega), if_pos rfl] at this
      rw [if_pos rfl, if_pos rfl]
      exact this
    rw [if_neg c0, if_neg c0]
    by_cases c1 : j = 1
    · rw [if_pos c1, if_pos c1, h1 c1]
    rw [if_neg c1, if_neg c1]
    by_cases c2 : j = 2
    · rw [if_pos c2, if_pos c2, h2 c2]
    rw [if_neg c2, if_neg c2]
    by_cases c3 : j = 3
    · rw [if_pos c3, if_pos c3]
    rw [if_neg c3, if_neg c3]
    by_cases c4 : j < 10
    · rw [if_pos c4, if_pos c4, tr 2 _ _ (h4 (j - 4) (by omega) (by omega))]
    rw [if_neg c4, if_neg c4]
    by_cases c5 : j = 10
    · rw [if_pos c5, if_pos c5]
    rw [if_neg c5, if_neg c5]
    by_cases c6 : j < 17
    · rw [if_pos c6, if_pos c6, tr 6 _ _ (h11 (j - 11) (by omega) (by omega))]
    rw [if_neg c6, if_neg c6]
    by_cases c7 : j = 17
    · rw [if_pos c7, if_pos c7]
    rw [if_neg c7, if_neg c7, tr 6 _ _ (h18 (j - 18) (by omega) (by omega))]
  rw [if_neg c, if_neg c]
  by_cases c8 : j < 50
  · rw [if_pos c8, if_pos c8, h30 (j - 30) (by omega) (by omega)]
  rw [if_neg c8, if_neg c8]
  by_cases c9 : j < 100
  · obtain ⟨z1, z2⟩ := h50 (j - 50) (by omega)
    rw [if_pos c9, if_pos c9, z1, z2]
  rw [if_neg c9, if_neg c9]
  by_cases c10 : j < 200
  · rw [if_pos c10, if_pos c10, h100 (j - 100) (by omega)]
  rw [if_neg c10, if_neg c10, h200 (j - 200) (by omega)]
theorem hm_wt {v : Int32} (hk : ha_ok (hm_D S M) A g) : hk_set (hm_h G S M A g) (A (0)) (.inr (16, [.int v, .ref (A 30), .ref (A 1), .ref (A 2), .ref (A 3), .ref (A 31), .ref (A 10), .long S.2, .ref (A 32), .int (S.1 33 0), .ref (A 17)])) = hm_h G (S) (hm_mt M v) A g ∧ ha_ok (hm_D (S) (hm_mt M v)) A g := by
  refine hm_set hk (hm_d0) (fun j => Iff.rfl) ?_ (fun j hD hne => hm_E_pc (fun e => absurd e hne) (fun _ => rfl) (fun _ => rfl) (fun _ _ _ _ _ => rfl) (fun _ _ _ _ _ => rfl) (fun _ _ _ _ _ => rfl) (fun i _ _ => by unfold hm_ls hm_mt; simp only []; rw [show (ha_up M.1 0 v) (10 + i) = M.1 (10 + i) from ha_up_ne (by omega)]) (fun _ _ => ⟨rfl, rfl⟩) (fun _ _ => rfl) (fun i _ => by unfold hm_bi hm_mt; simp only []; rw [show (ha_up M.1 0 v) (100 + i) = M.1 (100 + i) from ha_up_ne (by omega)]) (by unfold hm_D at hD; omega))
  rw [hm_e0]; rfl
theorem hm_vt {v : Int32} (hk : ha_ok (hm_D S M) A g) : hk_set (hm_h G S M A g) (A (0)) (.inr (16, [.int v, .ref (A 30), .ref (A 1), .ref (A 2), .ref (A 3), .ref (A 31), .ref (A 10), .long S.2, .ref (A 32), .int (S.1 33 0), .ref (A 17)])) = hm_h G (S) (hm_mt M v) A g := (hm_wt hk).1
theorem hm_w9 {j0 : Nat} {v : Int32} (hk : ha_ok (hm_D S M) A g) : hk_set (hm_h G S M A g) (A (1)) (.inl (0, 2, .inl (upd (S.1 9) j0 v))) = hm_h G (hs_su S 9 j0 v) (M) A g ∧ ha_ok (hm_D (hs_su S 9 j0 v) (M)) A g := by
  refine hm_set hk (hm_d1) (fun j => Iff.rfl) ?_ (fun j hD hne => hm_E_pc (fun _ => rfl) (fun e => absurd e hne) (fun _ => rfl) (fun _ _ _ _ _ => rfl) (fun _ _ _ _ _ => rfl) (fun _ _ _ _ _ => rfl) (fun _ _ _ => rfl) (fun _ _ => ⟨rfl, rfl⟩) (fun _ _ => rfl) (fun _ _ => rfl) (by unfold hm_D at hD; omega))
  rw [hm_e1]; rfl
theorem hm_v9 {j0 : Nat} {v : Int32} (hk : ha_ok (hm_D S M) A g) : hk_set (hm_h G S M A g) (A (1)) (.inl (0, 2, .inl (upd (S.1 9) j0 v))) = hm_h G (hs_su S 9 j0 v) (M) A g := (hm_w9 hk).1
theorem hm_w10 {j0 : Nat} {v : Int32} (hk : ha_ok (hm_D S M) A g) : hk_set (hm_h G S M A g) (A (2)) (.inl (0, 2, .inl (upd (S.1 10) j0 v))) = hm_h G (hs_su S 10 j0 v) (M) A g ∧ ha_ok (hm_D (hs_su S 10 j0 v) (M)) A g := by
  refine hm_set hk (hm_d2) (fun j => Iff.rfl) ?_ (fun j hD hne => hm_E_pc (fun _ => rfl) (fun _ => rfl) (fun e => absurd e hne) (fun _ _ _ _ _ => rfl) (fun _ _ _ _ _ => rfl) (fun _ _ _ _ _ => rfl) (fun _ _ _ => rfl) (fun _ _ => ⟨rfl, rfl⟩) (fun _ _ => rfl) (fun _ _ => rfl) (by unfold hm_D at hD; omega))
  rw [hm_e2]; rfl
theorem hm_v10 {j0 : Nat} {v : Int32} (hk : ha_ok (hm_D S M) A g) : hk_set (hm_h G S M A g) (A (2)) (.inl (0, 2, .inl (upd (S.1 10) j0 v))) = hm_h G (hs_su S 10 j0 v) (M) A g := (hm_w10 hk).1
theorem hm_w12 {a j0 : Nat} {v : Int32} (hk : ha_ok (hm_D S M) A g) (ha : a < 6) (hj0 : j0 < 2) : hk_set (hm_h G S M A g) (A (4 + a)) (.inl (0, 2, .inl (upd (hm_tr 2 (fun j => S.1 12 (a * 2 + j))) j0 v))) = hm_h G (hs_su S 12 (a * 2 + j0) v) (M) A g ∧ ha_ok (hm_D (hs_su S 12 (a * 2 + j0) v) (M)) A g := by
  refine hm_set hk (hm_d4 ha) (fun j => Iff.rfl) ?_ (fun j hD hne => hm_E_pc (fun _ => rfl) (fun _ => rfl) (fun _ => rfl) (fun a1 ha1 ej q hq => by rw [hs_su_eq, pk_un (by omega)]) (fun _ _ _ _ _ => rfl) (fun _ _ _ _ _ => rfl) (fun _ _ _ => rfl) (fun _ _ => ⟨rfl, rfl⟩) (fun _ _ => rfl) (fun _ _ => rfl) (by unfold hm_D at hD; omega))
  rw [hm_e4 ha]
  refine congrArg (fun f => Sum.inl (0, 2, Sum.inl f)) (funext fun q => ?_)
  unfold hm_tr
  rw [hs_su_eq]
  by_cases e : q = j0
  · subst e; rw [if_pos hj0, pk_us]; exact pk_us
  · rw [pk_un e]
    by_cases e2 : q < 2
    · rw [if_pos e2, if_pos e2]; exact pk_un (by omega)
    · rw [if_neg e2, if_neg e2]
theorem hm_v12 {a j0 : Nat} {v : Int32} (hk : ha_ok (hm_D S M) A g) (ha : a < 6) (hj0 : j0 < 2) : hk_set (hm_h G S M A g) (A (4 + a)) (.inl (0, 2, .inl (upd (hm_tr 2 (fun j => S.1 12 (a * 2 + j))) j0 v))) = hm_h G (hs_su S 12 (a * 2 + j0) v) (M) A g := (hm_w12 hk ha hj0).1
theorem hm_w19 {a j0 : Nat} {v : Int32} (hk : ha_ok (hm_D S M) A g) (ha : a < 6) (hj0 : j0 < 6) : hk_set (hm_h G S M A g) (A (11 + a)) (.inl (0, 6, .inl (upd (hm_tr 6 (fun j => S.1 19 (a * 6 + j))) j0 v))) = hm_h G (hs_su S 19 (a * 6 + j0) v) (M) A g ∧ ha_ok (hm_D (hs_su S 19 (a * 6 + j0) v) (M)) A g := by
  refine hm_set hk (hm_d11 ha) (fun j => Iff.rfl) ?_ (fun j hD hne => hm_E_pc (fun _ => rfl) (fun _ => rfl) (fun _ => rfl) (fun _ _ _ _ _ => rfl) (fun a1 ha1 ej q hq => by rw [hs_su_eq, pk_un (by omega)]) (fun _ _ _ _ _ => rfl) (fun _ _ _ => rfl) (fun _ _ => ⟨rfl, rfl⟩) (fun _ _ => rfl) (fun _ _ => rfl) (by unfold hm_D at hD; omega))
  rw [hm_e11 ha]
  refine congrArg (fun f => Sum.inl (0, 6, Sum.inl f)) (funext fun q => ?_)
  unfold hm_tr
  rw [hs_su_eq]
  by_cases e : q = j0
  · subst e; rw [if_pos hj0, pk_us]; exact pk_us
  · rw [pk_un e]
    by_cases e2 : q < 6
    · rw [if_pos e2, if_pos e2]; exact pk_un (by omega)
    · rw [if_neg e2, if_neg e2]
theorem hm_v19 {a j0 : Nat} {v : Int32} (hk : ha_ok (hm_D S M) A g) (ha : a < 6) (hj0 : j0 < 6) : hk_set (hm_h G S M A g) (A (11 + a)) (.inl (0, 6, .inl (upd (hm_tr 6 (fun j => S.1 19 (a * 6 + j))) j0 v))) = hm_h G (hs_su S 19 (a * 6 + j0) v) (M) A g := (hm_w19 hk ha hj0).1
theorem hm_w27 {a j0 : Nat} {v : Int32} (hk : ha_ok (hm_D S M) A g) (ha : a < 4) (hj0 : j0 < 6) : hk_set (hm_h G S M A g) (A (18 + a)) (.inl (0, 6, .inl (upd (hm_tr 6 (fun j => S.1 27 (a * 6 + j))) j0 v))) = hm_h G (hs_su S 27 (a * 6 + j0) v) (M) A g ∧ ha_ok (hm_D (hs_su S 27 (a * 6 + j0) v) (M)) A g := by
  refine hm_set hk (hm_d18 ha) (fun j => Iff.rfl) ?_ (fun j hD hne => hm_E_pc (fun _ => rfl) (fun _ => rfl) (fun _ => rfl) (fun _ _ _ _ _ => rfl) (fun _ _ _ _ _ => rfl) (fun a1 ha1 ej q hq => by rw [hs_su_eq, pk_un (by omega)]) (fun _ _ _ => rfl) (fun _ _ => ⟨rfl, rfl⟩) (fun _ _ => rfl) (fun _ _ => rfl) (by unfold hm_D at hD; omega))
  rw [hm_e18 ha]
  refine congrArg (fun f => Sum.inl (0, 6, Sum.inl f)) (funext fun q => ?_)
  unfold hm_tr
  rw [hs_su_eq]
  by_cases e : q = j0
  · subst e; rw [if_pos hj0, pk_us]; exact pk_us
  · rw [pk_un e]
    by_cases e2 : q < 6
    · rw [if_pos e2, if_pos e2]; exact pk_un (by omega)
    · rw [if_neg e2, if_neg e2]
theorem hm_v27 {a j0 : Nat} {v : Int32} (hk : ha_ok (hm_D S M) A g) (ha : a < 4) (hj0 : j0 < 6) : hk_set (hm_h G S M A g) (A (18 + a)) (.inl (0, 6, .inl (upd (hm_tr 6 (fun j => S.1 27 (a * 6 + j))) j0 v))) = hm_h G (hs_su S 27 (a * 6 + j0) v) (M) A g := (hm_w27 hk ha hj0).1
theorem hm_wy {v : Int32} (hk : ha_ok (hm_D S M) A g) : hk_set (hm_h G S M A g) (A (0)) (.inr (16, [.int (M.1 0), .ref (A 30), .ref (A 1), .ref (A 2), .ref (A 3), .ref (A 31), .ref (A 10), .long S.2, .ref (A 32), .int v, .ref (A 17)])) = hm_h G (hs_su S 33 0 v) (M) A g ∧ ha_ok (hm_D (hs_su S 33 0 v) (M)) A g := by
  refine hm_set hk (hm_d0) (fun j => Iff.rfl) ?_ (fun j hD hne => hm_E_pc (fun e => absurd e hne) (fun _ => rfl) (fun _ => rfl) (fun _ _ _ _ _ => rfl) (fun _ _ _ _ _ => rfl) (fun _ _ _ _ _ => rfl) (fun _ _ _ => rfl) (fun _ _ => ⟨rfl, rfl⟩) (fun _ _ => rfl) (fun _ _ => rfl) (by unfold hm_D at hD; omega))
  rw [hm_e0]; rfl
theorem hm_vy {v : Int32} (hk : ha_ok (hm_D S M) A g) : hk_set (hm_h G S M A g) (A (0)) (.inr (16, [.int (M.1 0), .ref (A 30), .ref (A 1), .ref (A 2), .ref (A 3), .ref (A 31), .ref (A 10), .long S.2, .ref (A 32), .int v, .ref (A 17)])) = hm_h G (hs_su S 33 0 v) (M) A g := (hm_wy hk).1
theorem hm_wl {v : Int64} (hk : ha_ok (hm_D S M) A g) : hk_set (hm_h G S M A g) (A (0)) (.inr (16, [.int (M.1 0), .ref (A 30), .ref (A 1), .ref (A 2), .ref (A 3), .ref (A 31), .ref (A 10), .long v, .ref (A 32), .int (S.1 33 0), .ref (A 17)])) = hm_h G (hs_sl S v) (M) A g ∧ ha_ok (hm_D (hs_sl S v) (M)) A g := by
  refine hm_set hk (hm_d0) (fun j => Iff.rfl) ?_ (fun j hD hne => hm_E_pc (fun e => absurd e hne) (fun _ => rfl) (fun _ => rfl) (fun _ _ _ _ _ => rfl) (fun _ _ _ _ _ => rfl) (fun _ _ _ _ _ => rfl) (fun _ _ _ => rfl) (fun _ _ => ⟨rfl, rfl⟩) (fun _ _ => rfl) (fun _ _ => rfl) (by unfold hm_D at hD; omega))
  rw [hm_e0]; rfl
theorem hm_vl {v : Int64} (hk : ha_ok (hm_D S M) A g) : hk_set (hm_h G S M A g) (A (0)) (.inr (16, [.int (M.1 0), .ref (A 30), .ref (A 1), .ref (A 2), .ref (A 3), .ref (A 31), .ref (A 10), .long v, .ref (A 32), .int (S.1 33 0), .ref (A 17)])) = hm_h G (hs_sl S v) (M) A g := (hm_wl hk).1
theorem hm_w14c {j0 : Nat} {v : Int32} (hk : ha_ok (hm_D S M) A g) (hj0 : j0 < vN (S.1 31 0)) (hb : vN (S.1 31 0) ≤ 90) : hk_set (hm_h G S M A g) (A (100 + j0)) (.inr (15, [.int (nI j0), .int (S.1 13 j0), .int v, .int (S.1 15 j0), .int (S.1 16 j0), .int (S.1 17 j0)])) = hm_h G (hs_su S 14 j0 v) (M) A g ∧ ha_ok (hm_D (hs_su S 14 j0 v) (M)) A g := by
  refine hm_set hk (hm_d100 hj0 hb) (fun j => Iff.rfl) ?_ (fun j hD hne => hm_E_pc (fun _ => rfl) (fun _ => rfl) (fun _ => rfl) (fun _ _ _ _ _ => rfl) (fun _ _ _ _ _ => rfl) (fun _ _ _ _ _ => rfl) (fun _ _ _ => rfl) (fun _ _ => ⟨rfl, rfl⟩) (fun i ei => by unfold hm_co; rw [show (hs_su S 14 j0 v).1 14 i = S.1 14 i from by rw [hs_su_eq]; exact pk_un (by omega)]; rfl) (fun _ _ => rfl) (by unfold hm_D at hD; omega))
  rw [hm_e100 (S := hs_su S 14 j0 v) hj0 hb]; unfold hm_co; rw [show (hs_su S 14 j0 v).1 14 j0 = v from by rw [hs_su_eq]; exact pk_us]; rfl
theorem hm_v14c {j0 : Nat} {v : Int32} (hk : ha_ok (hm_D S M) A g) (hj0 : j0 < vN (S.1 31 0)) (hb : vN (S.1 31 0) ≤ 90) : hk_set (hm_h G S M A g) (A (100 + j0)) (.inr (15, [.int (nI j0), .int (S.1 13 j0), .int v, .int (S.1 15 j0), .int (S.1 16 j0), .int (S.1 17 j0)])) = hm_h G (hs_su S 14 j0 v) (M) A g := (hm_w14c hk hj0 hb).1
theorem hm_w15c {j0 : Nat} {v : Int32} (hk : ha_ok (hm_D S M) A g) (hj0 : j0 < vN (S.1 31 0)) (hb : vN (S.1 31 0) ≤ 90) : hk_set (hm_h G S M A g) (A (100 + j0)) (.inr (15, [.int (nI j0), .int (S.1 13 j0), .int (S.1 14 j0), .int v, .int (S.1 16 j0), .int (S.1 17 j0)])) = hm_h G (hs_su S 15 j0 v) (M) A g ∧ ha_ok (hm_D (hs_su S 15 j0 v) (M)) A g := by
  refine hm_set hk (hm_d100 hj0 hb) (fun j => Iff.rfl) ?_ (fun j hD hne => hm_E_pc (fun _ => rfl) (fun _ => rfl) (fun _ => rfl) (fun _ _ _ _ _ => rfl) (fun _ _ _ _ _ => rfl) (fun _ _ _ _ _ => rfl) (fun _ _ _ => rfl) (fun _ _ => ⟨rfl, rfl⟩) (fun i ei => by unfold hm_co; rw [show (hs_su S 15 j0 v).1 15 i = S.1 15 i from by rw [hs_su_eq]; exact pk_un (by omega)]; rfl) (fun _ _ => rfl) (by unfold hm_D at hD; omega))
  rw [hm_e100 (S := hs_su S 15 j0 v) hj0 hb]; unfold hm_co; rw [show (hs_su S 15 j0 v).1 15 j0 = v from by rw [hs_su_eq]; exact pk_us]; rfl
theorem hm_v15c {j0 : Nat} {v : Int32} (hk : ha_ok (hm_D S M) A g) (hj0 : j0 < vN (S.1 31 0)) (hb : vN (S.1 31 0) ≤ 90) : hk_set (hm_h G S M A g) (A (100 + j0)) (.inr (15, [.int (nI j0), .int (S.1 13 j0), .int (S.1 14 j0), .int v, .int (S.1 16 j0), .int (S.1 17 j0)])) = hm_h G (hs_su S 15 j0 v) (M) A g := (hm_w15c hk hj0 hb).1
theorem hm_w16c {j0 : Nat} {v : Int32} (hk : ha_ok (hm_D S M) A g) (hj0 : j0 < vN (S.1 31 0)) (hb : vN (S.1 31 0) ≤ 90) : hk_set (hm_h G S M A g) (A (100 + j0)) (.inr (15, [.int (nI j0), .int (S.1 13 j0), .int (S.1 14 j0), .int (S.1 15 j0), .int v, .int (S.1 17 j0)])) = hm_h G (hs_su S 16 j0 v) (M) A g ∧ ha_ok (hm_D (hs_su S 16 j0 v) (M)) A g := by
  refine hm_set hk (hm_d100 hj0 hb) (fun j => Iff.rfl) ?_ (fun j hD hne => hm_E_pc (fun _ => rfl) (fun _ => rfl) (fun _ => rfl) (fun _ _ _ _ _ => rfl) (fun _ _ _ _ _ => rfl) (fun _ _ _ _ _ => rfl) (fun _ _ _ => rfl) (fun _ _ => ⟨rfl, rfl⟩) (fun i ei => by unfold hm_co; rw [show (hs_su S 16 j0 v).1 16 i = S.1 16 i from by rw [hs_su_eq]; exact pk_un (by omega)]; rfl) (fun _ _ => rfl) (by unfold hm_D at hD; omega))
  rw [hm_e100 (S := hs_su S 16 j0 v) hj0 hb]; unfold hm_co; rw [show (hs_su S 16 j0 v).1 16 j0 = v from by rw [hs_su_eq]; exact pk_us]; rfl
theorem hm_v16c {j0 : Nat} {v : Int32} (hk : ha_ok (hm_D S M) A g) (hj0 : j0 < vN (S.1 31 0)) (hb : vN (S.1 31 0) ≤ 90) : hk_set (hm_h G S M A g) (A (100 + j0)) (.inr (15, [.int (nI j0), .int (S.1 13 j0), .int (S.1 14 j0), .int (S.1 15 j0), .int v, .int (S.1 17 j0)])) = hm_h G (hs_su S 16 j0 v) (M) A g := (hm_w16c hk hj0 hb).1
theorem hm_w17c {j0 : Nat} {v : Int32} (hk : ha_ok (hm_D S M) A g) (hj0 : j0 < vN (S.1 31 0)) (hb : vN (S.1 31 0) ≤ 90) : hk_set (hm_h G S M A g) (A (100 + j0)) (.inr (15, [.int (nI j0), .int (S.1 13 j0), .int (S.1 14 j0), .int (S.1 15 j0), .int (S.1 16 j0), .int v])) = hm_h G (hs_su S 17 j0 v) (M) A g ∧ ha_ok (hm_D (hs_su S 17 j0 v) (M)) A g := by
  refine hm_set hk (hm_d100 hj0 hb) (fun j => Iff.rfl) ?_ (fun j hD hne => hm_E_pc (fun _ => rfl) (fun _ => rfl) (fun _ => rfl) (fun _ _ _ _ _ => rfl) (fun _ _ _ _ _ => rfl) (fun _ _ _ _ _ => rfl) (fun _ _ _ => rfl) (fun _ _ => ⟨rfl, rfl⟩) (fun i ei => by unfold hm_co; rw [show (hs_su S 17 j0 v).1 17 i = S.1 17 i from by rw [hs_su_eq]; exact pk_un (by omega)]; rfl) (fun _ _ => rfl) (by unfold hm_D at hD; omega))
  rw [hm_e100 (S := hs_su S 17 j0 v) hj0 hb]; unfold hm_co; rw [show (hs_su S 17 j0 v).1 17 j0 = v from by rw [hs_su_eq]; exact pk_us]; rfl
theorem hm_v17c {j0 : Nat} {v : Int32} (hk : ha_ok (hm_D S M) A g) (hj0 : j0 < vN (S.1 31 0)) (hb : vN (S.1 31 0) ≤ 90) : hk_set (hm_h G S M A g) (A (100 + j0)) (.inr (15, [.int (nI j0), .int (S.1 13 j0), .int (S.1 14 j0), .int (S.1 15 j0), .int (S.1 16 j0), .int v])) = hm_h G (hs_su S 17 j0 v) (M) A g := (hm_w17c hk hj0 hb).1
theorem hm_wh {j0 : Nat} {v : Int32} (hk : ha_ok (hm_D S M) A g) (hj0 : j0 < vN (S.1 32 0)) (h1 : ¬ S.1 24 j0 = -1) (h2 : ¬ v = -1) : hk_set (hm_h G S M A g) (A (200 + j0)) (.inr (14, [.int (S.1 20 j0), .int (S.1 21 j0), .int (S.1 22 j0), .int (S.1 23 j0), .ref (A (33 + j0)), .int v, .int (nI 0)])) = hm_h G (hs_su S 24 j0 v) (M) A g ∧ ha_ok (hm_D (hs_su S 24 j0 v) (M)) A g := by
  refine hm_set hk (hm_d200 hj0) (fun j => Iff.rfl) ?_ (fun j hD hne => hm_E_pc (fun _ => rfl) (fun _ => rfl) (fun _ => rfl) (fun _ _ _ _ _ => rfl) (fun _ _ _ _ _ => rfl) (fun _ _ _ _ _ => rfl) (fun _ _ _ => rfl) (fun _ _ => ⟨rfl, rfl⟩) (fun _ _ => rfl) (fun i ei => by unfold hm_bi; rw [show (hs_su S 24 j0 v).1 24 i = S.1 24 i from by rw [hs_su_eq]; exact pk_un (by omega)]; rfl) (by unfold hm_D at hD; omega))
  rw [hm_e200 (S := hs_su S 24 j0 v) hj0]; unfold hm_bi; rw [show (hs_su S 24 j0 v).1 24 j0 = v from by rw [hs_su_eq]; exact pk_us, if_neg h2, if_neg h2]; rfl
theorem hm_vh {j0 : Nat} {v : Int32} (hk : ha_ok (hm_D S M) A g) (hj0 : j0 < vN (S.1 32 0)) (h1 : ¬ S.1 24 j0 = -1) (h2 : ¬ v = -1) : hk_set (hm_h G S M A g) (A (200 + j0)) (.inr (14, [.int (S.1 20 j0), .int (S.1 21 j0), .int (S.1 22 j0), .int (S.1 23 j0), .ref (A (33 + j0)), .int v, .int (nI 0)])) = hm_h G (hs_su S 24 j0 v) (M) A g := (hm_wh hk hj0 h1 h2).1
theorem hm_wo {j0 : Nat} {v : Int32} (hk : ha_ok (hm_D S M) A g) (hj0 : j0 < vN (S.1 32 0)) (h1 : ¬ S.1 24 j0 = -1) (hv : v = S.1 24 j0) : hk_set (hm_h G S M A g) (A (200 + j0)) (.inr (14, [.int (S.1 20 j0), .int (S.1 21 j0), .int (S.1 22 j0), .int (S.1 23 j0), .ref (A (33 + j0)), .int v, .int (nI 1)])) = hm_h G (hs_su S 24 j0 (-1)) ((ha_up M.1 (100 + j0) v, M.2)) A g ∧ ha_ok (hm_D (hs_su S 24 j0 (-1)) ((ha_up M.1 (100 + j0) v, M.2))) A g := by
  refine hm_set hk (hm_d200 hj0) (fun j => Iff.rfl) ?_ (fun j hD hne => hm_E_pc (fun _ => by rw [hm_e0, hm_e0]; simp only []; rw [ha_up_ne (by omega)]; rfl) (fun _ => rfl) (fun _ => rfl) (fun _ _ _ _ _ => rfl) (fun _ _ _ _ _ => rfl) (fun _ _ _ _ _ => rfl) (fun i ei hi => by unfold hm_ls; simp only []; rw [ha_up_ne (by omega)]; rfl) (fun _ _ => ⟨rfl, rfl⟩) (fun _ _ => rfl) (fun i ei => by unfold hm_bi; rw [show (hs_su S 24 j0 (-1)).1 24 i = S.1 24 i from by rw [hs_su_eq]; exact pk_un (by omega)]; simp only []; rw [ha_up_ne (by omega)]; rfl) (by unfold hm_D at hD; omega))
  rw [hm_e200 (S := hs_su S 24 j0 (-1)) hj0]; unfold hm_bi; rw [show (hs_su S 24 j0 (-1)).1 24 j0 = -1 from by rw [hs_su_eq]; exact pk_us, if_pos rfl, if_pos rfl]; simp only []; rw [ha_up_eq]; rfl
theorem hm_vo {j0 : Nat} {v : Int32} (hk : ha_ok (hm_D S M) A g) (hj0 : j0 < vN (S.1 32 0)) (h1 : ¬ S.1 24 j0 = -1) (hv : v = S.1 24 j0) : hk_set (hm_h G S M A g) (A (200 + j0)) (.inr (14, [.int (S.1 20 j0), .int (S.1 21 j0), .int (S.1 22 j0), .int (S.1 23 j0), .ref (A (33 + j0)), .int v, .int (nI 1)])) = hm_h G (hs_su S 24 j0 (-1)) ((ha_up M.1 (100 + j0) v, M.2)) A g := (hm_wo hk hj0 h1 hv).1
-- what the places of the lists hold
theorem hm_n0 {c nc nb : Nat} (ok : hm_ok G S M A c nc nb) : hm_n S 0 = c := by
  unfold hm_n
  rw [if_pos rfl, ok.1.1, vN_nI (by have := ok.1.2.2; omega)]
theorem hm_n1 {c nc nb : Nat} (ok : hm_ok G S M A c nc nb) : hm_n S 1 = nc := by
  unfold hm_n
  rw [if_neg (by decide), if_pos rfl, ok.2.1.1, vN_nI (by have := ok.2.1.2; omega)]
theorem hm_n2 {c nc nb : Nat} (ok : hm_ok G S M A c nc nb) : hm_n S 2 = nb := by
  unfold hm_n
  rw [if_neg (by decide), if_neg (by decide), if_pos rfl, ok.2.2.1.1, vN_nI (by have := ok.2.2.1.2; omega)]
theorem hm_n3 {j : Nat} : hm_n S (3 + j) = vN (S.1 26 j) := by
  unfold hm_n
  rw [if_neg (by omega), if_neg (by omega), if_neg (by omega), show 3 + j - 3 = j by omega]
theorem hm_v31 {c nc nb : Nat} (ok : hm_ok G S M A c nc nb) : vN (S.1 31 0) = nc := by rw [ok.2.1.1, vN_nI (by have := ok.2.1.2; omega)]
theorem hm_v32 {c nc nb : Nat} (ok : hm_ok G S M A c nc nb) : vN (S.1 32 0) = nb := by rw [ok.2.2.1.1, vN_nI (by have := ok.2.2.1.2; omega)]
theorem hm_cap {c nc nb i : Nat} (ok : hm_ok G S M A c nc nb) (hg : M.2.2.2 i = true) : hm_n S i ≤ M.2.2.1 i ∧ 1 ≤ M.2.2.1 i ∧ M.2.2.1 i ≤ 150 := ok.2.2.2.1 i hg
def hm_ed (G : hk_G) (M : hm_M) (A : Nat → Nat) (i : Nat) : Nat := if M.2.2.2 i = true then A (50 + i) else hk_K G 1001
theorem hm_l0 {c nc nb : Nat} (hk : ha_ok (hm_D S M) A g) (ok : hm_ok G S M A c nc nb) : hm_h G S M A g (A 30) = some (.inr (6, [.int (M.1 10), .ref (hm_ed G M A 0), .int (nI c)])) := by
  rw [← hm_n0 ok]
  exact hm_g30 (i := 0) hk (by omega) (by rw [hm_v32 ok]; exact ok.2.2.1.2)
theorem hm_l1 {c nc nb : Nat} (hk : ha_ok (hm_D S M) A g) (ok : hm_ok G S M A c nc nb) : hm_h G S M A g (A 31) = some (.inr (6, [.int (M.1 11), .ref (hm_ed G M A 1), .int (nI nc)])) := by
  rw [← hm_n1 ok]
  exact hm_g30 (i := 1) hk (by omega) (by rw [hm_v32 ok]; exact ok.2.2.1.2)
theorem hm_l2 {c nc nb : Nat} (hk : ha_ok (hm_D S M) A g) (ok : hm_ok G S M A c nc nb) : hm_h G S M A g (A 32) = some (.inr (6, [.int (M.1 12), .ref (hm_ed G M A 2), .int (nI nb)])) := by
  rw [← hm_n2 ok]
  exact hm_g30 (i := 2) hk (by omega) (by rw [hm_v32 ok]; exact ok.2.2.1.2)
theorem hm_r {c nc nb i : Nat} (hk : ha_ok (hm_D S M) A g) (ok : hm_ok G S M A c nc nb) (hi : i < 3 + nb) (hg : M.2.2.2 i = true) : hm_h G S M A g (hm_ed G M A i) = some (.inl (5, M.2.2.1 i, .inr (.inr (.inr (.inr (M.2.1 i)))))) := by
  unfold hm_ed
  rw [if_pos hg]
  exact hm_g50 hk (by rw [hm_v32 ok]; exact hi) (by rw [hm_v32 ok]; exact ok.2.2.1.2) hg
theorem hm_kg {c nc nb a : Nat} (ok : hm_ok G S M A c nc nb) (ha : a < c) : M.2.1 0 a = some (hk_K G (2000 + hm_k S a)) := (ok.2.2.2.2.1.2 a ha).1
theorem hm_kl {c nc nb a : Nat} (ok : hm_ok G S M A c nc nb) (ha : a < c) : hm_k S a < 128 := by
  obtain ⟨k, h1, h2, h3, h4⟩ := (ok.2.2.2.2.1.2 a ha).2
  unfold hm_k
  split
  · decide
  · rw [h3, vN_nI (by omega)]; exact h1
theorem hm_ki {c nc nb a : Nat} (ok : hm_ok G S M A c nc nb) (ha : a < c) : hm_k S a = 120 ↔ S.1 8 a = 0 := by
  obtain ⟨k, h1, h2, h3, h4⟩ := (ok.2.2.2.2.1.2 a ha).2
  constructor
  · intro h
    unfold hm_k at h
    split at h
    · assumption
    · rw [h3, vN_nI (by omega)] at h
      exact absurd h h2
  · intro h
    unfold hm_k
    rw [if_pos h]
theorem hm_kb {c nc nb a : Nat} (ok : hm_ok G S M A c nc nb) (ha : a < c) : (hm_k S a = 98 ∨ S.1 8 a = 0) ↔ S.1 7 a = nI 98 := by
  obtain ⟨k, h1, h2, h3, h4⟩ := (ok.2.2.2.2.1.2 a ha).2
  constructor
  · rintro (h | h)
    · unfold hm_k at h
      split at h
      · exact absurd h (by decide)
      · rw [h3, vN_nI (by omega)] at h
        rw [h3, h]
    · rw [h3, h4 h]
  · intro h
    by_cases h0 : S.1 8 a = 0
    · exact Or.inr h0
    · refine Or.inl ?_
      unfold hm_k
      rw [if_neg h0, h]
      exact vN_nI (by decide)
theorem hm_c1g {c nc nb j : Nat} (ok : hm_ok G S M A c nc nb) (hj : j < nc) : M.2.2.2 1 = true ∧ M.2.1 1 j = some (A (100 + j)) := ⟨ok.2.2.2.2.2.1.1.elim id (fun z => by omega), ok.2.2.2.2.2.1.2 j hj⟩
theorem hm_b1g {c nc nb j : Nat} (ok : hm_ok G S M A c nc nb) (hj : j < nb) : M.2.2.2 2 = true ∧ M.2.1 2 j = some (A (200 + j)) := ⟨ok.2.2.2.2.2.2.1.1.elim id (fun z => by omega), ok.2.2.2.2.2.2.1.2 j hj⟩
theorem hm_coi {c nc nb j : Nat} (hk : ha_ok (hm_D S M) A g) (ok : hm_ok G S M A c nc nb) (hj : j < nc) : hm_h G S M A g (A (100 + j)) = some (.inr (15, [.int (nI j), .int (S.1 13 j), .int (S.1 14 j), .int (S.1 15 j), .int (S.1 16 j), .int (S.1 17 j)])) := hm_g100 hk (by rw [hm_v31 ok]; exact hj) (by rw [hm_v31 ok]; exact ok.2.1.2)
theorem hm_ok.mt {c nc nb : Nat} {v : Int32} (ok : hm_ok G S M A c nc nb) : hm_ok G S (hm_mt M v) A c nc nb := ok
end HM

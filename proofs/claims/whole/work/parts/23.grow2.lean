section HMG2
variable {G : hk_G} {S : hs_S} {M : hm_M} {A : Nat → Nat} {g : hk_H} {c nc nb : Nat}
theorem hm_ed_1 {i : Nat} (h : 1 ≤ hm_cp M i) : M.2.2.2 i = true ∧ hm_ed G M A i = A (50 + i) := by
  unfold hm_cp at h
  split at h
  · rename_i hf
    exact ⟨hf, by unfold hm_ed; rw [if_pos hf]⟩
  · omega
-- a new house
theorem hm_addK {k : Nat} {h1 : hk_H} (ok : hm_ok G S M A c nc nb) (hk : ha_ok (hm_D S M) A g) (hn : c < 6) (hk9 : k < 128) (hk8 : k ≠ 120)
    (hgr : hk_grown (hm_h G S M A g) (A 30) (M.1 10) (hm_ed G M A 0) c (hm_cp M 0) (M.2.1 0) (hk_K G (2000 + k)) h1) :
    ∃ (A' : Nat → Nat) (M' : hm_M) (g' : hk_H), A' 0 = A 0 ∧ M'.1 0 = M.1 0 ∧ hm_ok G (cs_open S c (nI k)) M' A' (c + 1) nc nb ∧ ha_ok (hm_D (cs_open S c (nI k)) M') A' g' ∧ h1 = hm_h G (cs_open S c (nI k)) M' A' g' ∧ hm_x g g' := by
  have v31 := hm_v31 ok
  have v32 := hm_v32 ok
  have hnb := ok.2.2.1.2
  obtain ⟨e1, cap1, f1, r1, r2, r3, r4, r5, r6⟩ := hgr
  have hin := ok.2.2.2.1 0 ok.2.2.2.2.1.1
  rw [hm_n0 ok] at hin
  have hcp : hm_cp M 0 = M.2.2.1 0 := if_pos ok.2.2.2.2.1.1
  have he : (hm_D S M 50 ∧ e1 = A 50) ∨ ha (hm_D S M) A (hm_E G S M A) g e1 = none := by
    rcases r2 with ⟨p1, p2, p3⟩ | ⟨p1, p2⟩
    · exact Or.inl ⟨Or.inr (Or.inr (Or.inl ⟨by omega, by omega, (hm_ed_1 (G := G) (A := A) p2).1⟩)), p1.trans (hm_ed_1 (G := G) (A := A) p2).2⟩
    · exact Or.inr p1
  obtain ⟨g4, x4, hk4, e4⟩ := ha_grow (a := 30) (b := 50) (x := .inl (5, cap1, .inr (.inr (.inr (.inr f1))))) (y := .inr (6, [.int (M.1 10 + nI 1), .ref e1, .int (nI (c + 1))])) hk (Or.inr (Or.inl ⟨by omega, by omega⟩)) (by omega) he
  have hcap : c + 1 ≤ cap1 ∧ cap1 ≤ 150 := by
    refine ⟨r3, ?_⟩
    rcases r2 with ⟨p1, p2, p3⟩ | ⟨p1, p2⟩ <;> omega
  have hAne : ∀ j, j ≠ 50 → ha_up A 50 e1 j = A j := fun j h1 => ha_up_ne h1
  have hS31 : vN ((cs_open S c (nI k)).1 31 0) = nc := v31
  have hS32 : vN ((cs_open S c (nI k)).1 32 0) = nb := v32
  have hni : ∀ i, i ≠ 0 → hm_n (cs_open S c (nI k)) i = hm_n S i := fun i hi => by
    unfold hm_n
    rw [if_neg hi, if_neg hi]
    by_cases z1 : i = 1
    · rw [if_pos z1, if_pos z1]; rfl
    · rw [if_neg z1, if_neg z1]
      by_cases z2 : i = 2
      · rw [if_pos z2, if_pos z2]; rfl
      · rw [if_neg z2, if_neg z2]; rfl
  have hn0 : hm_n (cs_open S c (nI k)) 0 = c + 1 := by
    unfold hm_n
    rw [if_pos rfl]
    exact vN_nI (by omega)
  have h8 : ∀ a, (cs_open S c (nI k)).1 8 a = if a = c then nI 1 else S.1 8 a := fun a => rfl
  have h7 : ∀ a, (cs_open S c (nI k)).1 7 a = if a = c then nI k else S.1 7 a := fun a => rfl
  have fin := hm_is (G := G) (S' := cs_open S c (nI k)) (M' := hm_Mg M 0 (M.1 10 + nI 1) f1 cap1) (D := fun j => j = 50 ∨ hm_D S M j) (A' := ha_up A 50 e1) (E := ha_up (ha_up (hm_E G S M A) 50 (.inl (5, cap1, .inr (.inr (.inr (.inr f1)))))) 30 (.inr (6, [.int (M.1 10 + nI 1), .ref e1, .int (nI (c + 1))]))) (g := g4) ?_ ?_ hk4
  · refine ⟨_, hm_Mg M 0 (M.1 10 + nI 1) f1 cap1, g4, hAne 0 (by omega), hm_Mg1 (by omega), ?_, fin.2, ?_, ?_⟩
    · refine ⟨⟨rfl, by omega, by omega⟩, ok.2.1, ok.2.2.1, fun i hi => ?_, ⟨hm_Mg4e, fun a1 ha1 => ?_⟩, ⟨?_, fun j hj => ?_⟩, ⟨?_, fun j hj => ?_⟩, fun j hj => ?_⟩
      · by_cases z : i = 0
        · subst z
          rw [hn0, hm_Mg3e]
          omega
        · rw [hni i z]
          have hi2 : M.2.2.2 i = true := by rw [← hm_Mg4 (M := M) (mc := M.1 10 + nI 1) (f := f1) (cap := cap1) z]; exact hi
          rw [hm_Mg3 z]
          exact ok.2.2.2.1 i hi2
      · rw [hm_Mg2e]
        unfold hm_k
        rw [h8, h7]
        by_cases z : a1 = c
        · rw [if_pos z, if_pos z, z, r6, if_neg (by decide), vN_nI (by omega)]
          exact ⟨rfl, k, hk9, hk8, rfl, fun q => absurd q (by decide)⟩
        · rw [if_neg z, if_neg z, r5 a1 (by omega)]
          exact ok.2.2.2.2.1.2 a1 (by omega)
      · rw [hm_Mg4 (by omega)]; exact ok.2.2.2.2.2.1.1
      · rw [hm_Mg2 (by omega), hAne _ (by omega)]; exact ok.2.2.2.2.2.1.2 j hj
      · rw [hm_Mg4 (by omega)]; exact ok.2.2.2.2.2.2.1.1
      · rw [hm_Mg2 (by omega), hAne _ (by omega)]; exact ok.2.2.2.2.2.2.1.2 j hj
      · rw [hm_Mg2 (by omega), hm_Mg4 (by omega), hm_Mg3 (by omega)]
        exact ok.2.2.2.2.2.2.2 j hj
    · rw [r1, show hm_h G S M A g = _ from rfl]
      exact e4.trans fin.1
    · exact x4
  · intro j
    unfold hm_D
    rw [v31, v32, hS31, hS32]
    by_cases z : j = 50
    · subst z
      exact ⟨fun _ => Or.inr (Or.inr (Or.inl ⟨by omega, by omega, hm_Mg4e (i := 0)⟩)), fun _ => Or.inl rfl⟩
    · have hf : 50 ≤ j → (hm_Mg M 0 (M.1 10 + nI 1) f1 cap1).2.2.2 (j - 50) = M.2.2.2 (j - 50) := fun _ => hm_Mg4 (by omega)
      constructor
      · rintro (h | h | h | ⟨h, h2, h3⟩ | h | h)
        · exact absurd h z
        · exact Or.inl h
        · exact Or.inr (Or.inl h)
        · exact Or.inr (Or.inr (Or.inl ⟨h, h2, by rw [hf h]; exact h3⟩))
        · exact Or.inr (Or.inr (Or.inr (Or.inl h)))
        · exact Or.inr (Or.inr (Or.inr (Or.inr h)))
      · rintro (h | h | ⟨h, h2, h3⟩ | h | h)
        · exact Or.inr (Or.inl h)
        · exact Or.inr (Or.inr (Or.inl h))
        · exact Or.inr (Or.inr (Or.inr (Or.inl ⟨h, h2, by rw [← hf h]; exact h3⟩)))
        · exact Or.inr (Or.inr (Or.inr (Or.inr (Or.inl h))))
        · exact Or.inr (Or.inr (Or.inr (Or.inr (Or.inr h))))
  · intro j hj
    by_cases z30 : j = 30
    · subst z30
      rw [ha_up_eq]
      rw [show (30 : Nat) = 30 + 0 from rfl, hm_e30 (by rw [hS32]; omega) (by rw [hS32]; exact ok.2.2.1.2)]
      unfold hm_ls
      rw [hn0, if_pos (hm_Mg4e (i := 0)), show ha_up A 50 e1 (50 + 0) = e1 from ha_up_eq, hm_Mg1e (i := 0)]
    · rw [ha_up_ne z30]
      by_cases z51 : j = 50
      · subst z51
        rw [ha_up_eq]
        rw [show (50 : Nat) = 50 + 0 from rfl, hm_e50 (by rw [hS32]; omega) (by rw [hS32]; exact ok.2.2.1.2) (hm_Mg4e (i := 0))]
        rw [hm_Mg2e (i := 0), hm_Mg3e (i := 0)]
      · rw [ha_up_ne z51]
        have hjD : hm_D S M j := hj.resolve_left z51
        refine Eq.symm (hm_E_pa (S := S) (S' := cs_open S c (nI k)) (M := M) (M' := hm_Mg M 0 (M.1 10 + nI 1) f1 cap1) (A := A) (A' := ha_up A 50 e1) (fun i hi => hAne i (by omega)) (fun _ => ?_) (fun _ => rfl) (fun _ => rfl) (fun _ _ _ _ _ => rfl) (fun _ _ _ _ _ => rfl) (fun _ _ _ _ _ => rfl) (fun i ei hi => ?_) (fun i ei => ?_) (fun i ei => rfl) (fun i ei => ?_) (by unfold hm_D at hjD; omega))
        · rw [hm_e0, hm_e0, hAne _ (by omega), hAne _ (by omega), hAne _ (by omega), hAne _ (by omega), hAne _ (by omega), hAne _ (by omega), hAne _ (by omega), hAne _ (by omega), hm_Mg1 (by omega)]
          rfl
        · unfold hm_ls
          rw [hni i (by omega), hm_Mg4 (by omega), hm_Mg1 (by omega), hAne (50 + i) (by omega)]
        · exact ⟨hm_Mg3 (by omega), hm_Mg2 (by omega)⟩
        · have hi2 : i < nb := by have hnc := ok.2.1.2; unfold hm_D at hjD; rw [v31, v32] at hjD; omega
          unfold hm_bi
          rw [hAne (33 + i) (by omega), hm_Mg1 (by omega)]
          rfl
-- a new bill: its list at p, itself at q
def hm_M0 (M : hm_M) (nb : Nat) : hm_M := (ha_up M.1 (13 + nb) 0, M.2.1, M.2.2.1, ha_up M.2.2.2 (3 + nb) false)
theorem hm_M01 {M : hm_M} {nb k : Nat} (h : k ≠ 13 + nb) : (hm_M0 M nb).1 k = M.1 k := ha_up_ne (f := M.1) h
theorem hm_M04 {M : hm_M} {nb k : Nat} (h : k ≠ 3 + nb) : (hm_M0 M nb).2.2.2 k = M.2.2.2 k := ha_up_ne (f := M.2.2.2) h
theorem hm_M01e {M : hm_M} {nb : Nat} : (hm_M0 M nb).1 (13 + nb) = 0 := ha_up_eq (f := M.1)
theorem hm_M04e {M : hm_M} {nb : Nat} : (hm_M0 M nb).2.2.2 (3 + nb) = false := ha_up_eq (f := M.2.2.2)
theorem cs_write_bi {S : hs_S} {M M' : hm_M} {A A' : Nat → Nat} {n j : Nat} {a t v x : Int32} (h : j ≠ n) (h1 : M'.1 (100 + j) = M.1 (100 + j)) (h2 : A' (33 + j) = A (33 + j)) : hm_bi (cs_write S n a t v x) M' A' j = hm_bi S M A j := by
  unfold hm_bi
  rw [h1, h2, show (cs_write S n a t v x).1 20 j = S.1 20 j from if_neg h, show (cs_write S n a t v x).1 21 j = S.1 21 j from if_neg h, show (cs_write S n a t v x).1 22 j = S.1 22 j from if_neg h, show (cs_write S n a t v x).1 23 j = S.1 23 j from if_neg h, show (cs_write S n a t v x).1 24 j = S.1 24 j from if_neg h]
theorem cs_write_bn {S : hs_S} {M' : hm_M} {A' : Nat → Nat} {n p : Nat} {a t v x : Int32} (ha : ¬ a = -1) (h2 : A' (33 + n) = p) : hm_bi (cs_write S n a t v x) M' A' n = .inr (14, [.int a, .int t, .int v, .int (S.1 33 0 + x), .ref p, .int a, .int (nI 0)]) := by
  unfold hm_bi
  rw [h2, show (cs_write S n a t v x).1 20 n = a from if_pos rfl, show (cs_write S n a t v x).1 21 n = t from if_pos rfl, show (cs_write S n a t v x).1 22 n = v from if_pos rfl, show (cs_write S n a t v x).1 23 n = S.1 33 0 + x from if_pos rfl, show (cs_write S n a t v x).1 24 n = a from if_pos rfl, if_neg ha, if_neg ha]
theorem hm_addB {p q : Nat} {a t v x : Int32} {h1 : hk_H} (ok : hm_ok G S M A c nc nb) (hk : ha_ok (hm_D S M) A g) (hq : hm_h G S M A g q = none) (hp : hk_set (hm_h G S M A g) q (.inr (14, [.int a, .int t, .int v, .int (S.1 33 0 + x), .ref p, .int a, .int (nI 0)])) p = none) (hn : nb < 12) (h26 : S.1 26 nb = 0) (hna : ¬ a = -1)
    (hgr : hk_grown (hm_h G S M A (hk_set (hk_set g q (.inr (14, [.int a, .int t, .int v, .int (S.1 33 0 + x), .ref p, .int a, .int (nI 0)]))) p (.inr (6, [.int 0, .ref (hk_K G 1001), .int (nI 0)])))) (A 32) (M.1 12) (hm_ed G M A 2) nb (hm_cp M 2) (M.2.1 2) q h1) :
    ∃ (A' : Nat → Nat) (M' : hm_M) (g' : hk_H), A' 0 = A 0 ∧ M'.1 0 = M.1 0 ∧ hm_ok G (cs_write S nb a t v x) M' A' c nc (nb + 1) ∧ ha_ok (hm_D (cs_write S nb a t v x) M') A' g' ∧ h1 = hm_h G (cs_write S nb a t v x) M' A' g' ∧ hm_x g g' := by
  have hpq : p ≠ q := fun e => by rw [e, hk_set_eq] at hp; cases hp
  have hp0 : hm_h G S M A g p = none := by rw [hk_set_ne hpq] at hp; exact hp
  obtain ⟨hk1, e1', x1⟩ := hm_okg (x := .inr (14, [.int a, .int t, .int v, .int (S.1 33 0 + x), .ref p, .int a, .int (nI 0)])) hk hq
  rw [e1'] at hp
  obtain ⟨hk2, e2, x2⟩ := hm_okg (x := .inr (6, [.int 0, .ref (hk_K G 1001), .int (nI 0)])) hk1 hp
  have v31 := hm_v31 ok
  have v32 := hm_v32 ok
  have hnc := ok.2.1.2
  have hnD1 : ¬ hm_D S M (33 + nb) := fun z => by unfold hm_D at z; rw [v31, v32] at z; omega
  have hnD2 : ¬ (fun j => j = 33 + nb ∨ hm_D S M j) (200 + nb) := fun z => by
    rcases z with z | z
    · omega
    · unfold hm_D at z; rw [v31, v32] at z; omega
  have gq : g q = none := (ha_none hk.1 hq).2
  have gp : g p = none := (ha_none hk.1 hp0).2
  obtain ⟨g3, x3, hk3, e3⟩ := ha_lift (E := hm_E G S M A) hk2 hnD1 (hk_set_eq (a := p))
  obtain ⟨g5, x5, hk5, e5⟩ := ha_lift (E := ha_up (hm_E G S M A) (33 + nb) (.inr (6, [.int 0, .ref (hk_K G 1001), .int (nI 0)]))) hk3 hnD2 (x3 q _ hpq.symm (by rw [hk_set_ne hpq.symm]; exact hk_set_eq))
  obtain ⟨e1, cap1, f1, r1, r2, r3, r4, r5, r6⟩ := hgr
  have hin := ok.2.2.2.1 2
  rw [hm_n2 ok] at hin
  have hcp : hm_cp M 2 ≤ 150 ∧ nb ≤ hm_cp M 2 := by
    unfold hm_cp
    by_cases e : M.2.2.2 2 = true
    · rw [if_pos e]; have := hin e; omega
    · rw [if_neg e]; have := ok.2.2.2.2.2.2.1.1.resolve_left e; omega
  have hA2 : ∀ j, j ≠ 33 + nb → j ≠ 200 + nb → ha_up (ha_up A (33 + nb) p) (200 + nb) q j = A j := fun j h1 h2 => by rw [ha_up_ne h2, ha_up_ne h1]
  have he : ((fun j => j = 200 + nb ∨ (fun j => j = 33 + nb ∨ hm_D S M j) j) 52 ∧ e1 = ha_up (ha_up A (33 + nb) p) (200 + nb) q 52) ∨ ha (fun j => j = 200 + nb ∨ (fun j => j = 33 + nb ∨ hm_D S M j) j) (ha_up (ha_up A (33 + nb) p) (200 + nb) q) (ha_up (ha_up (hm_E G S M A) (33 + nb) (.inr (6, [.int 0, .ref (hk_K G 1001), .int (nI 0)]))) (200 + nb) (.inr (14, [.int a, .int t, .int v, .int (S.1 33 0 + x), .ref p, .int a, .int (nI 0)]))) g5 e1 = none := by
    rcases r2 with ⟨p1, p2, p3⟩ | ⟨p1, p2⟩
    · exact Or.inl ⟨Or.inr (Or.inr (Or.inr (Or.inr (Or.inl ⟨by omega, by omega, (hm_ed_1 (G := G) (A := A) p2).1⟩)))), by rw [hA2 _ (by omega) (by omega), p1]; exact (hm_ed_1 p2).2⟩
    · refine Or.inr ?_
      rw [← e5, ← e3]
      exact p1
  obtain ⟨g4, x4, hk4, e4⟩ := ha_grow (a := 32) (b := 52) (x := .inl (5, cap1, .inr (.inr (.inr (.inr f1))))) (y := .inr (6, [.int (M.1 12 + nI 1), .ref e1, .int (nI (nb + 1))])) hk5 (Or.inr (Or.inr (Or.inr (Or.inl ⟨by omega, by omega⟩)))) (by omega) he
  have hcap : nb + 1 ≤ cap1 ∧ cap1 ≤ 150 := by
    refine ⟨r3, ?_⟩
    rcases r2 with ⟨p1, p2, p3⟩ | ⟨p1, p2⟩ <;> omega
  have hAne : ∀ j, j ≠ 52 → j ≠ 33 + nb → j ≠ 200 + nb → ha_up (ha_up (ha_up A (33 + nb) p) (200 + nb) q) 52 e1 j = A j := fun j h1 h2 h3 => by rw [ha_up_ne h1, hA2 j h2 h3]
  have hS31 : vN ((cs_write S nb a t v x).1 31 0) = nc := v31
  have hS32 : vN ((cs_write S nb a t v x).1 32 0) = nb + 1 := vN_nI (a := nb + 1) (by omega)
  have hni : ∀ i, i ≠ 2 → hm_n (cs_write S nb a t v x) i = hm_n S i := fun i hi => by
    unfold hm_n
    by_cases z0 : i = 0
    · rw [if_pos z0, if_pos z0]; rfl
    · rw [if_neg z0, if_neg z0]
      by_cases z1 : i = 1
      · rw [if_pos z1, if_pos z1]; rfl
      · rw [if_neg z1, if_neg z1, if_neg hi, if_neg hi]; rfl
  have hn2 : hm_n (cs_write S nb a t v x) 2 = nb + 1 := by
    unfold hm_n
    rw [if_neg (by decide), if_neg (by decide), if_pos rfl, hS32]
  have hn3 : hm_n S (3 + nb) = 0 := by rw [hm_n3, h26]; rfl
  have Mq1 : ∀ k, k ≠ 12 → k ≠ 13 + nb → (hm_Mg (hm_M0 M nb) 2 (M.1 12 + nI 1) f1 cap1).1 k = M.1 k := fun k h1 h2 => by rw [hm_Mg1 h1, hm_M01 h2]
  have Mq4 : ∀ k, k ≠ 2 → k ≠ 3 + nb → (hm_Mg (hm_M0 M nb) 2 (M.1 12 + nI 1) f1 cap1).2.2.2 k = M.2.2.2 k := fun k h1 h2 => by rw [hm_Mg4 h1, hm_M04 h2]
  have Mq4e : (hm_Mg (hm_M0 M nb) 2 (M.1 12 + nI 1) f1 cap1).2.2.2 (3 + nb) = false := by rw [hm_Mg4 (by omega), hm_M04e]
  have Mq2 : ∀ k, k ≠ 2 → (hm_Mg (hm_M0 M nb) 2 (M.1 12 + nI 1) f1 cap1).2.1 k = M.2.1 k := fun k h1 => hm_Mg2 h1
  have Mq3 : ∀ k, k ≠ 2 → (hm_Mg (hm_M0 M nb) 2 (M.1 12 + nI 1) f1 cap1).2.2.1 k = M.2.2.1 k := fun k h1 => hm_Mg3 h1
  have fin := hm_is (G := G) (S' := cs_write S nb a t v x) (M' := hm_Mg (hm_M0 M nb) 2 (M.1 12 + nI 1) f1 cap1) (D := fun j => j = 52 ∨ (fun j => j = 200 + nb ∨ (fun j => j = 33 + nb ∨ hm_D S M j) j) j) (A' := ha_up (ha_up (ha_up A (33 + nb) p) (200 + nb) q) 52 e1) (E := ha_up (ha_up (ha_up (ha_up (hm_E G S M A) (33 + nb) (.inr (6, [.int 0, .ref (hk_K G 1001), .int (nI 0)]))) (200 + nb) (.inr (14, [.int a, .int t, .int v, .int (S.1 33 0 + x), .ref p, .int a, .int (nI 0)]))) 52 (.inl (5, cap1, .inr (.inr (.inr (.inr f1)))))) 32 (.inr (6, [.int (M.1 12 + nI 1), .ref e1, .int (nI (nb + 1))]))) (g := g4) ?_ ?_ hk4
  · refine ⟨_, hm_Mg (hm_M0 M nb) 2 (M.1 12 + nI 1) f1 cap1, g4, hAne 0 (by omega) (by omega) (by omega), Mq1 0 (by omega) (by omega), ?_, fin.2, ?_, ?_⟩
    · refine ⟨ok.1, ok.2.1, ⟨rfl, by omega⟩, fun i hi => ?_, ⟨?_, fun a1 ha1 => ?_⟩, ⟨?_, fun j hj => ?_⟩, ⟨Or.inl hm_Mg4e, fun j hj => ?_⟩, fun j hj => ?_⟩
      · by_cases z : i = 2
        · subst z
          rw [hn2, hm_Mg3e]
          omega
        · by_cases z3 : i = 3 + nb
          · rw [z3, Mq4e] at hi; cases hi
          · rw [hni i z, Mq3 i z]
            rw [Mq4 i z z3] at hi
            exact ok.2.2.2.1 i hi
      · rw [Mq4 0 (by omega) (by omega)]; exact ok.2.2.2.2.1.1
      · rw [Mq2 0 (by omega)]; exact ok.2.2.2.2.1.2 a1 ha1
      · rw [Mq4 1 (by omega) (by omega)]; exact ok.2.2.2.2.2.1.1
      · rw [Mq2 1 (by omega), hAne _ (by omega) (by omega) (by omega)]; exact ok.2.2.2.2.2.1.2 j hj
      · rw [hm_Mg2e]
        by_cases z : j = nb
        · rw [z, r6, ha_up_ne (by omega), ha_up_eq]
        · rw [r5 j (by omega), hAne _ (by omega) (by omega) (by omega)]
          exact ok.2.2.2.2.2.2.1.2 j (by omega)
      · by_cases z : j = nb
        · subst z
          exact ⟨0, by omega, h26, Or.inr ⟨rfl, Mq4e⟩, fun q hq => absurd hq (by omega)⟩
        · rw [Mq2 (3 + j) (by omega), Mq4 (3 + j) (by omega) (by omega), Mq3 (3 + j) (by omega)]
          exact ok.2.2.2.2.2.2.2 j (by omega)
    · rw [r1, show hm_h G S M A (hk_set (hk_set g q (.inr (14, [.int a, .int t, .int v, .int (S.1 33 0 + x), .ref p, .int a, .int (nI 0)]))) p (.inr (6, [.int 0, .ref (hk_K G 1001), .int (nI 0)]))) = _ from e3, e5, ← hA2 32 (by omega) (by omega), e4]
      exact fin.1
    · refine fun r z hz => x4 r z (x5 r z (fun e => by rw [e, gq] at hz; cases hz) (x3 r z (fun e => by rw [e, gp] at hz; cases hz) ?_))
      exact x2 r z (x1 r z hz)
  · intro j
    unfold hm_D
    rw [v31, v32, hS31, hS32]
    by_cases z : j = 52
    · subst z
      exact ⟨fun _ => Or.inr (Or.inr (Or.inl ⟨by omega, by omega, hm_Mg4e (i := 2)⟩)), fun _ => Or.inl rfl⟩
    · have hf : 50 ≤ j → j ≠ 53 + nb → (hm_Mg (hm_M0 M nb) 2 (M.1 12 + nI 1) f1 cap1).2.2.2 (j - 50) = M.2.2.2 (j - 50) := fun _ _ => Mq4 _ (by omega) (by omega)
      constructor
      · rintro (h | h | h | h | h | ⟨h, h2, h3⟩ | h | h)
        · exact absurd h z
        · exact Or.inr (Or.inr (Or.inr (Or.inr ⟨by omega, by omega⟩)))
        · exact Or.inr (Or.inl ⟨by omega, by omega⟩)
        · exact Or.inl h
        · exact Or.inr (Or.inl ⟨by omega, by omega⟩)
        · exact Or.inr (Or.inr (Or.inl ⟨h, by omega, by rw [hf h (by omega)]; exact h3⟩))
        · exact Or.inr (Or.inr (Or.inr (Or.inl h)))
        · exact Or.inr (Or.inr (Or.inr (Or.inr ⟨by omega, by omega⟩)))
      · rintro (h | h | ⟨h, h2, h3⟩ | h | h)
        · exact Or.inr (Or.inr (Or.inr (Or.inl h)))
        · by_cases z2 : j = 33 + nb
          · exact Or.inr (Or.inr (Or.inl z2))
          · exact Or.inr (Or.inr (Or.inr (Or.inr (Or.inl ⟨by omega, by omega⟩))))
        · by_cases z2 : j = 53 + nb
          · rw [z2, show 53 + nb - 50 = 3 + nb by omega, Mq4e] at h3; cases h3
          · exact Or.inr (Or.inr (Or.inr (Or.inr (Or.inr (Or.inl ⟨h, by omega, by rw [← hf h z2]; exact h3⟩)))))
        · exact Or.inr (Or.inr (Or.inr (Or.inr (Or.inr (Or.inr (Or.inl h))))))
        · by_cases z2 : j = 200 + nb
          · exact Or.inr (Or.inl z2)
          · exact Or.inr (Or.inr (Or.inr (Or.inr (Or.inr (Or.inr (Or.inr ⟨by omega, by omega⟩))))))
  · intro j hj
    by_cases z32 : j = 32
    · subst z32
      rw [ha_up_eq]
      rw [show (32 : Nat) = 30 + 2 from rfl, hm_e30 (by rw [hS32]; omega) (by rw [hS32]; omega)]
      unfold hm_ls
      rw [hn2, if_pos (hm_Mg4e (i := 2)), show ha_up (ha_up (ha_up A (33 + nb) p) (200 + nb) q) 52 e1 (50 + 2) = e1 from ha_up_eq, hm_Mg1e (i := 2)]
    · rw [ha_up_ne z32]
      by_cases z51 : j = 52
      · subst z51
        rw [ha_up_eq]
        rw [show (52 : Nat) = 50 + 2 from rfl, hm_e50 (by rw [hS32]; omega) (by rw [hS32]; omega) (hm_Mg4e (i := 2))]
        rw [hm_Mg2e (i := 2), hm_Mg3e (i := 2)]
      · rw [ha_up_ne z51]
        by_cases zb : j = 200 + nb
        · subst zb
          rw [ha_up_eq, hm_e200 (by rw [hS32]; omega), cs_write_bn (p := p) hna (by rw [ha_up_ne (by omega), ha_up_ne (by omega), ha_up_eq])]
        · rw [ha_up_ne zb]
          by_cases zl : j = 33 + nb
          · subst zl
            rw [ha_up_eq, show 33 + nb = 30 + (3 + nb) by omega, hm_e30 (by rw [hS32]; omega) (by rw [hS32]; omega)]
            unfold hm_ls
            rw [hni _ (by omega), hn3, if_neg (by rw [Mq4e]; decide), show 10 + (3 + nb) = 13 + nb by omega, hm_Mg1 (by omega), hm_M01e]
          · rw [ha_up_ne zl]
            have hjD : hm_D S M j := ((hj.resolve_left z51).resolve_left zb).resolve_left zl
            refine Eq.symm (hm_E_pa (S := S) (S' := cs_write S nb a t v x) (M := M) (M' := hm_Mg (hm_M0 M nb) 2 (M.1 12 + nI 1) f1 cap1) (A := A) (A' := ha_up (ha_up (ha_up A (33 + nb) p) (200 + nb) q) 52 e1) (fun i hi => hAne i (by omega) (by omega) (by omega)) (fun _ => ?_) (fun _ => rfl) (fun _ => rfl) (fun _ _ _ _ _ => rfl) (fun _ _ _ _ _ => rfl) (fun _ _ _ _ _ => rfl) (fun i ei hi => ?_) (fun i ei => ?_) (fun i ei => rfl) (fun i ei => ?_) (by unfold hm_D at hjD; omega))
            · rw [hm_e0, hm_e0, hAne _ (by omega) (by omega) (by omega), hAne _ (by omega) (by omega) (by omega), hAne _ (by omega) (by omega) (by omega), hAne _ (by omega) (by omega) (by omega), hAne _ (by omega) (by omega) (by omega), hAne _ (by omega) (by omega) (by omega), hAne _ (by omega) (by omega) (by omega), hAne _ (by omega) (by omega) (by omega), Mq1 0 (by omega) (by omega)]
              rfl
            · have hi2 : i < 3 + nb := by unfold hm_D at hjD; rw [v31, v32] at hjD; omega
              unfold hm_ls
              rw [hni i (by omega), Mq4 i (by omega) (by omega), Mq1 _ (by omega) (by omega), hAne (50 + i) (by omega) (by omega) (by omega)]
            · exact ⟨Mq3 _ (by omega), Mq2 _ (by omega)⟩
            · have hi2 : i < nb := by unfold hm_D at hjD; rw [v31, v32] at hjD; omega
              exact cs_write_bi (by omega) (Mq1 _ (by omega) (by omega)) (hAne _ (by omega) (by omega) (by omega))
-- an endorser more
def hs_eb (S : hs_S) (j e : Nat) : hs_S := hs_su (hs_su S 25 (j * 5 + e) (S.1 24 j)) 26 j (S.1 26 j + nI 1)
def hm_ea (f : Nat → Option Nat) (n v0 : Nat) (f1 : Nat → Option Nat) : Prop := f1 0 = some v0 ∧ ∀ q, q < n → f1 (q + 1) = f q
theorem hm_addE {j e a e1 cap1 : Nat} {mc : Int32} {f1 : Nat → Option Nat} {h1 : hk_H} (ok : hm_ok G S M A c nc nb) (hk : ha_ok (hm_D S M) A g) (hj : j < nb) (he5 : e < 5) (he : S.1 26 j = nI e) (ha6 : a < 6) (h24 : S.1 24 j = nI a)
    (r1 : h1 = hk_set (hk_set (hm_h G S M A g) e1 (.inl (5, 10, .inr (.inr (.inr (.inr f1)))))) (A (33 + j)) (.inr (6, [.int mc, .ref e1, .int (nI (e + 1))])))
    (r2 : (M.2.2.2 (3 + j) = true ∧ e1 = A (53 + j)) ∨ hm_h G S M A g e1 = none) (r3 : hm_ea (M.2.1 (3 + j)) e (hk_K G (3000 + (a + 128))) f1) :
    ∃ (A' : Nat → Nat) (M' : hm_M) (g' : hk_H), A' 0 = A 0 ∧ M'.1 0 = M.1 0 ∧ (∀ i, 100 ≤ i → A' i = A i) ∧ hm_ok G (hs_eb S j e) M' A' c nc nb ∧ ha_ok (hm_D (hs_eb S j e) M') A' g' ∧ h1 = hm_h G (hs_eb S j e) M' A' g' ∧ hm_x g g' := by
  have v31 := hm_v31 ok
  have v32 := hm_v32 ok
  have hnb := ok.2.2.1.2
  have hnc := ok.2.1.2
  have he' : (hm_D S M (53 + j) ∧ e1 = A (53 + j)) ∨ ha (hm_D S M) A (hm_E G S M A) g e1 = none := by
    rcases r2 with ⟨p1, p2⟩ | p1
    · exact Or.inl ⟨Or.inr (Or.inr (Or.inl ⟨by omega, by rw [v32]; omega, by rw [show 53 + j - 50 = 3 + j by omega]; exact p1⟩)), p2⟩
    · exact Or.inr p1
  obtain ⟨g4, x4, hk4, e4⟩ := ha_grow (a := 33 + j) (b := 53 + j) (x := .inl (5, 10, .inr (.inr (.inr (.inr f1))))) (y := .inr (6, [.int mc, .ref e1, .int (nI (e + 1))])) hk (Or.inr (Or.inl ⟨by omega, by rw [v32]; omega⟩)) (by omega) he'
  have hAne : ∀ i, i ≠ 53 + j → ha_up A (53 + j) e1 i = A i := fun i h1 => ha_up_ne h1
  have hS31 : vN ((hs_eb S j e).1 31 0) = nc := v31
  have hS32 : vN ((hs_eb S j e).1 32 0) = nb := v32
  have h26 : ∀ i, (hs_eb S j e).1 26 i = if i = j then nI (e + 1) else S.1 26 i := fun i => by
    show (if i = j then S.1 26 j + nI 1 else S.1 26 i) = _
    rw [he, nI_add]
  have h25 : ∀ i, (hs_eb S j e).1 25 i = if i = j * 5 + e then S.1 24 j else S.1 25 i := fun i => rfl
  have hni : ∀ i, i ≠ 3 + j → hm_n (hs_eb S j e) i = hm_n S i := fun i hi => by
    unfold hm_n
    by_cases z0 : i = 0
    · rw [if_pos z0, if_pos z0]; rfl
    · rw [if_neg z0, if_neg z0]
      by_cases z1 : i = 1
      · rw [if_pos z1, if_pos z1]; rfl
      · rw [if_neg z1, if_neg z1]
        by_cases z2 : i = 2
        · rw [if_pos z2, if_pos z2]; rfl
        · rw [if_neg z2, if_neg z2, h26, if_neg (by omega)]
  have hnj : hm_n (hs_eb S j e) (3 + j) = e + 1 := by
    rw [hm_n3, h26, if_pos rfl]
    exact vN_nI (by omega)
  have hc13 : 10 + (3 + j) = 13 + j := by omega
  have fin := hm_is (G := G) (S' := hs_eb S j e) (M' := hm_Mg M (3 + j) mc f1 10) (D := fun i => i = 53 + j ∨ hm_D S M i) (A' := ha_up A (53 + j) e1) (E := ha_up (ha_up (hm_E G S M A) (53 + j) (.inl (5, 10, .inr (.inr (.inr (.inr f1)))))) (33 + j) (.inr (6, [.int mc, .ref e1, .int (nI (e + 1))]))) (g := g4) ?_ ?_ hk4
  · refine ⟨_, hm_Mg M (3 + j) mc f1 10, g4, hAne 0 (by omega), hm_Mg1 (by omega), fun i hi => hAne i (by omega), ?_, fin.2, r1.trans (e4.trans fin.1), x4⟩
    refine ⟨ok.1, ok.2.1, ok.2.2.1, fun i hi => ?_, ⟨?_, fun a1 ha1 => ?_⟩, ⟨?_, fun i hi => ?_⟩, ⟨?_, fun i hi => ?_⟩, fun i hi => ?_⟩
    · by_cases z : i = 3 + j
      · subst z
        rw [hnj, hm_Mg3e]
        omega
      · rw [hni i z]
        rw [hm_Mg4 z] at hi
        rw [hm_Mg3 z]
        exact ok.2.2.2.1 i hi
    · rw [hm_Mg4 (by omega)]; exact ok.2.2.2.2.1.1
    · rw [hm_Mg2 (by omega)]; exact ok.2.2.2.2.1.2 a1 ha1
    · rw [hm_Mg4 (by omega)]; exact ok.2.2.2.2.2.1.1
    · rw [hm_Mg2 (by omega), hAne _ (by omega)]; exact ok.2.2.2.2.2.1.2 i hi
    · rw [hm_Mg4 (by omega)]; exact ok.2.2.2.2.2.2.1.1
    · rw [hm_Mg2 (by omega), hAne _ (by omega)]; exact ok.2.2.2.2.2.2.1.2 i hi
    · by_cases z : i = j
      · subst z
        refine ⟨e + 1, by omega, by rw [h26, if_pos rfl], Or.inl ⟨hm_Mg4e, hm_Mg3e, by omega⟩, fun q hq => ?_⟩
        rw [hm_Mg2e]
        by_cases z0 : q = 0
        · subst z0
          exact ⟨a, ha6, by rw [h25, if_pos (by omega)]; exact h24, r3.1⟩
        · obtain ⟨e2, w1, w2, w3, w4⟩ := ok.2.2.2.2.2.2.2 i hi
          have ee : e2 = e := (nI_eq (by omega) (by omega)).mp (w2.symm.trans he)
          subst ee
          obtain ⟨q, rfl⟩ : ∃ q0, q = q0 + 1 := ⟨q - 1, by omega⟩
          obtain ⟨a2, w5, w6, w7⟩ := w4 q (by omega)
          exact ⟨a2, w5, by rw [h25, if_neg (by omega), show i * 5 + (e2 + 1 - 1 - (q + 1)) = i * 5 + (e2 - 1 - q) by omega]; exact w6, by rw [r3.2 q (by omega)]; exact w7⟩
      · rw [hm_Mg2 (by omega), hm_Mg4 (by omega), hm_Mg3 (by omega)]
        obtain ⟨e2, w1, w2, w3, w4⟩ := ok.2.2.2.2.2.2.2 i hi
        refine ⟨e2, w1, by rw [h26, if_neg z]; exact w2, w3, fun q hq => ?_⟩
        obtain ⟨a2, w5, w6, w7⟩ := w4 q hq
        exact ⟨a2, w5, by rw [h25, if_neg (by omega)]; exact w6, w7⟩
  · intro i
    unfold hm_D
    rw [v31, v32, hS31, hS32]
    by_cases z : i = 53 + j
    · subst z
      exact ⟨fun _ => Or.inr (Or.inr (Or.inl ⟨by omega, by omega, by rw [show 53 + j - 50 = 3 + j by omega]; exact hm_Mg4e⟩)), fun _ => Or.inl rfl⟩
    · have hf : 50 ≤ i → (hm_Mg M (3 + j) mc f1 10).2.2.2 (i - 50) = M.2.2.2 (i - 50) := fun _ => hm_Mg4 (by omega)
      constructor
      · rintro (h | h | h | ⟨h, h2, h3⟩ | h | h)
        · exact absurd h z
        · exact Or.inl h
        · exact Or.inr (Or.inl h)
        · exact Or.inr (Or.inr (Or.inl ⟨h, h2, by rw [hf h]; exact h3⟩))
        · exact Or.inr (Or.inr (Or.inr (Or.inl h)))
        · exact Or.inr (Or.inr (Or.inr (Or.inr h)))
      · rintro (h | h | ⟨h, h2, h3⟩ | h | h)
        · exact Or.inr (Or.inl h)
        · exact Or.inr (Or.inr (Or.inl h))
        · exact Or.inr (Or.inr (Or.inr (Or.inl ⟨h, h2, by rw [← hf h]; exact h3⟩)))
        · exact Or.inr (Or.inr (Or.inr (Or.inr (Or.inl h))))
        · exact Or.inr (Or.inr (Or.inr (Or.inr (Or.inr h))))
  · intro i hi
    by_cases z30 : i = 33 + j
    · subst z30
      rw [ha_up_eq]
      rw [show 33 + j = 30 + (3 + j) by omega, hm_e30 (by rw [hS32]; omega) (by rw [hS32]; exact ok.2.2.1.2)]
      unfold hm_ls
      rw [hnj, if_pos hm_Mg4e, show 50 + (3 + j) = 53 + j by omega, ha_up_eq, hm_Mg1e]
    · rw [ha_up_ne z30]
      by_cases z51 : i = 53 + j
      · subst z51
        rw [ha_up_eq]
        rw [show 53 + j = 50 + (3 + j) by omega, hm_e50 (by rw [hS32]; omega) (by rw [hS32]; exact ok.2.2.1.2) hm_Mg4e]
        rw [hm_Mg2e, hm_Mg3e]
      · rw [ha_up_ne z51]
        have hjD : hm_D S M i := hi.resolve_left z51
        refine Eq.symm (hm_E_pa (S := S) (S' := hs_eb S j e) (M := M) (M' := hm_Mg M (3 + j) mc f1 10) (A := A) (A' := ha_up A (53 + j) e1) (fun i hi => hAne i (by omega)) (fun _ => ?_) (fun _ => rfl) (fun _ => rfl) (fun _ _ _ _ _ => rfl) (fun _ _ _ _ _ => rfl) (fun _ _ _ _ _ => rfl) (fun i ei hi => ?_) (fun i ei => ?_) (fun i ei => rfl) (fun i ei => ?_) (by unfold hm_D at hjD; omega))
        · rw [hm_e0, hm_e0, hAne _ (by omega), hAne _ (by omega), hAne _ (by omega), hAne _ (by omega), hAne _ (by omega), hAne _ (by omega), hAne _ (by omega), hAne _ (by omega), hm_Mg1 (by omega)]
          rfl
        · unfold hm_ls
          rw [hni i (by omega), hm_Mg4 (by omega), hm_Mg1 (by omega), hAne (50 + i) (by omega)]
        · exact ⟨hm_Mg3 (by omega), hm_Mg2 (by omega)⟩
        · have hi2 : i < nb := by unfold hm_D at hjD; rw [v31, v32] at hjD; omega
          unfold hm_bi
          rw [hAne (33 + i) (by omega), hm_Mg1 (by omega)]
          rfl
end HMG2

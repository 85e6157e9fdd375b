theorem al_cnt_le (p : Nat → Bool) : ∀ n, al_cnt p n ≤ n
  | 0 => Nat.le_refl _
  | n + 1 => by
    have := al_cnt_le p n
    rw [show al_cnt p (n + 1) = if p n = true then al_cnt p n + 1 else al_cnt p n from rfl]
    split <;> omega
theorem al_cnt_rem {p p' : Nat → Bool} {b : Nat} (h : ∀ i, p' i = (p i && !(i == b))) (hb : p b = true) : ∀ n, al_cnt p' n + (if b < n then 1 else 0) = al_cnt p n
  | 0 => by rw [if_neg (by omega)]; rfl
  | n + 1 => by
    have ih := al_cnt_rem h hb n
    rw [show al_cnt p (n + 1) = if p n = true then al_cnt p n + 1 else al_cnt p n from rfl, show al_cnt p' (n + 1) = if p' n = true then al_cnt p' n + 1 else al_cnt p' n from rfl, h n]
    by_cases e : n = b
    · subst e
      rw [if_neg (by omega)] at ih
      rw [if_neg (c := (p n && !(n == n)) = true) (by simp), if_pos (c := n < n + 1) (by omega), if_pos hb]
      omega
    · have e2 : (p n && !(n == b)) = p n := by simp [e]
      rw [e2]
      by_cases q : b < n
      · rw [if_pos q] at ih
        rw [if_pos (c := b < n + 1) (by omega)]
        split <;> omega
      · rw [if_neg q] at ih
        rw [if_neg (c := b < n + 1) (by omega)]
        split <;> omega
theorem al_cnt_pos {p : Nat → Bool} {b n : Nat} (hn : b < n) (hb : p b = true) : 1 ≤ al_cnt p n := by
  have := al_cnt_rem (p := p) (p' := fun i => (p i && !(i == b))) (fun _ => rfl) hb n
  rw [if_pos hn] at this
  omega
section HXO
variable {G : hk_G} {l : Launch} {d : Nat} {y : MethodName} {b : ByteArray} {nL : Nat} {ret : Option FieldType} {hh : List (Nat × Nat × Nat × Nat)} {Q : Option Value → hk_H → Prop} {X : String → hk_H → Prop} {k n : Nat} {h : hk_H} {pc pc' : Nat} {lv : List (Option Value)} {st : List Value}
theorem hx_astoO {z : Fin 4} {i : Nat} {x : Option Nat} (hd : decode b pc = .ok (.astore_n z, 1)) (hp : pc + 1 = pc') (hi : (z : Nat) = i) (hb : i < nL) (hok : hk_ok lv i = true) (kk : hk_W G l d y b nL ret hh Q X k n h pc' (hk_s lv i (some (va_rf x))) st) : hk_W G l d y b nL ret hh Q X k n h pc lv (va_rf x :: st) := by
  cases x with
  | none => exact hk_astore_nN hd hp hi hb hok kk
  | some x => exact hk_astore_n hd hp hi hb hok kk
end HXO
section CM13
variable {G : hk_G} {l : Launch} {S : hs_S} {M : hm_M} {A : Nat → Nat} {c nc nb : Nat} {g h : hk_H}
def hs_mx (x : Int32) : Int32 := if nI 0 < x then x else nI 0
def hs_to (S : hs_S) (a c : Nat) : Nat := match (cs_gc S a c).1 with
  | none => 0
  | some t => t
def hs_prs (S : hs_S) (a c j : Nat) : hs_S := match (cs_gc S a c).1 with
  | none => cs_give S j (nI 0)
  | some t => hs_su (cs_give S j (nI t)) 19 (t * 6 + a) (hs_mx (S.1 19 (t * 6 + a) - S.1 9 (vN (S.1 13 j))))
theorem hs_prs_n {S : hs_S} {a c j : Nat} (h : (cs_gc S a c).1 = none) : hs_prs S a c j = cs_give S j (nI 0) := by
  unfold hs_prs
  rw [h]
theorem hs_prs_t {S : hs_S} {a c j t : Nat} (h : (cs_gc S a c).1 = some t) : hs_prs S a c j = hs_su (cs_give S j (nI t)) 19 (t * 6 + a) (hs_mx (S.1 19 (t * 6 + a) - S.1 9 (vN (S.1 13 j)))) := by
  unfold hs_prs
  rw [h]
theorem hs_prs_15 {S : hs_S} {a c j : Nat} (i : Nat) : (hs_prs S a c j).1 15 i = if i = j then nI (hs_to S a c) else S.1 15 i := by
  unfold hs_prs hs_to
  cases (cs_gc S a c).1 <;> rfl
theorem hs_prs_ne {S : hs_S} {a c j i : Nat} (h : i ≠ 15 ∧ i ≠ 16 ∧ i ≠ 17 ∧ i ≠ 18 ∧ i ≠ 19) : (hs_prs S a c j).1 i = S.1 i := by
  unfold hs_prs
  cases (cs_gc S a c).1 with
  | none => exact cs_give_ne _ _ _ h.1 h.2.1 h.2.2.1 h.2.2.2.1
  | some t => exact (hs_su_ne _ _ _ h.2.2.2.2).trans (cs_give_ne _ _ _ h.1 h.2.1 h.2.2.1 h.2.2.2.1)
theorem hs_gc_ne {S : hs_S} {a c t : Nat} (hd : S.1 19 (a * 6 + a) = nI 0) (h : (cs_gc S a c).1 = some t) : t ≠ a := fun e => by
  obtain ⟨h1, h2⟩ := (cs_gc_inv (S := S) (a := a) c).2 t h
  rw [h1, e, hd] at h2
  exact absurd h2 (by decide)
theorem hs_to_ne {S : hs_S} {a c : Nat} (hd : S.1 19 (a * 6 + a) = nI 0) (ha0 : a ≠ 0) (hc : 1 ≤ c) : hs_to S a c ≠ a ∧ hs_to S a c < c := by
  unfold hs_to
  cases h : (cs_gc S a c).1 with
  | none => exact ⟨fun e => ha0 e.symm, hc⟩
  | some t => exact ⟨hs_gc_ne hd h, cs_gc_lt h⟩
theorem hs_prs_d {S : hs_S} {a c j : Nat} (hd : S.1 19 (a * 6 + a) = nI 0) : (hs_prs S a c j).1 19 (a * 6 + a) = nI 0 := by
  cases h : (cs_gc S a c).1 with
  | none => rw [hs_prs_n h]; exact hd
  | some t =>
    rw [hs_prs_t h, hs_su_eq, pk_un (by have := hs_gc_ne hd h; omega)]
    exact hd
theorem hs_prs_C {S : hs_S} {a c nc j : Nat} (hC : mi_C S c nc) (hj : j < nc) (hjo : S.1 15 j = nI a) (ha : a < 6) (ht : hs_to S a c < c) : mi_C (hs_prs S a c j) c nc := fun i hi => by
  obtain ⟨m, x, h1, h2, h3, h4, h5⟩ := hC i hi
  refine ⟨m, x, h1, h2, by rw [hs_prs_ne (by decide)]; exact h3, by rw [hs_prs_ne (by decide)]; exact h4, ?_⟩
  rw [hs_prs_15]
  by_cases e : i = j
  · subst e
    rw [if_pos rfl]
    rcases h5 with ⟨_, h5⟩ | ⟨h5, _⟩
    · rw [hjo] at h5; exact absurd h5 (cx_ne1 (by omega))
    · exact Or.inr ⟨h5, _, ht, rfl⟩
  · rw [if_neg e]; exact h5
def hs_own (S : hs_S) (a : Nat) : Nat → Bool := fun i => decide (S.1 15 i = nI a)
theorem hs_prs_own {S : hs_S} {a c j : Nat} (ha : a < 6) (ht : hs_to S a c ≠ a ∧ hs_to S a c < 6) (hjo : S.1 15 j = nI a) : ∀ i, hs_own (hs_prs S a c j) a i = (hs_own S a i && !(i == j)) := fun i => by
  unfold hs_own
  rw [hs_prs_15]
  by_cases e : i = j
  · subst e
    rw [if_pos rfl, decide_eq_false (fun q => ht.1 ((nI_eq (by omega) (by omega)).mp q))]
    simp
  · rw [if_neg e]
    simp [e]
def hs_pa (a c nc : Nat) : Nat → hs_S → hs_S
  | 0, S => S
  | f + 1, S => match cs_heavy S a nc with
    | none => S
    | some j => hs_pa a c nc f (hs_prs S a c j)
theorem hs_pa_none {a c nc : Nat} {S : hs_S} (h : cs_heavy S a nc = none) : ∀ f, hs_pa a c nc f S = S
  | 0 => rfl
  | f + 1 => by
    unfold hs_pa
    rw [h]
theorem hs_pa_some {a c nc j f : Nat} {S : hs_S} (h : cs_heavy S a nc = some j) : hs_pa a c nc (f + 1) S = hs_pa a c nc f (hs_prs S a c j) := by
  rw [show hs_pa a c nc (f + 1) S = match cs_heavy S a nc with
    | none => S
    | some j => hs_pa a c nc f (hs_prs S a c j) from rfl, h]
def hs_l3 (a : Nat) (T : hs_S) (n : Nat) : hs_S := cx_it (fun h S => hs_su (hs_sl S (S.2 + (S.1 19 (h * 6 + a)).toInt64)) 19 (h * 6 + a) (nI 0)) T n
def hs_l4 (a : Nat) (T : hs_S) (n : Nat) : hs_S := cx_it (fun h S => hs_su (hs_su S 19 (0 * 6 + h) (S.1 19 (0 * 6 + h) + (if h = 0 then nI 0 else S.1 19 (a * 6 + h)))) 19 (a * 6 + h) (nI 0)) T n
def hs_l5 (a : Nat) (T : hs_S) (n : Nat) : hs_S := cx_it (fun m S => hs_su (hs_su S 12 (0 * 2 + m) (S.1 12 (0 * 2 + m) + S.1 12 (a * 2 + m))) 12 (a * 2 + m) (nI 0)) T n
theorem hs_l3_s (a : Nat) (T : hs_S) (j : Nat) : hs_l3 a T (j + 1) = hs_su (hs_sl (hs_l3 a T j) ((hs_l3 a T j).2 + ((hs_l3 a T j).1 19 (j * 6 + a)).toInt64)) 19 (j * 6 + a) (nI 0) := rfl
theorem hs_l4_s (a : Nat) (T : hs_S) (j : Nat) : hs_l4 a T (j + 1) = hs_su (hs_su (hs_l4 a T j) 19 (0 * 6 + j) ((hs_l4 a T j).1 19 (0 * 6 + j) + (if j = 0 then nI 0 else (hs_l4 a T j).1 19 (a * 6 + j)))) 19 (a * 6 + j) (nI 0) := rfl
theorem hs_l5_s (a : Nat) (T : hs_S) (j : Nat) : hs_l5 a T (j + 1) = hs_su (hs_su (hs_l5 a T j) 12 (0 * 2 + j) ((hs_l5 a T j).1 12 (0 * 2 + j) + (hs_l5 a T j).1 12 (a * 2 + j))) 12 (a * 2 + j) (nI 0) := rfl
theorem hs_l3_ne {a : Nat} {T : hs_S} {i : Nat} (h : i ≠ 19) : ∀ n, (hs_l3 a T n).1 i = T.1 i
  | 0 => rfl
  | n + 1 => by rw [hs_l3_s, hs_su_ne _ _ _ h]; exact hs_l3_ne h n
theorem hs_l4_ne {a : Nat} {T : hs_S} {i : Nat} (h : i ≠ 19) : ∀ n, (hs_l4 a T n).1 i = T.1 i
  | 0 => rfl
  | n + 1 => by rw [hs_l4_s, hs_su_ne _ _ _ h, hs_su_ne _ _ _ h]; exact hs_l4_ne h n
theorem hs_l5_ne {a : Nat} {T : hs_S} {i : Nat} (h : i ≠ 12) : ∀ n, (hs_l5 a T n).1 i = T.1 i
  | 0 => rfl
  | n + 1 => by rw [hs_l5_s, hs_su_ne _ _ _ h, hs_su_ne _ _ _ h]; exact hs_l5_ne h n
def hs_fails (S : hs_S) (a c nc : Nat) : hs_S := hs_l5 a (hs_l4 a (hs_l3 a (hs_pa a c nc 90 (hs_su S 8 a (nI 0))) c) c) 2
-- a house is called closed
def hm_mk (G : hk_G) (M : hm_M) (a : Nat) : hm_M := (M.1, ha_up M.2.1 0 (va_up (M.2.1 0) a (some (hk_K G (2000 + 120)))), M.2.2.1, M.2.2.2)
theorem hm_setK {a : Nat} (hk : ha_ok (hm_D S M) A g) (ok : hm_ok G S M A c nc nb) (ha : a < c) (h7 : S.1 7 a = nI 98) : hk_set (hm_h G S M A g) (hm_ed G M A 0) (.inl (5, M.2.2.1 0, .inr (.inr (.inr (.inr (va_up (M.2.1 0) a (some (hk_K G (2000 + 120))))))))) = hm_h G (hs_su S 8 a (nI 0)) (hm_mk G M a) A g ∧ ha_ok (hm_D (hs_su S 8 a (nI 0)) (hm_mk G M a)) A g ∧ hm_ok G (hs_su S 8 a (nI 0)) (hm_mk G M a) A c nc nb := by
  have hg := ok.2.2.2.2.1.1
  have hd : hm_D S M 50 := Or.inr (Or.inr (Or.inl ⟨by omega, by omega, hg⟩))
  have he := hm_set (G := G) (S' := hs_su S 8 a (nI 0)) (M' := hm_mk G M a) (i := 50) (x := .inl (5, M.2.2.1 0, .inr (.inr (.inr (.inr (va_up (M.2.1 0) a (some (hk_K G (2000 + 120))))))))) hk hd (fun j => Iff.rfl) ?_ ?_
  · refine ⟨?_, he.2, ok.1, ok.2.1, ok.2.2.1, ok.2.2.2.1, ⟨hg, fun a1 ha1 => ?_⟩, ?_, ?_, ?_⟩
    · rw [show hm_ed G M A 0 = A 50 from if_pos hg]
      exact he.1
    · rw [show (hm_mk G M a).2.1 0 = va_up (M.2.1 0) a (some (hk_K G (2000 + 120))) from rfl]
      have h8 : (hs_su S 8 a (nI 0)).1 8 a1 = if a1 = a then nI 0 else S.1 8 a1 := rfl
      by_cases e : a1 = a
      · subst e
        unfold hm_k
        rw [h8, if_pos rfl, if_pos (by decide)]
        exact ⟨if_pos rfl, 98, by omega, by omega, h7, fun _ => rfl⟩
      · obtain ⟨q1, k, q2, q3, q4, q5⟩ := ok.2.2.2.2.1.2 a1 ha1
        unfold hm_k
        rw [h8, if_neg e]
        exact ⟨(if_neg e).trans q1, k, q2, q3, q4, q5⟩
    · rw [show (hm_mk G M a).2.1 1 = M.2.1 1 from rfl]; exact ok.2.2.2.2.2.1
    · rw [show (hm_mk G M a).2.1 2 = M.2.1 2 from rfl]; exact ok.2.2.2.2.2.2.1
    · intro j hj
      rw [show (hm_mk G M a).2.1 (3 + j) = M.2.1 (3 + j) from ha_up_ne (f := M.2.1) (by omega)]
      exact ok.2.2.2.2.2.2.2 j hj
  · exact (hm_e50 (G := G) (A := A) (S := hs_su S 8 a (nI 0)) (M := hm_mk G M a) (i := 0) (by omega) (show vN (S.1 32 0) ≤ 12 from hm_v32le ok) hg).trans rfl
  · intro j hD hne
    refine hm_E_pc (fun _ => rfl) (fun _ => rfl) (fun _ => rfl) (fun _ _ _ _ _ => rfl) (fun _ _ _ _ _ => rfl) (fun _ _ _ _ _ => rfl) (fun i _ _ => ?_) (fun i ei => ⟨rfl, ha_up_ne (f := M.2.1) (by omega)⟩) (fun _ _ => rfl) (fun _ _ => rfl) (by unfold hm_D at hD; omega)
    unfold hm_ls
    rw [show hm_n (hs_su S 8 a (nI 0)) i = hm_n S i from rfl]
    rfl
theorem cm_fails {a : Nat} (hfl : l.stackTraces = false) (hk : ha_ok (hm_D S M) A g) (ok : hm_ok G S M A c nc nb) (hC : mi_C S c nc) (ha : a < c) (ha0 : a ≠ 0) (h7 : S.1 7 a = nI 98) (hd : S.1 19 (a * 6 + a) = nI 0) : hk_Ctr G l 8 yX9_fails cX9_fails 4 none 92 368 [.ref (A 0), .int (nI a)] (hm_h G S M A g) (hk_qv fun h1 => ∃ (M9 : hm_M) (g9 : hk_H), M9.1 0 = M.1 0 ∧ hm_ok G (hs_fails S a c nc) M9 A c nc nb ∧ ha_ok (hm_D (hs_fails S a c nc) M9) A g9 ∧ hm_x g g9 ∧ h1 = hm_h G (hs_fails S a c nc) M9 A g9) hk_no := by
  have hc1 := ok.1.2.1
  have hc := ok.1.2.2
  have hnc := ok.2.1.2
  have hnb := ok.2.2.1.2
  unfold hs_fails
  obtain ⟨T, hT0⟩ : ∃ T, T = hs_pa a c nc 90 (hs_su S 8 a (nI 0)) := ⟨_, rfl⟩
  rw [← hT0]
  refine hk_enter (by decide) hfl (Nat.le_of_ble_eq_true rfl) rfl ?_
  refine hk_aload_n dX9_fails_0 rfl rfl rfl ?_
  refine hk_getf dX9_fails_1 rfl fl_X9_16 (hm_g0 hk) rfl ?_
  refine hk_iload_n dX9_fails_4 rfl rfl rfl ?_
  refine hk_bipush (v := nI 120) dX9_fails_5 rfl (by decide) ?_
  refine hk_callS dX9_fails_7 rfl ms_X9_44 (cj_cv hfl (by decide)) rfl rfl (by decide) ⟨Nat.zero_le _, Nat.zero_le _⟩ (Nat.le_of_ble_eq_true rfl) (hk_kr fun x h1 q => ?_) hk_nx
  obtain ⟨rfl, rfl⟩ := q
  obtain ⟨e1, hk1, ok1⟩ := hm_setK hk ok ha h7
  refine hk_callF dX9_fails_10 rfl mf_X9_164 (cj_set hfl (hm_l0 hk ok) (hm_r (i := 0) hk ok (by omega) ok.2.2.2.2.1.1) ha (by rw [← hm_n0 ok]; exact (hm_cap ok ok.2.2.2.2.1.1).1) (Nat.lt_of_le_of_lt (hm_cap ok ok.2.2.2.2.1.1).2.2 (by decide)) (hm_kg ok ha) (Or.inl ⟨120, by omega, rfl⟩)) rfl rfl (hm_l0 hk ok) rfl rfl (by decide) ⟨Nat.zero_le _, Nat.zero_le _⟩ (Nat.le_of_ble_eq_true rfl) (hk_kr fun x h1 q => ?_) hk_nx
  obtain ⟨rfl, rfl⟩ := q
  refine hx_cg e1 ?_
  refine hk_pop dX9_fails_15 rfl rfl ?_
  refine hk_aload_n dX9_fails_16 rfl rfl rfl ?_
  refine hk_iload_n dX9_fails_17 rfl rfl rfl ?_
  refine hk_callV dX9_fails_18 rfl mv_X9_168 (cm_heaviest hfl hk1 ok1 (show mi_C (hs_su S 8 a (nI 0)) c nc from hC) (by omega)) rfl rfl (hm_g0 hk1) rfl rfl (by decide) ⟨by omega, by omega⟩ (Nat.le_of_ble_eq_true rfl) (hk_ko fun rv1 h1 q1 => ?_) hk_nx
  obtain ⟨rfl, g1, x1, hk1, rfl⟩ := q1
  refine hx_astoO dX9_fails_21 rfl rfl (by decide) rfl ?_
  have lp22 : ∀ f F : Nat, ∀ (S2 : hs_S) (g2 : hk_H) (lv3 : Option Value), al_cnt (hs_own S2 a) nc < f → f ≤ F + 1 → hs_pa a c nc F S2 = T → (∀ i, i ≠ 15 ∧ i ≠ 16 ∧ i ≠ 17 ∧ i ≠ 18 ∧ i ≠ 19 → S2.1 i = (hs_su S 8 a (nI 0)).1 i) → mi_C S2 c nc → S2.1 19 (a * 6 + a) = nI 0 → hm_x g g2 → ha_ok (hm_D S2 (hm_mk G M a)) A g2 → hk_W G l 8 yX9_fails cX9_fails 4 none [] (hk_qv fun h1 => ∃ (M9 : hm_M) (g9 : hk_H), M9.1 0 = M.1 0 ∧ hm_ok G (hs_l5 a (hs_l4 a (hs_l3 a T c) c) 2) M9 A c nc nb ∧ ha_ok (hm_D (hs_l5 a (hs_l4 a (hs_l3 a T c) c) 2) M9) A g9 ∧ hm_x g g9 ∧ h1 = hm_h G (hs_l5 a (hs_l4 a (hs_l3 a T c) c) 2) M9 A g9) hk_no (f) (4 * f) (hm_h G S2 (hm_mk G M a) A g2) 22 [some (.ref (A 0)), some (.int (nI a)), some (va_rf ((cs_heavy S2 a nc).map (fun b => A (100 + b)))), lv3] [] := by
    intro f
    induction f with
    | zero => intro F S2 g2 lv3 hf; exact absurd hf (by omega)
    | succ f ih =>
      intro F S2 g2 lv3 hf hfF hT hne hC2 hd2 x2 hk2
      have ok2 := hm_okS ok1 (fun i hi => hne i (by omega))
      rcases hb : cs_heavy S2 a nc with _ | j
      · skip
        refine hk_aload_nN dX9_fails_22 rfl rfl rfl ?_
        refine hk_ifnull_t (tgt := 84) dX9_fails_23 (by decide) ?_
        have eT : S2 = T := (hs_pa_none hb F).symm.trans hT
        subst eT
        refine hk_iconst (v := nI 0) dX9_fails_84 rfl (by decide) ?_
        refine hk_istore_n dX9_fails_85 rfl rfl (by decide) rfl ?_
        have lp86 : ∀ f j : Nat, ∀ lvX : Option Value, j ≤ c → c - j < f → hk_W G l 8 yX9_fails cX9_fails 4 none [] (hk_qv fun h1 => ∃ (M9 : hm_M) (g9 : hk_H), M9.1 0 = M.1 0 ∧ hm_ok G (hs_l5 a (hs_l4 a (hs_l3 a S2 c) c) 2) M9 A c nc nb ∧ ha_ok (hm_D (hs_l5 a (hs_l4 a (hs_l3 a S2 c) c) 2) M9) A g9 ∧ hm_x g g9 ∧ h1 = hm_h G (hs_l5 a (hs_l4 a (hs_l3 a S2 c) c) 2) M9 A g9) hk_no (0) (0) (hm_h G (hs_l3 a S2 j) (hm_mk G M a) A g2) 86 [some (.ref (A 0)), some (.int (nI a)), some (.int (nI j)), lvX] [] := by
          intro f
          induction f with
          | zero => intro j lvX hj hf; exact absurd hf (by omega)
          | succ f ih =>
            intro j lvX hj hf
            have ok6 := hm_okS ok2 (fun i hi => hs_l3_ne (a := a) (T := S2) (by omega) j)
            have hk6 := hm_hkS (fun i hi => hs_l3_ne (a := a) (T := S2) (by omega) j) hk2
            refine hk_iload_n dX9_fails_86 rfl rfl rfl ?_
            refine hk_aload_n dX9_fails_87 rfl rfl rfl ?_
            refine hk_getf dX9_fails_88 rfl fl_X9_16 (hm_g0 hk6) rfl ?_
            refine hk_callF dX9_fails_91 rfl mf_X9_56 (cj_size hfl (hm_l0 hk6 ok6)) rfl rfl (hm_l0 hk6 ok6) rfl rfl (by decide) ⟨Nat.zero_le _, Nat.zero_le _⟩ (Nat.le_of_ble_eq_true rfl) (hk_ki fun v h1 q => ?_) hk_nx
            obtain ⟨rfl, rfl⟩ := q
            refine cx_icmp_ge (tgt := 132) (by omega) (by omega) dX9_fails_96 (by decide) rfl (fun z96 => ?_) (fun z96 => ?_)
            · skip
              refine hk_iconst (v := nI 0) dX9_fails_132 rfl (by decide) ?_
              refine hk_istore_n dX9_fails_133 rfl rfl (by decide) rfl ?_
              have lp134 : ∀ f j : Nat, ∀ lvX : Option Value, j ≤ c → c - j < f → hk_W G l 8 yX9_fails cX9_fails 4 none [] (hk_qv fun h1 => ∃ (M9 : hm_M) (g9 : hk_H), M9.1 0 = M.1 0 ∧ hm_ok G (hs_l5 a (hs_l4 a (hs_l3 a S2 c) c) 2) M9 A c nc nb ∧ ha_ok (hm_D (hs_l5 a (hs_l4 a (hs_l3 a S2 c) c) 2) M9) A g9 ∧ hm_x g g9 ∧ h1 = hm_h G (hs_l5 a (hs_l4 a (hs_l3 a S2 c) c) 2) M9 A g9) hk_no (0) (0) (hm_h G (hs_l4 a (hs_l3 a S2 c) j) (hm_mk G M a) A g2) 134 [some (.ref (A 0)), some (.int (nI a)), some (.int (nI j)), lvX] [] := by
                intro f
                induction f with
                | zero => intro j lvX hj hf; exact absurd hf (by omega)
                | succ f ih =>
                  intro j lvX hj hf
                  have ok7 := hm_okS (hm_okS ok2 (fun i hi => hs_l3_ne (a := a) (T := S2) (by omega) c)) (fun i hi => hs_l4_ne (a := a) (T := hs_l3 a S2 c) (by omega) j)
                  have hk7 := hm_hkS (fun i hi => hs_l4_ne (a := a) (T := hs_l3 a S2 c) (by omega) j) (hm_hkS (fun i hi => hs_l3_ne (a := a) (T := S2) (by omega) c) hk2)
                  refine hk_iload_n dX9_fails_134 rfl rfl rfl ?_
                  refine hk_aload_n dX9_fails_135 rfl rfl rfl ?_
                  refine hk_getf dX9_fails_136 rfl fl_X9_16 (hm_g0 hk7) rfl ?_
                  refine hk_callF dX9_fails_139 rfl mf_X9_56 (cj_size hfl (hm_l0 hk7 ok7)) rfl rfl (hm_l0 hk7 ok7) rfl rfl (by decide) ⟨Nat.zero_le _, Nat.zero_le _⟩ (Nat.le_of_ble_eq_true rfl) (hk_ki fun v h1 q => ?_) hk_nx
                  obtain ⟨rfl, rfl⟩ := q
                  refine cx_icmp_ge (tgt := 189) (by omega) (by omega) dX9_fails_144 (by decide) rfl (fun z144 => ?_) (fun z144 => ?_)
                  · skip
                    refine hk_iconst (v := nI 0) dX9_fails_189 rfl (by decide) ?_
                    refine hk_istore_n dX9_fails_190 rfl rfl (by decide) rfl ?_
                    have lp191 : ∀ f j : Nat, ∀ lvX : Option Value, j ≤ 2 → 2 - j < f → hk_W G l 8 yX9_fails cX9_fails 4 none [] (hk_qv fun h1 => ∃ (M9 : hm_M) (g9 : hk_H), M9.1 0 = M.1 0 ∧ hm_ok G (hs_l5 a (hs_l4 a (hs_l3 a S2 c) c) 2) M9 A c nc nb ∧ ha_ok (hm_D (hs_l5 a (hs_l4 a (hs_l3 a S2 c) c) 2) M9) A g9 ∧ hm_x g g9 ∧ h1 = hm_h G (hs_l5 a (hs_l4 a (hs_l3 a S2 c) c) 2) M9 A g9) hk_no (0) (0) (hm_h G (hs_l5 a (hs_l4 a (hs_l3 a S2 c) c) j) (hm_mk G M a) A g2) 191 [some (.ref (A 0)), some (.int (nI a)), some (.int (nI j)), lvX] [] := by
                      intro f
                      induction f with
                      | zero => intro j lvX hj hf; exact absurd hf (by omega)
                      | succ f ih =>
                        intro j lvX hj hf
                        have ok8 := hm_okS (hm_okS (hm_okS ok2 (fun i hi => hs_l3_ne (a := a) (T := S2) (by omega) c)) (fun i hi => hs_l4_ne (a := a) (T := hs_l3 a S2 c) (by omega) c)) (fun i hi => hs_l5_ne (a := a) (T := hs_l4 a (hs_l3 a S2 c) c) (by omega) j)
                        have hk8 := hm_hkS (fun i hi => hs_l5_ne (a := a) (T := hs_l4 a (hs_l3 a S2 c) c) (by omega) j) (hm_hkS (fun i hi => hs_l4_ne (a := a) (T := hs_l3 a S2 c) (by omega) c) (hm_hkS (fun i hi => hs_l3_ne (a := a) (T := S2) (by omega) c) hk2))
                        refine hk_iload_n dX9_fails_191 rfl rfl rfl ?_
                        refine hk_iconst (v := nI 2) dX9_fails_192 rfl (by decide) ?_
                        refine cx_icmp_ge (tgt := 230) (by omega) (by omega) dX9_fails_193 (by decide) rfl (fun z193 => ?_) (fun z193 => ?_)
                        · skip
                          exact hk_vreturn rfl dX9_fails_230 (by have ej5 : j = 2 := (by omega); subst ej5; exact ⟨rfl, hm_mk G M a, g2, rfl, ok8, hk8, x2, rfl⟩)
                        · skip
                          refine hk_aload_n dX9_fails_196 rfl rfl rfl ?_
                          refine hk_getf dX9_fails_197 rfl fl_X9_29 (hm_g0 hk8) rfl ?_
                          refine hk_iconst (v := nI 0) dX9_fails_200 rfl (by decide) ?_
                          refine hx_aaldI dX9_fails_201 rfl (hm_g3 hk8) (show _ < 6 by omega) (by decide) (if_pos (show _ < 6 by omega)) ?_
                          refine hk_iload_n dX9_fails_202 rfl rfl rfl ?_
                          refine hk_dup2 dX9_fails_203 rfl rfl rfl ?_
                          refine hx_iald dX9_fails_204 rfl (hm_g4 hk8 (by omega)) (show _ < 2 by omega) (by decide) ?_
                          refine cx_top (if_pos (by omega)) ?_
                          refine hk_aload_n dX9_fails_205 rfl rfl rfl ?_
                          refine hk_getf dX9_fails_206 rfl fl_X9_29 (hm_g0 hk8) rfl ?_
                          refine hk_iload_n dX9_fails_209 rfl rfl rfl ?_
                          refine hx_aaldI dX9_fails_210 rfl (hm_g3 hk8) (show _ < 6 by omega) (by decide) (if_pos (show _ < 6 by omega)) ?_
                          refine hk_iload_n dX9_fails_211 rfl rfl rfl ?_
                          refine hx_iald dX9_fails_212 rfl (hm_g4 hk8 (by omega)) (show _ < 2 by omega) (by decide) ?_
                          refine cx_top (if_pos (by omega)) ?_
                          refine hk_iadd dX9_fails_213 rfl ?_
                          refine hx_iast dX9_fails_214 rfl (hm_g4 hk8 (by omega)) (show _ < 2 by omega) (by decide) ?_
                          refine hx_cg (hm_v12 hk8 (by omega) (by omega)) ?_
                          refine hk_aload_n dX9_fails_215 rfl rfl rfl ?_
                          refine hk_getf dX9_fails_216 rfl fl_X9_29 (hm_g0 hk8) rfl ?_
                          refine hk_iload_n dX9_fails_219 rfl rfl rfl ?_
                          refine hx_aaldI dX9_fails_220 rfl (hm_g3 hk8) (show _ < 6 by omega) (by decide) (if_pos (show _ < 6 by omega)) ?_
                          refine hk_iload_n dX9_fails_221 rfl rfl rfl ?_
                          refine hk_iconst (v := nI 0) dX9_fails_222 rfl (by decide) ?_
                          refine hx_iast dX9_fails_223 rfl (hm_g4 hk8 (by omega)) (show _ < 2 by omega) (by decide) ?_
                          refine hx_cg (hm_v12 hk8 (by omega) (by omega)) ?_
                          refine hk_iinc dX9_fails_224 rfl rfl (nI_1 _) (by decide) rfl ?_
                          refine hk_goto (tgt := 191) dX9_fails_227 (by decide) ?_
                          exact ih (j + 1) _ (by omega) (by omega)
                    have ej4 : j = c := (by omega)
                    rw [ej4]
                    exact lp191 (2 + 1) 0 _ (by omega) (by omega)
                  · skip
                    refine hk_aload_n dX9_fails_147 rfl rfl rfl ?_
                    refine hk_getf dX9_fails_148 rfl fl_X9_35 (hm_g0 hk7) rfl ?_
                    refine hk_iconst (v := nI 0) dX9_fails_151 rfl (by decide) ?_
                    refine hx_aaldI dX9_fails_152 rfl (hm_g10 hk7) (show _ < 6 by omega) (by decide) (if_pos (show _ < 6 by omega)) ?_
                    refine hk_iload_n dX9_fails_153 rfl rfl rfl ?_
                    refine hk_dup2 dX9_fails_154 rfl rfl rfl ?_
                    refine hx_iald dX9_fails_155 rfl (hm_g11 hk7 (by omega)) (show _ < 6 by omega) (by decide) ?_
                    refine cx_top (if_pos (by omega)) ?_
                    refine hk_iload_n dX9_fails_156 rfl rfl rfl ?_
                    refine cx_ifn_ne (tgt := 164) (by omega) dX9_fails_157 (by decide) rfl (fun z157 => ?_) (fun z157 => ?_)
                    · skip
                      refine hk_aload_n dX9_fails_164 rfl rfl rfl ?_
                      refine hk_getf dX9_fails_165 rfl fl_X9_35 (hm_g0 hk7) rfl ?_
                      refine hk_iload_n dX9_fails_168 rfl rfl rfl ?_
                      refine hx_aaldI dX9_fails_169 rfl (hm_g10 hk7) (show _ < 6 by omega) (by decide) (if_pos (show _ < 6 by omega)) ?_
                      refine hk_iload_n dX9_fails_170 rfl rfl rfl ?_
                      refine hx_iald dX9_fails_171 rfl (hm_g11 hk7 (by omega)) (show _ < 6 by omega) (by decide) ?_
                      refine cx_top (if_pos (by omega)) ?_
                      refine hk_iadd dX9_fails_172 rfl ?_
                      refine hx_iast dX9_fails_173 rfl (hm_g11 hk7 (by omega)) (show _ < 6 by omega) (by decide) ?_
                      refine hx_cg (hm_v19 hk7 (by omega) (by omega)) ?_
                      refine hk_aload_n dX9_fails_174 rfl rfl rfl ?_
                      refine hk_getf dX9_fails_175 rfl fl_X9_35 (hm_g0 hk7) rfl ?_
                      refine hk_iload_n dX9_fails_178 rfl rfl rfl ?_
                      refine hx_aaldI dX9_fails_179 rfl (hm_g10 hk7) (show _ < 6 by omega) (by decide) (if_pos (show _ < 6 by omega)) ?_
                      refine hk_iload_n dX9_fails_180 rfl rfl rfl ?_
                      refine hk_iconst (v := nI 0) dX9_fails_181 rfl (by decide) ?_
                      refine hx_iast dX9_fails_182 rfl (hm_g11 hk7 (by omega)) (show _ < 6 by omega) (by decide) ?_
                      refine hx_cg (hm_v19 hk7 (by omega) (by omega)) ?_
                      refine hk_iinc dX9_fails_183 rfl rfl (nI_1 _) (by decide) rfl ?_
                      refine hk_goto (tgt := 134) dX9_fails_186 (by decide) ?_
                      have ih4 := fun lvX => ih (j + 1) lvX (by omega) (by omega)
                      rw [hs_l4_s] at ih4
                      first | (rw [if_pos z157] at ih4; exact ih4 _) | (rw [if_neg z157] at ih4; exact ih4 _)
                    · skip
                      refine hk_iconst (v := nI 0) dX9_fails_160 rfl (by decide) ?_
                      refine hk_goto (tgt := 172) dX9_fails_161 (by decide) ?_
                      refine hk_iadd dX9_fails_172 rfl ?_
                      refine hx_iast dX9_fails_173 rfl (hm_g11 hk7 (by omega)) (show _ < 6 by omega) (by decide) ?_
                      refine hx_cg (hm_v19 hk7 (by omega) (by omega)) ?_
                      refine hk_aload_n dX9_fails_174 rfl rfl rfl ?_
                      refine hk_getf dX9_fails_175 rfl fl_X9_35 (hm_g0 hk7) rfl ?_
                      refine hk_iload_n dX9_fails_178 rfl rfl rfl ?_
                      refine hx_aaldI dX9_fails_179 rfl (hm_g10 hk7) (show _ < 6 by omega) (by decide) (if_pos (show _ < 6 by omega)) ?_
                      refine hk_iload_n dX9_fails_180 rfl rfl rfl ?_
                      refine hk_iconst (v := nI 0) dX9_fails_181 rfl (by decide) ?_
                      refine hx_iast dX9_fails_182 rfl (hm_g11 hk7 (by omega)) (show _ < 6 by omega) (by decide) ?_
                      refine hx_cg (hm_v19 hk7 (by omega) (by omega)) ?_
                      refine hk_iinc dX9_fails_183 rfl rfl (nI_1 _) (by decide) rfl ?_
                      refine hk_goto (tgt := 134) dX9_fails_186 (by decide) ?_
                      have ih4 := fun lvX => ih (j + 1) lvX (by omega) (by omega)
                      rw [hs_l4_s] at ih4
                      first | (rw [if_pos z157] at ih4; exact ih4 _) | (rw [if_neg z157] at ih4; exact ih4 _)
              have ej : j = c := (by omega)
              rw [ej]
              exact lp134 (c + 1) 0 _ (by omega) (by omega)
            · skip
              refine hk_aload_n dX9_fails_99 rfl rfl rfl ?_
              refine hk_dup dX9_fails_100 rfl rfl ?_
              refine hk_getf dX9_fails_101 rfl fl_X9_178 (hm_g0 hk6) rfl ?_
              refine hk_aload_n dX9_fails_104 rfl rfl rfl ?_
              refine hk_getf dX9_fails_105 rfl fl_X9_35 (hm_g0 hk6) rfl ?_
              refine hk_iload_n dX9_fails_108 rfl rfl rfl ?_
              refine hx_aaldI dX9_fails_109 rfl (hm_g10 hk6) (show _ < 6 by omega) (by decide) (if_pos (show _ < 6 by omega)) ?_
              refine hk_iload_n dX9_fails_110 rfl rfl rfl ?_
              refine hx_iald dX9_fails_111 rfl (hm_g11 hk6 (by omega)) (show _ < 6 by omega) (by decide) ?_
              refine cx_top (if_pos (by omega)) ?_
              refine hk_i2l dX9_fails_112 rfl ?_
              refine hk_ladd dX9_fails_113 rfl ?_
              refine hk_putf dX9_fails_114 rfl (fw_X9_178 rfl) (hm_g0 hk6) rfl rfl (Nat.lt_of_lt_of_eq (by decide : 7 < 11) rfl) ?_
              refine hx_cg (hm_vl hk6) ?_
              refine hk_aload_n dX9_fails_117 rfl rfl rfl ?_
              refine hk_getf dX9_fails_118 rfl fl_X9_35 (hm_g0 hk6) rfl ?_
              refine hk_iload_n dX9_fails_121 rfl rfl rfl ?_
              refine hx_aaldI dX9_fails_122 rfl (hm_g10 hk6) (show _ < 6 by omega) (by decide) (if_pos (show _ < 6 by omega)) ?_
              refine hk_iload_n dX9_fails_123 rfl rfl rfl ?_
              refine hk_iconst (v := nI 0) dX9_fails_124 rfl (by decide) ?_
              refine hx_iast dX9_fails_125 rfl (hm_g11 hk6 (by omega)) (show _ < 6 by omega) (by decide) ?_
              refine hx_cg (hm_v19 hk6 (by omega) (by omega)) ?_
              refine hk_iinc dX9_fails_126 rfl rfl (nI_1 _) (by decide) rfl ?_
              refine hk_goto (tgt := 86) dX9_fails_129 (by decide) ?_
              exact ih (j + 1) _ (by omega) (by omega)
        refine hk_bud (Nat.zero_le _) (Nat.zero_le _) (lp86 (c + 1) 0 _ (by omega) (by omega))
      · obtain ⟨hjn, hoj⟩ := cs_heavy_lt hb
        have hcp : 1 ≤ al_cnt (hs_own S2 a) nc := al_cnt_pos hjn (decide_eq_true hoj)
        obtain ⟨F, rfl⟩ : ∃ F0, F = F0 + 1 := ⟨F - 1, by omega⟩
        obtain ⟨m3, x3, hm3, hx3, e13, e14, z3⟩ := hC2 j hjn
        have vm3 : vN (S2.1 13 j) = m3 := by rw [e13]; exact vN_nI (by omega)
        have htn := hs_to_ne (c := c) hd2 ha0 hc1
        refine hk_aload_n dX9_fails_22 rfl rfl rfl ?_
        refine hk_ifnull_f dX9_fails_23 rfl ?_
        refine hk_aload_n dX9_fails_26 rfl rfl rfl ?_
        refine hk_iload_n dX9_fails_27 rfl rfl rfl ?_
        refine hk_callV dX9_fails_28 rfl mv_X9_172 (cm_greatest hfl hk2 ok2 (by omega)) rfl rfl (hm_g0 hk2) rfl rfl (by decide) ⟨Nat.zero_le _, Nat.zero_le _⟩ (Nat.le_of_ble_eq_true rfl) (hk_ki fun rv1 h1 q1 => ?_) hk_nx
        obtain ⟨rfl, rfl⟩ := q1
        rcases hg : (cs_gc S2 a c).1 with _ | t
        · skip
          refine hk_istore_n dX9_fails_31 rfl rfl (by decide) rfl ?_
          refine hk_aload_n dX9_fails_32 rfl rfl rfl ?_
          refine hk_iconst (v := nI 0) dX9_fails_33 rfl (by decide) ?_
          refine hk_iload_n dX9_fails_34 rfl rfl rfl ?_
          refine cx_mmax dX9_fails_35 rfl ms_X9_175 (by decide) (Nat.le_of_ble_eq_true rfl) ?_
          refine cx_top (show _ = nI 0 from by decide) ?_
          refine hk_callV dX9_fails_38 rfl mv_X9_142 (cm_goes hfl hk2 ok2 hjn) rfl rfl (hm_coi hk2 ok2 hjn) rfl rfl (by decide) ⟨Nat.zero_le _, Nat.zero_le _⟩ (Nat.le_of_ble_eq_true rfl) (hk_kv fun h1 q1 => ?_) hk_nx
          subst q1
          refine hk_iload_n dX9_fails_41 rfl rfl rfl ?_
          refine hk_if_lt (tgt := 75) dX9_fails_42 (by decide) rfl (fun z42 => ?_) (fun z42 => ?_)
          · skip
            refine hx_cg (congrArg (fun S0 => hm_h G S0 (hm_mk G M a) A g2) (show _ = hs_prs S2 a c j from (hs_prs_n hg).symm)) ?_
            have hC3 := hs_prs_C hC2 hjn hoj (by omega) htn.2
            have ok3 := hm_okS (S' := hs_prs S2 a c j) ok2 (fun i hi => hs_prs_ne (by omega))
            have hk3 := hm_hkS (S' := hs_prs S2 a c j) (fun i hi => hs_prs_ne (by omega)) hk2
            have hT2 : hs_pa a c nc F (hs_prs S2 a c j) = T := by rw [← hT, hs_pa_some hb]
            have hcn : al_cnt (hs_own (hs_prs S2 a c j) a) nc < f := (by have := al_cnt_rem (hs_prs_own (S := S2) (c := c) (j := j) (by omega) ⟨htn.1, by omega⟩ hoj) (decide_eq_true hoj) nc; rw [if_pos hjn] at this; omega)
            refine hk_aload_n dX9_fails_75 rfl rfl rfl ?_
            refine hk_iload_n dX9_fails_76 rfl rfl rfl ?_
            refine hk_callV dX9_fails_77 rfl mv_X9_168 (cm_heaviest hfl hk3 ok3 hC3 (by omega)) rfl rfl (hm_g0 hk3) rfl rfl (by decide) ⟨by omega, by omega⟩ (Nat.le_of_ble_eq_true rfl) (hk_ko fun rv1 h1 q1 => ?_) hk_nx
            obtain ⟨rfl, g4, x4, hk4, rfl⟩ := q1
            refine hx_astoO dX9_fails_80 rfl rfl (by decide) rfl ?_
            refine hk_goto (tgt := 22) dX9_fails_81 (by decide) ?_
            refine hk_bud (by omega) (by omega) (ih F _ g4 _ hcn (by omega) hT2 (fun i hi => (hs_prs_ne hi).trans (hne i hi)) hC3 (hs_prs_d hd2) (x2.tr x4) hk4)
          · exact absurd (show cs_o none < 0 by decide) z42
        · have htc := cs_gc_lt hg
          refine cx_top (show cs_o (some t) = nI t from rfl) ?_
          refine hk_istore_n dX9_fails_31 rfl rfl (by decide) rfl ?_
          refine hk_aload_n dX9_fails_32 rfl rfl rfl ?_
          refine hk_iconst (v := nI 0) dX9_fails_33 rfl (by decide) ?_
          refine hk_iload_n dX9_fails_34 rfl rfl rfl ?_
          refine cx_mmax dX9_fails_35 rfl ms_X9_175 (by decide) (Nat.le_of_ble_eq_true rfl) ?_
          refine cx_top ((cx_max 0 t (by omega) (by omega)).trans (congrArg nI (Nat.max_eq_right (Nat.zero_le t)))) ?_
          refine hk_callV dX9_fails_38 rfl mv_X9_142 (cm_goes hfl hk2 ok2 hjn) rfl rfl (hm_coi hk2 ok2 hjn) rfl rfl (by decide) ⟨Nat.zero_le _, Nat.zero_le _⟩ (Nat.le_of_ble_eq_true rfl) (hk_kv fun h1 q1 => ?_) hk_nx
          subst q1
          refine hk_iload_n dX9_fails_41 rfl rfl rfl ?_
          refine hk_if_lt (tgt := 75) dX9_fails_42 (by decide) rfl (fun z42 => ?_) (fun z42 => ?_)
          · exact absurd z42 (nI_pos (by omega))
          · skip
            refine hk_aload_n dX9_fails_45 rfl rfl rfl ?_
            refine hk_getf dX9_fails_46 rfl fl_X9_35 (hm_g0 hk2) rfl ?_
            refine hk_iload_n dX9_fails_49 rfl rfl rfl ?_
            refine hx_aaldI dX9_fails_50 rfl (hm_g10 hk2) (show _ < 6 by omega) (by decide) (if_pos (show _ < 6 by omega)) ?_
            refine hk_iload_n dX9_fails_51 rfl rfl rfl ?_
            refine hk_iconst (v := nI 0) dX9_fails_52 rfl (by decide) ?_
            refine hk_aload_n dX9_fails_53 rfl rfl rfl ?_
            refine hk_getf dX9_fails_54 rfl fl_X9_35 (hm_g0 hk2) rfl ?_
            refine hk_iload_n dX9_fails_57 rfl rfl rfl ?_
            refine hx_aaldI dX9_fails_58 rfl (hm_g10 hk2) (show _ < 6 by omega) (by decide) (if_pos (show _ < 6 by omega)) ?_
            refine hk_iload_n dX9_fails_59 rfl rfl rfl ?_
            refine hx_iald dX9_fails_60 rfl (hm_g11 hk2 (by omega)) (show _ < 6 by omega) (by decide) ?_
            refine cx_top (if_pos (by omega)) ?_
            refine hk_aload_n dX9_fails_61 rfl rfl rfl ?_
            refine hk_getf dX9_fails_62 rfl fl_X9_20 (hm_g0 hk2) rfl ?_
            refine hk_aload_n dX9_fails_65 rfl rfl rfl ?_
            refine hk_getf dX9_fails_66 rfl fl_X9_115 (hm_coi hk2 ok2 (by omega)) rfl ?_
            refine cx_top e13 ?_
            refine hx_iald dX9_fails_69 rfl (hm_g1 hk2) (show _ < 2 by omega) (by decide) ?_
            refine hk_isub dX9_fails_70 rfl ?_
            refine cx_mmax dX9_fails_71 rfl ms_X9_175 (by decide) (Nat.le_of_ble_eq_true rfl) ?_
            refine hx_iast dX9_fails_74 rfl (hm_g11 hk2 (by omega)) (show _ < 6 by omega) (by decide) ?_
            refine hx_cg (hm_v19 hk2 (by omega) (by omega)) ?_
            refine hx_cg (congrArg (fun S0 => hm_h G S0 (hm_mk G M a) A g2) (show _ = hs_prs S2 a c j from (by rw [hs_prs_t hg, vm3]; rfl))) ?_
            have hC3 := hs_prs_C hC2 hjn hoj (by omega) htn.2
            have ok3 := hm_okS (S' := hs_prs S2 a c j) ok2 (fun i hi => hs_prs_ne (by omega))
            have hk3 := hm_hkS (S' := hs_prs S2 a c j) (fun i hi => hs_prs_ne (by omega)) hk2
            have hT2 : hs_pa a c nc F (hs_prs S2 a c j) = T := by rw [← hT, hs_pa_some hb]
            have hcn : al_cnt (hs_own (hs_prs S2 a c j) a) nc < f := (by have := al_cnt_rem (hs_prs_own (S := S2) (c := c) (j := j) (by omega) ⟨htn.1, by omega⟩ hoj) (decide_eq_true hoj) nc; rw [if_pos hjn] at this; omega)
            refine hk_aload_n dX9_fails_75 rfl rfl rfl ?_
            refine hk_iload_n dX9_fails_76 rfl rfl rfl ?_
            refine hk_callV dX9_fails_77 rfl mv_X9_168 (cm_heaviest hfl hk3 ok3 hC3 (by omega)) rfl rfl (hm_g0 hk3) rfl rfl (by decide) ⟨by omega, by omega⟩ (Nat.le_of_ble_eq_true rfl) (hk_ko fun rv1 h1 q1 => ?_) hk_nx
            obtain ⟨rfl, g4, x4, hk4, rfl⟩ := q1
            refine hx_astoO dX9_fails_80 rfl rfl (by decide) rfl ?_
            refine hk_goto (tgt := 22) dX9_fails_81 (by decide) ?_
            refine hk_bud (by omega) (by omega) (ih F _ g4 _ hcn (by omega) hT2 (fun i hi => (hs_prs_ne hi).trans (hne i hi)) hC3 (hs_prs_d hd2) (x2.tr x4) hk4)
  refine hk_bud (by omega) (by omega) (lp22 (nc + 1) 90 (hs_su S 8 a (nI 0)) g1 _ (by have := al_cnt_le (hs_own (hs_su S 8 a (nI 0)) a) nc; omega) (by omega) hT0.symm (fun i hi => rfl) hC hd x1 hk1)
end CM13

section CXN0
variable {G : hk_G} {l : Launch} {d : Nat} {y : MethodName} {b : ByteArray} {nL : Nat} {ret : Option FieldType} {hh : List (Nat × Nat × Nat × Nat)} {Q : Option Value → hk_H → Prop} {X : String → hk_H → Prop} {k n : Nat} {h : hk_H} {pc pc' : Nat} {lv : List (Option Value)} {st : List Value}
theorem cx_ifn_le {a : Nat} {off : Int} {tgt : Nat} (ha : a < 2 ^ 31) (hd : decode b pc = .ok (.ifCond .le off, 3)) (ht : (pc : Int) + off = (tgt : Int)) (hp : pc + 3 = pc') (kt : a = 0 → hk_W G l d y b nL ret hh Q X k n h tgt lv st) (kf : ¬ a = 0 → hk_W G l d y b nL ret hh Q X k n h pc' lv st) : hk_W G l d y b nL ret hh Q X k n h pc lv (.int (nI a) :: st) := hk_if_le hd ht hp (fun z => kt (by
  by_cases y : a = 0
  · exact y
  · exact absurd z (nI_nle (by omega) ha))) (fun z => kf (fun y => z (by rw [y]; decide)))
end CXN0
-- WHAT THE CLASS DOES: checks, as numbers (0: passed; 1 index, 2 argument, 3 state, 4 unsupported, 5 arithmetic)
def cs_ex (k : Nat) : String := match k with
  | 1 => "java/lang/IndexOutOfBoundsException"
  | 2 => "java/lang/IllegalArgumentException"
  | 3 => "java/lang/IllegalStateException"
  | 4 => "java/lang/UnsupportedOperationException"
  | _ => "java/lang/ArithmeticException"
def cs_sq (a b : Nat) : Nat := if a = 0 then b else a
theorem cs_thr {k k' : Nat} {E : String} (e : k' = k) (c : ¬ k = 0 ∧ E = cs_ex k) : ¬ k' = 0 ∧ E = cs_ex k' := by subst e; exact c
def vN (v : Int32) : Nat := v.toNatClampNeg
theorem vN_nI {a : Nat} (h : a < 2 ^ 31) : vN (nI a) = a := nI_clamp h
def cd_H (c : Nat) (v : Int32) : Nat := if v < 0 then 1 else (if v < nI c then 0 else 1)
theorem cd_H_of {c : Nat} {v : Int32} (hc : c < 2 ^ 31) (h : cd_H c v = 0) : ∃ a : Nat, a < c ∧ v = nI a := by
  unfold cd_H at h
  split at h
  · cases h
  · rename_i h0
    split at h
    · rename_i h1
      obtain ⟨j, hj, rfl⟩ := nI_of h0
      exact ⟨j, (nI_ltI hj hc).mp h1, rfl⟩
    · cases h
theorem cd_H_nI {c a : Nat} (hc : c < 2 ^ 31) (h : a < c) : cd_H c (nI a) = 0 := by
  unfold cd_H
  rw [if_neg (nI_pos (by omega)), if_pos (nI_lt h hc)]
def cd_M (v : Int32) : Nat := if v = nI 103 then 0 else (if v = nI 115 then 0 else 2)
def cs_m (v : Int32) : Nat := if v = nI 103 then 0 else 1
theorem cs_m_lt (v : Int32) : cs_m v < 2 := by unfold cs_m; split <;> omega
def cd_R (v : Int32) (k : Nat) : Nat := if v < nI 1 then 2 else (if v ≤ nI k then 0 else 2)
theorem cd_R_of {k : Nat} {v : Int32} (hk : k < 2 ^ 31) (h : cd_R v k = 0) : ∃ a : Nat, 1 ≤ a ∧ a ≤ k ∧ v = nI a := by
  unfold cd_R at h
  split at h
  · cases h
  · rename_i h0
    split at h
    · rename_i h1
      have h2 : ¬ v < 0 := fun q => h0 (Int32.lt_trans q (by decide))
      obtain ⟨j, hj, rfl⟩ := nI_of h2
      refine ⟨j, ?_, (nI_leI hj hk).mp h1, rfl⟩
      by_cases e : j = 0
      · subst e; exact absurd (by decide) h0
      · omega
    · cases h
def cd_D (v q : Int32) : Nat := if v = q then 2 else 0
def cd_O (S : hs_S) (a : Nat) : Nat := if S.1 8 a = 0 then 3 else 0
def cd_W (S : hs_S) (j : Nat) : Nat := if S.1 15 j = -1 then 4 else 0
def cd_L (S : hs_S) (a m k c : Nat) : Nat := if k ≤ cs_loose S a m c then 0 else 4
def cd_C (S : hs_S) (a q : Nat) (v : Int32) : Nat := if v ≤ S.1 19 (a * 6 + q) then 0 else 4
def cd_B (S : hs_S) (q : Nat) : Nat := if S.1 7 q = nI 98 then 0 else 2
def cd_K (S : hs_S) (a q : Nat) : Nat := cs_sq (cd_D (nI a) (nI q)) (cs_sq (cd_B S q) (cs_sq (cd_O S a) (cd_O S q)))
def cd_U (S : hs_S) (c : Nat) : Nat := if cs_unm S c = 0 then 5 else 0
def cd_Ss (S : hs_S) (v j : Nat) : Nat := if S.1 27 (v * 6 + j) = 0 then 0 else cd_O S j
def cd_S (S : hs_S) (v n : Nat) : Nat := cx_it (fun j k => cs_sq k (cd_Ss S v j)) 0 n
theorem cd_S_s (S : hs_S) (v j : Nat) : cd_S S v (j + 1) = cs_sq (cd_S S v j) (cd_Ss S v j) := rfl
theorem cs_sq_n {a b : Nat} (h : ¬ a = 0) : cs_sq a b = a := if_neg h
theorem cs_sq_0 {a b : Nat} (h : a = 0) : cs_sq a b = b := if_pos h
theorem cd_S_mono {S : hs_S} {v j : Nat} (h : ¬ cd_S S v j = 0) : ∀ i : Nat, cd_S S v (j + i) = cd_S S v j
  | 0 => rfl
  | i + 1 => by rw [← Nat.add_assoc, cd_S_s, cd_S_mono h i, cs_sq_n h]
-- minting
def cs_one (S : hs_S) (a m : Nat) (v : Int32) (c : Nat) : hs_S := cs_add (cs_oadd S a m (-v)) c (nI a) (nI m) v
def cs_stk (a m : Nat) (v : Int32) : Nat → hs_S → Nat → hs_S × Nat
  | 0, S, _ => (S, 0)
  | f + 1, S, c => if c < 90 then (if S.1 12 (a * 2 + m) < v then (S, 0) else ((cs_stk a m v f (cs_one S a m v c) (c + 1)).1, (cs_stk a m v f (cs_one S a m v c) (c + 1)).2 + 1)) else (S, 0)
theorem cs_stk_s (a m : Nat) (v : Int32) (f : Nat) (S : hs_S) (c : Nat) : cs_stk a m v (f + 1) S c = if c < 90 then (if S.1 12 (a * 2 + m) < v then (S, 0) else ((cs_stk a m v f (cs_one S a m v c) (c + 1)).1, (cs_stk a m v f (cs_one S a m v c) (c + 1)).2 + 1)) else (S, 0) := rfl
-- a bank that fails
def cs_pcs (q c : Nat) (S : hs_S) : hs_S := match cs_heavy S q c with
  | none => S
  | some j => match (cs_gc S q 6).1 with
    | none => S
    | some t => cs_cadd (cs_give S j (nI t)) t q (-(cs_min (S.1 19 (t * 6 + q)) (S.1 9 (vN (S.1 13 j)))))
def cs_pc (q c : Nat) (S : hs_S) (n : Nat) : hs_S := cx_it (fun _ S => cs_pcs q c S) S n
theorem cs_pc_s (q c : Nat) (S : hs_S) (j : Nat) : cs_pc q c S (j + 1) = cs_pcs q c (cs_pc q c S j) := by
  unfold cs_pc
  exact cx_it1 _ _ _
theorem cs_pc_fix {q c : Nat} {S : hs_S} {j : Nat} (h : cs_pcs q c (cs_pc q c S j) = cs_pc q c S j) : ∀ i : Nat, cs_pc q c S (j + i) = cs_pc q c S j
  | 0 => rfl
  | i + 1 => by rw [← Nat.add_assoc, cs_pc_s, cs_pc_fix h i, h]
theorem cs_give_ne (S : hs_S) {i : Nat} (j : Nat) (v : Int32) (h1 : i ≠ 15) (h2 : i ≠ 16) (h3 : i ≠ 17) (h4 : i ≠ 18) : (cs_give S j v).1 i = S.1 i := by
  unfold cs_give
  rw [hs_su_ne _ _ _ h3, hs_su_ne _ _ _ h2, hs_su_ne _ _ _ h4, hs_su_ne _ _ _ h1]
theorem cs_pcs_ne (q c : Nat) (S : hs_S) {i : Nat} (h1 : i ≠ 15) (h2 : i ≠ 16) (h3 : i ≠ 17) (h4 : i ≠ 18) (h5 : i ≠ 19) : (cs_pcs q c S).1 i = S.1 i := by
  unfold cs_pcs
  split
  · rfl
  · split
    · rfl
    · unfold cs_cadd
      rw [hs_su_ne _ _ _ h5, cs_give_ne _ _ _ h1 h2 h3 h4]
theorem cs_pc_ne (q c : Nat) (S : hs_S) {i : Nat} (h1 : i ≠ 15) (h2 : i ≠ 16) (h3 : i ≠ 17) (h4 : i ≠ 18) (h5 : i ≠ 19) : ∀ n : Nat, (cs_pc q c S n).1 i = S.1 i
  | 0 => rfl
  | n + 1 => by rw [cs_pc_s, cs_pcs_ne _ _ _ h1 h2 h3 h4 h5, cs_pc_ne q c S h1 h2 h3 h4 h5 n]
def cs_f1 (S : hs_S) (q c : Nat) : hs_S := cs_pc q c (hs_su S 8 q (nI 0)) 90
def cs_f2 (S : hs_S) (q c : Nat) : hs_S := hs_sl (cs_drp q (cs_f1 S q c) 6) ((cs_f1 S q c).2 + cs_son (cs_f1 S q c) q 6)
def cs_f3 (S : hs_S) (q c : Nat) : hs_S := cs_ga q 0 (cs_f2 S q c) c
def cs_f4 (S : hs_S) (q c n : Nat) : hs_S := cx_it (fun j S => cs_mv S q 0 j) (cs_f3 S q c) n
def cs_fail (S : hs_S) (q c : Nat) : hs_S := cs_lv q (cs_f4 S q c 2) 6
theorem cs_drp_ne (a : Nat) (S : hs_S) {i : Nat} (h : i ≠ 19) : ∀ n : Nat, (cs_drp a S n).1 i = S.1 i
  | 0 => rfl
  | n + 1 => by rw [cs_drp_s, hs_su_ne _ _ _ h, cs_drp_ne a S h n]
theorem cs_f2_31 (S : hs_S) (q c : Nat) : (cs_f2 S q c).1 31 0 = S.1 31 0 := by
  show (cs_drp q (cs_f1 S q c) 6).1 31 0 = _
  rw [cs_drp_ne _ _ (by decide)]
  unfold cs_f1
  rw [cs_pc_ne _ _ _ (by decide) (by decide) (by decide) (by decide) (by decide)]
  rfl
-- a bill that comes due
def cs_fols (S : hs_S) (j e q : Nat) (z : Option Nat) : Option Nat := match z with
  | some t => some t
  | none => if S.1 8 (vN (cs_liab S j e q)) = 0 then none else some (vN (cs_liab S j e q))
def cs_fol (S : hs_S) (j e n : Nat) : Option Nat := cx_it (cs_fols S j e) none n
theorem cs_fol_s (S : hs_S) (j e q : Nat) : cs_fol S j e (q + 1) = cs_fols S j e q (cs_fol S j e q) := rfl
theorem cs_fol_mono {S : hs_S} {j e q t : Nat} (h : cs_fol S j e q = some t) : ∀ i : Nat, cs_fol S j e (q + i) = some t
  | 0 => h
  | i + 1 => by rw [← Nat.add_assoc, cs_fol_s, cs_fol_mono h i]; rfl
def cs_set (S : hs_S) (j e : Nat) : hs_S × Bool := if S.1 24 j = -1 then (hs_su S 24 j (-1), false) else (if S.1 8 (vN (S.1 24 j)) = 0 then (hs_su S 24 j (-1), false) else (match cs_fol (hs_su S 24 j (-1)) j e (2 + e) with
  | none => (hs_su S 24 j (-1), false)
  | some t => if t = vN (S.1 24 j) then (hs_su S 24 j (-1), false) else (cs_cadd (hs_su S 24 j (-1)) (vN (S.1 24 j)) t (S.1 22 j), true)))
theorem cs_set_ne (S : hs_S) (j e : Nat) {i : Nat} (h1 : i ≠ 19) (h2 : i ≠ 24) : (cs_set S j e).1.1 i = S.1 i := by
  unfold cs_set
  split
  · exact hs_su_ne _ _ _ h2
  · split
    · exact hs_su_ne _ _ _ h2
    · split
      · exact hs_su_ne _ _ _ h2
      · split
        · exact hs_su_ne _ _ _ h2
        · show (hs_su _ 19 _ _).1 i = _
          rw [hs_su_ne _ _ _ h1, hs_su_ne _ _ _ h2]
theorem cs_set_24 (S : hs_S) (j e i : Nat) : (cs_set S j e).1.1 24 i = if i = j then -1 else S.1 24 i := by
  have h : (hs_su S 24 j (-1)).1 24 i = if i = j then -1 else S.1 24 i := by
    rw [hs_su_eq]
    rfl
  unfold cs_set
  split
  · exact h
  · split
    · exact h
    · split
      · exact h
      · split
        · exact h
        · exact h
theorem cs_fol_lt {S : hs_S} {j e c : Nat} (hl : ∀ q, q < 2 + e → ∃ a, a < c ∧ cs_liab S j e q = nI a) (hc : c ≤ 6 := by omega) : ∀ {n t : Nat}, cs_fol S j e n = some t → n ≤ 2 + e → t < c
  | 0, t, h, _ => by cases h
  | n + 1, t, h, hn => by
    rw [cs_fol_s] at h
    unfold cs_fols at h
    split at h
    · rename_i t' ht'
      cases h
      exact cs_fol_lt hl hc ht' (by omega)
    · obtain ⟨a, ha, hav⟩ := hl n (by omega)
      rw [hav, vN_nI (by omega)] at h
      split at h
      · cases h
      · cases h; exact ha
def cs_nds (j : Nat) (p : hs_S × Nat) : hs_S × Nat := if cs_due p.1 j = true then ((cs_set p.1 j (vN (p.1.1 26 j))).1, if (cs_set p.1 j (vN (p.1.1 26 j))).2 = true then p.2 + 1 else p.2) else p
def cs_nd (S : hs_S) (n : Nat) : hs_S × Nat := cx_it cs_nds (hs_su S 33 0 (S.1 33 0 + nI 1), 0) n
theorem cs_nd_s (S : hs_S) (j : Nat) : cs_nd S (j + 1) = cs_nds j (cs_nd S j) := by
  unfold cs_nd
  exact cx_it1 _ _ _
theorem cs_nd_ne (S : hs_S) {i : Nat} (h1 : i ≠ 19) (h2 : i ≠ 24) (h3 : i ≠ 33) : ∀ n : Nat, (cs_nd S n).1.1 i = S.1 i
  | 0 => hs_su_ne _ _ _ h3
  | n + 1 => by
    rw [cs_nd_s]
    unfold cs_nds
    split
    · show (cs_set _ _ _).1.1 i = _
      rw [cs_set_ne _ _ _ h1 h2, cs_nd_ne S h1 h2 h3 n]
    · exact cs_nd_ne S h1 h2 h3 n
theorem cs_nd_24 (S : hs_S) (i : Nat) : ∀ n : Nat, (cs_nd S n).1.1 24 i = -1 ∨ (cs_nd S n).1.1 24 i = S.1 24 i
  | 0 => Or.inr rfl
  | n + 1 => by
    rw [cs_nd_s]
    unfold cs_nds
    split
    · show (cs_set _ _ _).1.1 24 i = -1 ∨ (cs_set _ _ _).1.1 24 i = _
      rw [cs_set_24]
      split
      · exact Or.inl rfl
      · exact cs_nd_24 S i n
    · exact cs_nd_24 S i n
-- wealth, parts of a loss
def cs_wf (S : hs_S) (a c n : Nat) : Int64 := cx_it (fun j v => v + (nI (cs_owned S a j c)).toInt64 * (S.1 9 j).toInt64) 0 n
theorem cs_wf_s (S : hs_S) (a c j : Nat) : cs_wf S a c (j + 1) = cs_wf S a c j + (nI (cs_owned S a j c)).toInt64 * (S.1 9 j).toInt64 := rfl
def cs_lsh (S : hs_S) (c n : Nat) : Nat := cx_it (fun j v => v + cs_ltr S j (S.1 10 j) c) 0 n
theorem cs_lsh_s (S : hs_S) (c j : Nat) : cs_lsh S c (j + 1) = cs_lsh S c j + cs_ltr S j (S.1 10 j) c := rfl
def cs_tvs (a j : Nat) (S : hs_S) : hs_S := if j = a then S else cs_cadd S a j (S.1 28 j)
def cs_tv (a : Nat) (S : hs_S) (n : Nat) : hs_S := cx_it (cs_tvs a) S n
theorem cs_tv_s (a : Nat) (S : hs_S) (j : Nat) : cs_tv a S (j + 1) = cs_tvs a j (cs_tv a S j) := rfl
def cs_sumof (S : hs_S) (n : Nat) : Int64 := cx_it (fun j v => v + cs_sof S j 6) 0 n
theorem cs_sumof_s (S : hs_S) (j : Nat) : cs_sumof S (j + 1) = cs_sumof S j + cs_sof S j 6 := rfl
def cs_sumon (S : hs_S) (n : Nat) : Int64 := cx_it (fun j v => v + cs_son S j 6) 0 n
theorem cs_sumon_s (S : hs_S) (j : Nat) : cs_sumon S (j + 1) = cs_sumon S j + cs_son S j 6 := rfl
-- what must hold of the memory so that every place is there
def cx_I (S : hs_S) (c nc nb : Nat) : Prop := S.1 30 0 = nI c ∧ c ≤ 6 ∧ S.1 31 0 = nI nc ∧ nc ≤ 90 ∧ S.1 32 0 = nI nb ∧ nb ≤ 12 ∧
  (∀ j, narrow .char (.int (S.1 7 j)) = .int (S.1 7 j)) ∧ (∀ j, narrow .boolean (.int (S.1 8 j)) = .int (S.1 8 j)) ∧ (∀ j, narrow .boolean (.int (S.1 17 j)) = .int (S.1 17 j)) ∧
  (∀ j, j < nc → ∃ m, m < 2 ∧ S.1 13 j = nI m) ∧ (∀ j, j < nc → S.1 15 j = -1 ∨ ∃ a, a < c ∧ S.1 15 j = nI a) ∧
  (∀ j, j < nb → S.1 24 j = -1 ∨ ∃ a, a < c ∧ S.1 24 j = nI a) ∧ (∀ j, j < nb → ∃ e, e ≤ 5 ∧ S.1 26 j = nI e ∧ ∀ q, q < 2 + e → ∃ a, a < c ∧ cs_liab S j e q = nI a)
theorem lg_cmp_0 {x z : Int64} : lg_cmp x z = 0 ↔ x = z := by
  unfold lg_cmp
  constructor
  · intro h
    split at h
    · exact absurd h (by decide)
    · split at h
      · rename_i q
        exact q
      · exact absurd h (by decide)
  · intro h
    subst h
    rw [if_neg (fun q => Int64.lt_irrefl q), if_pos rfl]
theorem cs_loose_le (S : hs_S) (a m : Nat) : ∀ n : Nat, cs_loose S a m n ≤ n
  | 0 => Nat.le_refl _
  | n + 1 => by
    rw [cs_loose_s]
    have := cs_loose_le S a m n
    split <;> omega
theorem cs_unm_le (S : hs_S) : ∀ n : Nat, cs_unm S n ≤ n
  | 0 => Nat.le_refl _
  | n + 1 => by
    rw [cs_unm_s]
    have := cs_unm_le S n
    split <;> omega
section CXF
variable {G : hk_G} {l : Launch} {h : hk_H} {A : Nat → Nat} {S : hs_S}
theorem ct_X6_needHouse {c : Nat} {v : Int32} (hfl : l.stackTraces = false) (hA : hs_inj A) (h30 : S.1 30 0 = nI c) (hc : c ≤ 6) : hk_Ctr G l 6 yX6_needHouse cX6_needHouse 2 none 1 6 [.ref (A 0), .int v] (hs_ov A (S) h) (cx_Q A h (cd_H c v = 0) (none) (S)) (cx_X A h (S) ((fun E => ¬ cd_H c v = 0 ∧ E = cs_ex (cd_H c v)))) := by
  refine hk_enter (by decide) hfl (Nat.le_of_ble_eq_true rfl) rfl ?_
  refine hk_iload_n dX6_needHouse_0 rfl rfl rfl ?_
  refine hk_if_lt (tgt := 15) dX6_needHouse_1 (by decide) rfl (fun z1 => ?_) (fun z1 => ?_)
  · skip
    exact hk_throwW rfl rfl th_274 (List.mem_of_getElem? (i := 2) rfl) dX6_needHouse_15 dX6_needHouse_18 dX6_needHouse_19 dX6_needHouse_22 dX6_needHouse_25 (by decide) (by decide) (Nat.le_of_ble_eq_true rfl) (⟨cs_thr (k := 1) (by first | (simp [cd_H, z1]; done) | (simp [cd_H, z1, z12]; done)) ⟨by decide, rfl⟩, rfl⟩)
  · skip
    refine hk_iload_n dX6_needHouse_4 rfl rfl rfl ?_
    refine hk_aload_n dX6_needHouse_5 rfl rfl rfl ?_
    refine cx_getf hA (by decide) rfl dX6_needHouse_6 rfl fl_X6_10 rfl ?_
    refine cx_calli hA (by decide) rfl rfl rfl dX6_needHouse_9 rfl mv_X6_62 (ct_X3_count hfl hA h30) rfl rfl (by decide) (by decide) (Nat.le_of_ble_eq_true rfl) (fun c9 => ?_) (fun E c => c.elim)
    refine hk_icmp_lt (tgt := 26) dX6_needHouse_12 (by decide) rfl (fun z12 => ?_) (fun z12 => ?_)
    · skip
      exact hk_vreturn rfl dX6_needHouse_26 (⟨by simp [cd_H, z1, z12], rfl, rfl⟩)
    · skip
      exact hk_throwW rfl rfl th_274 (List.mem_of_getElem? (i := 2) rfl) dX6_needHouse_15 dX6_needHouse_18 dX6_needHouse_19 dX6_needHouse_22 dX6_needHouse_25 (by decide) (by decide) (Nat.le_of_ble_eq_true rfl) (⟨cs_thr (k := 1) (by first | (simp [cd_H, z1]; done) | (simp [cd_H, z1, z12]; done)) ⟨by decide, rfl⟩, rfl⟩)
theorem ct_X6_needCoin {c : Nat} {v : Int32} (hfl : l.stackTraces = false) (hA : hs_inj A) (h31 : S.1 31 0 = nI c) (hc : c ≤ 90) : hk_Ctr G l 6 yX6_needCoin cX6_needCoin 2 none 1 6 [.ref (A 0), .int v] (hs_ov A (S) h) (cx_Q A h (cd_H c v = 0) (none) (S)) (cx_X A h (S) ((fun E => ¬ cd_H c v = 0 ∧ E = cs_ex (cd_H c v)))) := by
  refine hk_enter (by decide) hfl (Nat.le_of_ble_eq_true rfl) rfl ?_
  refine hk_iload_n dX6_needCoin_0 rfl rfl rfl ?_
  refine hk_if_lt (tgt := 15) dX6_needCoin_1 (by decide) rfl (fun z1 => ?_) (fun z1 => ?_)
  · skip
    exact hk_throwW rfl rfl th_274 (List.mem_of_getElem? (i := 8) rfl) dX6_needCoin_15 dX6_needCoin_18 dX6_needCoin_19 dX6_needCoin_22 dX6_needCoin_25 (by decide) (by decide) (Nat.le_of_ble_eq_true rfl) (⟨cs_thr (k := 1) (by first | (simp [cd_H, z1]; done) | (simp [cd_H, z1, z12]; done)) ⟨by decide, rfl⟩, rfl⟩)
  · skip
    refine hk_iload_n dX6_needCoin_4 rfl rfl rfl ?_
    refine hk_aload_n dX6_needCoin_5 rfl rfl rfl ?_
    refine cx_getf hA (by decide) rfl dX6_needCoin_6 rfl fl_X6_26 rfl ?_
    refine cx_calli hA (by decide) rfl rfl rfl dX6_needCoin_9 rfl mv_X6_121 (ct_X2_count hfl hA h31) rfl rfl (by decide) (by decide) (Nat.le_of_ble_eq_true rfl) (fun c9 => ?_) (fun E c => c.elim)
    refine hk_icmp_lt (tgt := 26) dX6_needCoin_12 (by decide) rfl (fun z12 => ?_) (fun z12 => ?_)
    · skip
      exact hk_vreturn rfl dX6_needCoin_26 (⟨by simp [cd_H, z1, z12], rfl, rfl⟩)
    · skip
      exact hk_throwW rfl rfl th_274 (List.mem_of_getElem? (i := 8) rfl) dX6_needCoin_15 dX6_needCoin_18 dX6_needCoin_19 dX6_needCoin_22 dX6_needCoin_25 (by decide) (by decide) (Nat.le_of_ble_eq_true rfl) (⟨cs_thr (k := 1) (by first | (simp [cd_H, z1]; done) | (simp [cd_H, z1, z12]; done)) ⟨by decide, rfl⟩, rfl⟩)
theorem ct_X6_needBill {c : Nat} {v : Int32} (hfl : l.stackTraces = false) (hA : hs_inj A) (h32 : S.1 32 0 = nI c) (hc : c ≤ 12) : hk_Ctr G l 6 yX6_needBill cX6_needBill 2 none 1 6 [.ref (A 0), .int v] (hs_ov A (S) h) (cx_Q A h (cd_H c v = 0) (none) (S)) (cx_X A h (S) ((fun E => ¬ cd_H c v = 0 ∧ E = cs_ex (cd_H c v)))) := by
  refine hk_enter (by decide) hfl (Nat.le_of_ble_eq_true rfl) rfl ?_
  refine hk_iload_n dX6_needBill_0 rfl rfl rfl ?_
  refine hk_if_lt (tgt := 15) dX6_needBill_1 (by decide) rfl (fun z1 => ?_) (fun z1 => ?_)
  · skip
    exact hk_throwW rfl rfl th_274 (List.mem_of_getElem? (i := 16) rfl) dX6_needBill_15 dX6_needBill_18 dX6_needBill_19 dX6_needBill_22 dX6_needBill_25 (by decide) (by decide) (Nat.le_of_ble_eq_true rfl) (⟨cs_thr (k := 1) (by first | (simp [cd_H, z1]; done) | (simp [cd_H, z1, z12]; done)) ⟨by decide, rfl⟩, rfl⟩)
  · skip
    refine hk_iload_n dX6_needBill_4 rfl rfl rfl ?_
    refine hk_aload_n dX6_needBill_5 rfl rfl rfl ?_
    refine cx_getf hA (by decide) rfl dX6_needBill_6 rfl fl_X6_40 rfl ?_
    refine cx_calli hA (by decide) rfl rfl rfl dX6_needBill_9 rfl mv_X6_187 (ct_X0_count hfl hA h32) rfl rfl (by decide) (by decide) (Nat.le_of_ble_eq_true rfl) (fun c9 => ?_) (fun E c => c.elim)
    refine hk_icmp_lt (tgt := 26) dX6_needBill_12 (by decide) rfl (fun z12 => ?_) (fun z12 => ?_)
    · skip
      exact hk_vreturn rfl dX6_needBill_26 (⟨by simp [cd_H, z1, z12], rfl, rfl⟩)
    · skip
      exact hk_throwW rfl rfl th_274 (List.mem_of_getElem? (i := 16) rfl) dX6_needBill_15 dX6_needBill_18 dX6_needBill_19 dX6_needBill_22 dX6_needBill_25 (by decide) (by decide) (Nat.le_of_ble_eq_true rfl) (⟨cs_thr (k := 1) (by first | (simp [cd_H, z1]; done) | (simp [cd_H, z1, z12]; done)) ⟨by decide, rfl⟩, rfl⟩)
theorem ct_X6_needVoyage {v : Int32} (hfl : l.stackTraces = false) (hA : hs_inj A) : hk_Ctr G l 6 yX6_needVoyage cX6_needVoyage 2 none 1 6 [.ref (A 0), .int v] (hs_ov A (S) h) (cx_Q A h (cd_H 4 v = 0) (none) (S)) (cx_X A h (S) ((fun E => ¬ cd_H 4 v = 0 ∧ E = cs_ex (cd_H 4 v)))) := by
  refine hk_enter (by decide) hfl (Nat.le_of_ble_eq_true rfl) rfl ?_
  refine hk_iload_n dX6_needVoyage_0 rfl rfl rfl ?_
  refine hk_if_lt (tgt := 9) dX6_needVoyage_1 (by decide) rfl (fun z1 => ?_) (fun z1 => ?_)
  · skip
    exact hk_throwW rfl rfl th_274 (List.mem_of_getElem? (i := 19) rfl) dX6_needVoyage_9 dX6_needVoyage_12 dX6_needVoyage_13 dX6_needVoyage_16 dX6_needVoyage_19 (by decide) (by decide) (Nat.le_of_ble_eq_true rfl) (⟨cs_thr (k := 1) (by first | (simp [cd_H, z1]; done) | (simp [cd_H, z1, z6]; done)) ⟨by decide, rfl⟩, rfl⟩)
  · skip
    refine hk_iload_n dX6_needVoyage_4 rfl rfl rfl ?_
    refine hk_iconst (v := nI 4) dX6_needVoyage_5 rfl (by decide) ?_
    refine hk_icmp_lt (tgt := 20) dX6_needVoyage_6 (by decide) rfl (fun z6 => ?_) (fun z6 => ?_)
    · skip
      exact hk_vreturn rfl dX6_needVoyage_20 (⟨by simp [cd_H, z1, z6], rfl, rfl⟩)
    · skip
      exact hk_throwW rfl rfl th_274 (List.mem_of_getElem? (i := 19) rfl) dX6_needVoyage_9 dX6_needVoyage_12 dX6_needVoyage_13 dX6_needVoyage_16 dX6_needVoyage_19 (by decide) (by decide) (Nat.le_of_ble_eq_true rfl) (⟨cs_thr (k := 1) (by first | (simp [cd_H, z1]; done) | (simp [cd_H, z1, z6]; done)) ⟨by decide, rfl⟩, rfl⟩)
theorem ct_X6_metalNumber {v : Int32} (hfl : l.stackTraces = false) (hA : hs_inj A) : hk_Ctr G l 6 yX6_metalNumber cX6_metalNumber 2 (some .int) 1 6 [.ref (A 0), .int v] (hs_ov A (S) h) (cx_Q A h (cd_M v = 0) (some (.int (nI (cs_m v)))) (S)) (cx_X A h (S) ((fun E => ¬ cd_M v = 0 ∧ E = cs_ex (cd_M v)))) := by
  refine hk_enter (by decide) hfl (Nat.le_of_ble_eq_true rfl) rfl ?_
  refine hk_iload_n dX6_metalNumber_0 rfl rfl rfl ?_
  refine hk_bipush (v := nI 103) dX6_metalNumber_1 rfl (by decide) ?_
  refine hk_icmp_ne (tgt := 8) dX6_metalNumber_3 (by decide) rfl (fun z3 => ?_) (fun z3 => ?_)
  · skip
    refine hk_iload_n dX6_metalNumber_8 rfl rfl rfl ?_
    refine hk_bipush (v := nI 115) dX6_metalNumber_9 rfl (by decide) ?_
    refine hk_icmp_ne (tgt := 16) dX6_metalNumber_11 (by decide) rfl (fun z11 => ?_) (fun z11 => ?_)
    · skip
      exact hk_throwW rfl rfl th_55 (List.mem_of_getElem? (i := 3) rfl) dX6_metalNumber_16 dX6_metalNumber_19 dX6_metalNumber_20 dX6_metalNumber_23 dX6_metalNumber_26 (by decide) (by decide) (Nat.le_of_ble_eq_true rfl) (⟨cs_thr (k := 2) (by first | (simp [cd_M, z3, z11]; done)) ⟨by decide, rfl⟩, rfl⟩)
    · skip
      refine hk_iconst (v := nI 1) dX6_metalNumber_14 rfl (by decide) ?_
      exact hk_ireturn rfl (rfl) dX6_metalNumber_15 (⟨by rw [z11]; rfl, by rw [z11]; rfl, rfl⟩)
  · skip
    refine hk_iconst (v := nI 0) dX6_metalNumber_6 rfl (by decide) ?_
    exact hk_ireturn rfl (rfl) dX6_metalNumber_7 (⟨by rw [z3]; rfl, by rw [z3]; rfl, rfl⟩)
theorem ct_X6_needRange {k : Nat} {v : Int32} (hfl : l.stackTraces = false) (hA : hs_inj A) : hk_Ctr G l 6 yX6_needRange cX6_needRange 3 none 1 6 [.ref (A 0), .int v, .int (nI k)] (hs_ov A (S) h) (cx_Q A h (cd_R v k = 0) (none) (S)) (cx_X A h (S) ((fun E => ¬ cd_R v k = 0 ∧ E = cs_ex (cd_R v k)))) := by
  refine hk_enter (by decide) hfl (Nat.le_of_ble_eq_true rfl) rfl ?_
  refine hk_iload_n dX6_needRange_0 rfl rfl rfl ?_
  refine hk_iconst (v := nI 1) dX6_needRange_1 rfl (by decide) ?_
  refine hk_icmp_lt (tgt := 10) dX6_needRange_2 (by decide) rfl (fun z2 => ?_) (fun z2 => ?_)
  · skip
    exact hk_throwW rfl rfl th_55 (List.mem_of_getElem? (i := 4) rfl) dX6_needRange_10 dX6_needRange_13 dX6_needRange_14 dX6_needRange_17 dX6_needRange_20 (by decide) (by decide) (Nat.le_of_ble_eq_true rfl) (⟨cs_thr (k := 2) (by first | (simp [cd_R, z2]; done) | (simp [cd_R, z2, z7]; done)) ⟨by decide, rfl⟩, rfl⟩)
  · skip
    refine hk_iload_n dX6_needRange_5 rfl rfl rfl ?_
    refine hk_iload_n dX6_needRange_6 rfl rfl rfl ?_
    refine hk_icmp_le (tgt := 21) dX6_needRange_7 (by decide) rfl (fun z7 => ?_) (fun z7 => ?_)
    · skip
      exact hk_vreturn rfl dX6_needRange_21 (⟨by simp [cd_R, z2, z7], rfl, rfl⟩)
    · skip
      exact hk_throwW rfl rfl th_55 (List.mem_of_getElem? (i := 4) rfl) dX6_needRange_10 dX6_needRange_13 dX6_needRange_14 dX6_needRange_17 dX6_needRange_20 (by decide) (by decide) (Nat.le_of_ble_eq_true rfl) (⟨cs_thr (k := 2) (by first | (simp [cd_R, z2]; done) | (simp [cd_R, z2, z7]; done)) ⟨by decide, rfl⟩, rfl⟩)
theorem ct_X6_needDifferent {v q : Int32} (hfl : l.stackTraces = false) (hA : hs_inj A) : hk_Ctr G l 6 yX6_needDifferent cX6_needDifferent 3 none 1 6 [.ref (A 0), .int v, .int q] (hs_ov A (S) h) (cx_Q A h (cd_D v q = 0) (none) (S)) (cx_X A h (S) ((fun E => ¬ cd_D v q = 0 ∧ E = cs_ex (cd_D v q)))) := by
  refine hk_enter (by decide) hfl (Nat.le_of_ble_eq_true rfl) rfl ?_
  refine hk_iload_n dX6_needDifferent_0 rfl rfl rfl ?_
  refine hk_iload_n dX6_needDifferent_1 rfl rfl rfl ?_
  refine hk_icmp_ne (tgt := 16) dX6_needDifferent_2 (by decide) rfl (fun z2 => ?_) (fun z2 => ?_)
  · skip
    exact hk_vreturn rfl dX6_needDifferent_16 (⟨by simp [cd_D, z2], rfl, rfl⟩)
  · skip
    exact hk_throwW rfl rfl th_55 (List.mem_of_getElem? (i := 11) rfl) dX6_needDifferent_5 dX6_needDifferent_8 dX6_needDifferent_9 dX6_needDifferent_12 dX6_needDifferent_15 (by decide) (by decide) (Nat.le_of_ble_eq_true rfl) (⟨cs_thr (k := 2) (by first | (simp [cd_D, z2]; done)) ⟨by decide, rfl⟩, rfl⟩)
theorem ct_X6_needOpen {a : Nat} (hfl : l.stackTraces = false) (hA : hs_inj A) (ha : a < 6) (hb8 : ∀ j, narrow .boolean (.int (S.1 8 j)) = .int (S.1 8 j)) : hk_Ctr G l 6 yX6_needOpen cX6_needOpen 2 none 1 6 [.ref (A 0), .int (nI a)] (hs_ov A (S) h) (cx_Q A h (cd_O S a = 0) (none) (S)) (cx_X A h (S) ((fun E => ¬ cd_O S a = 0 ∧ E = cs_ex (cd_O S a)))) := by
  refine hk_enter (by decide) hfl (Nat.le_of_ble_eq_true rfl) rfl ?_
  refine hk_aload_n dX6_needOpen_0 rfl rfl rfl ?_
  refine cx_getf hA (by decide) rfl dX6_needOpen_1 rfl fl_X6_10 rfl ?_
  refine hk_iload_n dX6_needOpen_4 rfl rfl rfl ?_
  refine cx_calli hA (by decide) rfl rfl rfl dX6_needOpen_5 rfl mv_X6_75 (ct_X3_isOpen hfl hA (by omega) (hb8 _)) rfl rfl (by decide) (by decide) (Nat.le_of_ble_eq_true rfl) (fun c5 => ?_) (fun E c => c.elim)
  refine hk_if_ne (tgt := 22) dX6_needOpen_8 (by decide) rfl (fun z8 => ?_) (fun z8 => ?_)
  · skip
    exact hk_vreturn rfl dX6_needOpen_22 (⟨by simp [cd_O, z8], rfl, rfl⟩)
  · skip
    exact hk_throwW rfl rfl th_66 (List.mem_of_getElem? (i := 5) rfl) dX6_needOpen_11 dX6_needOpen_14 dX6_needOpen_15 dX6_needOpen_18 dX6_needOpen_21 (by decide) (by decide) (Nat.le_of_ble_eq_true rfl) (⟨cs_thr (k := 3) (by first | (simp [cd_O, z8]; done)) ⟨by decide, rfl⟩, rfl⟩)
theorem ct_X6_needWhole {j : Nat} (hfl : l.stackTraces = false) (hA : hs_inj A) (hj : j < 90) : hk_Ctr G l 6 yX6_needWhole cX6_needWhole 2 none 1 6 [.ref (A 0), .int (nI j)] (hs_ov A (S) h) (cx_Q A h (cd_W S j = 0) (none) (S)) (cx_X A h (S) ((fun E => ¬ cd_W S j = 0 ∧ E = cs_ex (cd_W S j)))) := by
  refine hk_enter (by decide) hfl (Nat.le_of_ble_eq_true rfl) rfl ?_
  refine hk_aload_n dX6_needWhole_0 rfl rfl rfl ?_
  refine cx_getf hA (by decide) rfl dX6_needWhole_1 rfl fl_X6_26 rfl ?_
  refine hk_iload_n dX6_needWhole_4 rfl rfl rfl ?_
  refine cx_calli hA (by decide) rfl rfl rfl dX6_needWhole_5 rfl mv_X6_140 (ct_X2_owner hfl hA (by omega)) rfl rfl (by decide) (by decide) (Nat.le_of_ble_eq_true rfl) (fun c5 => ?_) (fun E c => c.elim)
  refine hk_iconst (v := -1) dX6_needWhole_8 rfl (by decide) ?_
  refine hk_icmp_ne (tgt := 23) dX6_needWhole_9 (by decide) rfl (fun z9 => ?_) (fun z9 => ?_)
  · skip
    exact hk_vreturn rfl dX6_needWhole_23 (⟨by simp [cd_W, z9], rfl, rfl⟩)
  · skip
    exact hk_throwW rfl rfl th_111 (List.mem_of_getElem? (i := 9) rfl) dX6_needWhole_12 dX6_needWhole_15 dX6_needWhole_16 dX6_needWhole_19 dX6_needWhole_22 (by decide) (by decide) (Nat.le_of_ble_eq_true rfl) (⟨cs_thr (k := 4) (by first | (simp [cd_W, z9]; done)) ⟨by decide, rfl⟩, rfl⟩)
theorem ct_X6_needLoose {c a m k : Nat} (hfl : l.stackTraces = false) (hA : hs_inj A) (h31 : S.1 31 0 = nI c) (hc : c ≤ 90) (hk : k ≤ 90) : hk_Ctr G l 6 yX6_needLoose cX6_needLoose 4 none 1 6 [.ref (A 0), .int (nI a), .int (nI m), .int (nI k)] (hs_ov A (S) h) (cx_Q A h (cd_L S a m k c = 0) (none) (S)) (cx_X A h (S) ((fun E => ¬ cd_L S a m k c = 0 ∧ E = cs_ex (cd_L S a m k c)))) := by
  refine hk_enter (by decide) hfl (Nat.le_of_ble_eq_true rfl) rfl ?_
  refine hk_aload_n dX6_needLoose_0 rfl rfl rfl ?_
  refine cx_getf hA (by decide) rfl dX6_needLoose_1 rfl fl_X6_26 rfl ?_
  refine hk_iload_n dX6_needLoose_4 rfl rfl rfl ?_
  refine hk_iload_n dX6_needLoose_5 rfl rfl rfl ?_
  refine cx_calli hA (by decide) rfl rfl rfl dX6_needLoose_6 rfl mv_X6_181 (ct_X2_loose hfl hA h31 (by omega)) rfl rfl (by decide) (by decide) (Nat.le_of_ble_eq_true rfl) (fun c6 => ?_) (fun E c => c.elim)
  have hlo : cs_loose S a m c ≤ c := cs_loose_le S a m c
  refine hk_iload_n dX6_needLoose_9 rfl rfl rfl ?_
  refine cx_icmp_ge (tgt := 24) (by omega) (by omega) dX6_needLoose_10 (by decide) rfl (fun z10 => ?_) (fun z10 => ?_)
  · skip
    exact hk_vreturn rfl dX6_needLoose_24 (⟨by simp [cd_L, z10], rfl, rfl⟩)
  · skip
    exact hk_throwW rfl rfl th_111 (List.mem_of_getElem? (i := 12) rfl) dX6_needLoose_13 dX6_needLoose_16 dX6_needLoose_17 dX6_needLoose_20 dX6_needLoose_23 (by decide) (by decide) (Nat.le_of_ble_eq_true rfl) (⟨cs_thr (k := 4) (by first | (simp [cd_L, z10]; done)) ⟨by decide, rfl⟩, rfl⟩)
theorem ct_X6_needClaim {a q : Nat} {v : Int32} (hfl : l.stackTraces = false) (hA : hs_inj A) (ha : a < 6) (hq : q < 6) : hk_Ctr G l 6 yX6_needClaim cX6_needClaim 4 none 1 6 [.ref (A 0), .int (nI a), .int (nI q), .int v] (hs_ov A (S) h) (cx_Q A h (cd_C S a q v = 0) (none) (S)) (cx_X A h (S) ((fun E => ¬ cd_C S a q v = 0 ∧ E = cs_ex (cd_C S a q v)))) := by
  refine hk_enter (by decide) hfl (Nat.le_of_ble_eq_true rfl) rfl ?_
  refine hk_aload_n dX6_needClaim_0 rfl rfl rfl ?_
  refine cx_getf hA (by decide) rfl dX6_needClaim_1 rfl fl_X6_33 rfl ?_
  refine hk_iload_n dX6_needClaim_4 rfl rfl rfl ?_
  refine hk_iload_n dX6_needClaim_5 rfl rfl rfl ?_
  refine cx_calli hA (by decide) rfl rfl rfl dX6_needClaim_6 rfl mv_X6_175 (ct_X1_amount hfl hA (by omega) (by omega)) rfl rfl (by decide) (by decide) (Nat.le_of_ble_eq_true rfl) (fun c6 => ?_) (fun E c => c.elim)
  refine hk_iload_n dX6_needClaim_9 rfl rfl rfl ?_
  refine hk_icmp_ge (tgt := 24) dX6_needClaim_10 (by decide) rfl (fun z10 => ?_) (fun z10 => ?_)
  · skip
    exact hk_vreturn rfl dX6_needClaim_24 (⟨by simp [cd_C, z10], rfl, rfl⟩)
  · skip
    exact hk_throwW rfl rfl th_111 (List.mem_of_getElem? (i := 14) rfl) dX6_needClaim_13 dX6_needClaim_16 dX6_needClaim_17 dX6_needClaim_20 dX6_needClaim_23 (by decide) (by decide) (Nat.le_of_ble_eq_true rfl) (⟨cs_thr (k := 4) (by first | (simp [cd_C, z10]; done)) ⟨by decide, rfl⟩, rfl⟩)
theorem ct_X6_needCoins {c : Nat} (hfl : l.stackTraces = false) (hA : hs_inj A) (h31 : S.1 31 0 = nI c) (hc : c ≤ 90) : hk_Ctr G l 6 yX6_needCoins cX6_needCoins 2 (some .int) 1 6 [.ref (A 0)] (hs_ov A (S) h) (cx_Q A h (cd_U S c = 0) (some (.int (nI (cs_unm S c)))) (S)) (cx_X A h (S) ((fun E => ¬ cd_U S c = 0 ∧ E = cs_ex (cd_U S c)))) := by
  refine hk_enter (by decide) hfl (Nat.le_of_ble_eq_true rfl) rfl ?_
  refine hk_aload_n dX6_needCoins_0 rfl rfl rfl ?_
  refine cx_getf hA (by decide) rfl dX6_needCoins_1 rfl fl_X6_26 rfl ?_
  refine cx_calli hA (by decide) rfl rfl rfl dX6_needCoins_4 rfl mv_X6_301 (ct_X2_unmelted hfl hA h31 (by omega)) rfl rfl (by decide) (by decide) (Nat.le_of_ble_eq_true rfl) (fun c4 => ?_) (fun E c => c.elim)
  refine hk_istore_n dX6_needCoins_7 rfl rfl (by decide) rfl ?_
  have hun : cs_unm S c ≤ c := cs_unm_le S c
  refine hk_iload_n dX6_needCoins_8 rfl rfl rfl ?_
  refine cx_ifn_ne (tgt := 23) (by omega) dX6_needCoins_9 (by decide) rfl (fun z9 => ?_) (fun z9 => ?_)
  · skip
    refine hk_iload_n dX6_needCoins_23 rfl rfl rfl ?_
    exact hk_ireturn rfl (rfl) dX6_needCoins_24 (⟨by simp [cd_U, z9], rfl, rfl⟩)
  · skip
    exact hk_throwW rfl rfl th_304 (List.mem_of_getElem? (i := 21) rfl) dX6_needCoins_12 dX6_needCoins_15 dX6_needCoins_16 dX6_needCoins_19 dX6_needCoins_22 (by decide) (by decide) (Nat.le_of_ble_eq_true rfl) (⟨cs_thr (k := 5) (by first | (simp [cd_U, z9]; done)) ⟨by decide, rfl⟩, rfl⟩)
theorem ct_X6_needCustomer {a q : Nat} (hfl : l.stackTraces = false) (hA : hs_inj A) (ha : a < 6) (hq : q < 6) (hb7 : ∀ j, narrow .char (.int (S.1 7 j)) = .int (S.1 7 j)) (hb8 : ∀ j, narrow .boolean (.int (S.1 8 j)) = .int (S.1 8 j)) : hk_Ctr G l 7 yX6_needCustomer cX6_needCustomer 3 none 4 24 [.ref (A 0), .int (nI a), .int (nI q)] (hs_ov A (S) h) (cx_Q A h (cd_K S a q = 0) (none) (S)) (cx_X A h (S) ((fun E => ¬ cd_K S a q = 0 ∧ E = cs_ex (cd_K S a q)))) := by
  refine hk_enter (by decide) hfl (Nat.le_of_ble_eq_true rfl) rfl ?_
  refine hk_aload_n dX6_needCustomer_0 rfl rfl rfl ?_
  refine hk_iload_n dX6_needCustomer_1 rfl rfl rfl ?_
  refine hk_iload_n dX6_needCustomer_2 rfl rfl rfl ?_
  refine cx_callv hA (by decide) rfl rfl rfl dX6_needCustomer_3 rfl mv_X6_159 (ct_X6_needDifferent hfl hA) rfl rfl (by decide) (by decide) (Nat.le_of_ble_eq_true rfl) (fun c3 => ?_) (fun E c => ?_)
  · skip
    refine hk_aload_n dX6_needCustomer_6 rfl rfl rfl ?_
    refine cx_getf hA (by decide) rfl dX6_needCustomer_7 rfl fl_X6_10 rfl ?_
    refine hk_iload_n dX6_needCustomer_10 rfl rfl rfl ?_
    refine cx_calli hA (by decide) rfl rfl rfl dX6_needCustomer_11 rfl mv_X6_79 (ct_X3_kind hfl hA (by omega) (hb7 _)) rfl rfl (by decide) (by decide) (Nat.le_of_ble_eq_true rfl) (fun c11 => ?_) (fun E c => c.elim)
    refine hk_bipush (v := nI 98) dX6_needCustomer_14 rfl (by decide) ?_
    refine hk_icmp_eq (tgt := 30) dX6_needCustomer_16 (by decide) rfl (fun z16 => ?_) (fun z16 => ?_)
    · skip
      refine hk_aload_n dX6_needCustomer_30 rfl rfl rfl ?_
      refine hk_iload_n dX6_needCustomer_31 rfl rfl rfl ?_
      refine cx_callv hA (by decide) rfl rfl rfl dX6_needCustomer_32 rfl mv_X6_90 (ct_X6_needOpen hfl hA (by omega) hb8) rfl rfl (by decide) (by decide) (Nat.le_of_ble_eq_true rfl) (fun c32 => ?_) (fun E c => ?_)
      · skip
        refine hk_aload_n dX6_needCustomer_35 rfl rfl rfl ?_
        refine hk_iload_n dX6_needCustomer_36 rfl rfl rfl ?_
        refine cx_callv hA (by decide) rfl rfl rfl dX6_needCustomer_37 rfl mv_X6_90 (ct_X6_needOpen hfl hA (by omega) hb8) rfl rfl (by decide) (by decide) (Nat.le_of_ble_eq_true rfl) (fun c37 => ?_) (fun E c => ?_)
        · skip
          exact hk_vreturn rfl dX6_needCustomer_40 (by refine ⟨by simp [cd_K, cd_B, cs_sq, c3, z16, c32, c37], ?_, ?_⟩ <;> first | rfl)
        · exact ⟨cs_thr (by simp [cd_K, cd_B, cs_sq, c3, z16, c32, c.1]) c, rfl⟩
      · exact ⟨cs_thr (by simp [cd_K, cd_B, cs_sq, c3, z16, c.1]) c, rfl⟩
    · skip
      exact hk_throwW rfl rfl th_55 (List.mem_of_getElem? (i := 13) rfl) dX6_needCustomer_19 dX6_needCustomer_22 dX6_needCustomer_23 dX6_needCustomer_26 dX6_needCustomer_29 (by decide) (by decide) (Nat.le_of_ble_eq_true rfl) (⟨cs_thr (k := 2) (by simp [cd_K, cd_B, cs_sq, c3, z16]) ⟨by decide, rfl⟩, rfl⟩)
  · exact ⟨cs_thr (by simp [cd_K, cd_B, cs_sq, c.1]) c, rfl⟩
end CXF

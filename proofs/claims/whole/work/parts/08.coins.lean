-- WHAT THE CLASS DOES, over its memory: its coins
def cx_b (p : Bool) : Int32 := match p with
  | true => nI 1
  | false => nI 0
theorem cx_b_nar (p : Bool) : narrow .boolean (.int (cx_b p)) = .int (cx_b p) := by cases p <;> rfl
theorem cx_b_0 {p : Bool} : cx_b p = 0 ↔ p = false := by cases p <;> simp [cx_b] <;> decide
theorem cx_b_1 {p : Bool} : ¬ cx_b p = 0 ↔ p = true := by cases p <;> simp [cx_b] <;> decide
def cs_o (o : Option Nat) : Int32 := match o with
  | none => -1
  | some j => nI j
def cs_isL (S : hs_S) (a m j : Nat) : Bool := if S.1 15 j = nI a then (if S.1 13 j = nI m then (if S.1 17 j = 0 then true else false) else false) else false
def cs_loose (S : hs_S) (a m n : Nat) : Nat := cx_it (fun j c => if cs_isL S a m j then c + 1 else c) 0 n
theorem cs_loose_s (S : hs_S) (a m j : Nat) : cs_loose S a m (j + 1) = if cs_isL S a m j = true then cs_loose S a m j + 1 else cs_loose S a m j := rfl
def cs_owned (S : hs_S) (a m n : Nat) : Nat := cx_it (fun j c => if S.1 15 j = nI a then (if S.1 13 j = nI m then c + 1 else c) else c) 0 n
theorem cs_owned_s (S : hs_S) (a m j : Nat) : cs_owned S a m (j + 1) = if S.1 15 j = nI a then (if S.1 13 j = nI m then cs_owned S a m j + 1 else cs_owned S a m j) else cs_owned S a m j := rfl
def cs_unm (S : hs_S) (n : Nat) : Nat := cx_it (fun j c => if S.1 15 j = -1 then c else c + 1) 0 n
theorem cs_unm_s (S : hs_S) (j : Nat) : cs_unm S (j + 1) = if S.1 15 j = -1 then cs_unm S j else cs_unm S j + 1 := rfl
def cs_ltr (S : hs_S) (m : Nat) (v : Int32) (n : Nat) : Nat := cx_it (fun j c => if S.1 15 j = -1 then c else (if S.1 13 j = nI m then (if v ≤ S.1 14 j then c else c + 1) else c)) 0 n
theorem cs_ltr_s (S : hs_S) (m : Nat) (v : Int32) (j : Nat) : cs_ltr S m v (j + 1) = if S.1 15 j = -1 then cs_ltr S m v j else (if S.1 13 j = nI m then (if v ≤ S.1 14 j then cs_ltr S m v j else cs_ltr S m v j + 1) else cs_ltr S m v j) := rfl
def cs_woa (S : hs_S) (m : Nat) (n : Nat) : Int32 := cx_it (fun j c => if S.1 13 j = nI m then c + S.1 14 j else c) (nI 0) n
theorem cs_woa_s (S : hs_S) (m j : Nat) : cs_woa S m (j + 1) = if S.1 13 j = nI m then cs_woa S m j + S.1 14 j else cs_woa S m j := rfl
def cs_wg (S : hs_S) (n : Nat) : Bool := cx_it (fun j c => if S.1 15 j = -1 then c else (if S.1 15 j = S.1 18 j then c else false)) true n
theorem cs_wg_s (S : hs_S) (j : Nat) : cs_wg S (j + 1) = if S.1 15 j = -1 then cs_wg S j else (if S.1 15 j = S.1 18 j then cs_wg S j else false) := rfl
theorem cs_wg_mono {S : hs_S} {j : Nat} (h : cs_wg S j = false) : ∀ m : Nat, cs_wg S (j + m) = false
  | 0 => h
  | m + 1 => by
    rw [← Nat.add_assoc, cs_wg_s, cs_wg_mono h m]
    split
    · rfl
    · split <;> rfl
def cs_ahd (S : hs_S) (c b : Nat) : Bool := if S.1 14 c = S.1 14 b then (if S.1 13 c = 0 then (if S.1 13 b = nI 1 then true else false) else false) else (if S.1 14 c ≤ S.1 14 b then false else true)
def cs_hvs (S : hs_S) (a : Nat) (j : Nat) (q : Option Nat) : Option Nat := if S.1 15 j = nI a then (match q with
  | none => some j
  | some b => if cs_ahd S j b then some j else some b) else q
def cs_heavy (S : hs_S) (a n : Nat) : Option Nat := cx_it (cs_hvs S a) none n
theorem cs_heavy_s (S : hs_S) (a j : Nat) : cs_heavy S a (j + 1) = cs_hvs S a j (cs_heavy S a j) := rfl
def cs_lts (S : hs_S) (a m : Nat) (j : Nat) (q : Option Nat) : Option Nat := if cs_isL S a m j then (match q with
  | none => some j
  | some b => if S.1 14 b ≤ S.1 14 j then some b else some j) else q
def cs_light (S : hs_S) (a m n : Nat) : Option Nat := cx_it (cs_lts S a m) none n
theorem cs_light_s (S : hs_S) (a m j : Nat) : cs_light S a m (j + 1) = cs_lts S a m j (cs_light S a m j) := rfl
theorem cs_heavy_lt {S : hs_S} {a : Nat} : ∀ {n b : Nat}, cs_heavy S a n = some b → b < n ∧ S.1 15 b = nI a
  | 0, b, h => by cases h
  | n + 1, b, h => by
    rw [cs_heavy_s] at h
    unfold cs_hvs at h
    split at h
    · rename_i ho
      split at h
      · cases h; exact ⟨Nat.lt_succ_self _, ho⟩
      · rename_i b' hq
        split at h
        · cases h; exact ⟨Nat.lt_succ_self _, ho⟩
        · cases h; exact ⟨Nat.lt_succ_of_lt (cs_heavy_lt hq).1, (cs_heavy_lt hq).2⟩
    · exact ⟨Nat.lt_succ_of_lt (cs_heavy_lt h).1, (cs_heavy_lt h).2⟩
theorem cs_light_lt {S : hs_S} {a m : Nat} : ∀ {n b : Nat}, cs_light S a m n = some b → b < n ∧ cs_isL S a m b = true
  | 0, b, h => by cases h
  | n + 1, b, h => by
    rw [cs_light_s] at h
    unfold cs_lts at h
    split at h
    · rename_i ho
      split at h
      · cases h; exact ⟨Nat.lt_succ_self _, ho⟩
      · rename_i b' hq
        split at h
        · cases h; exact ⟨Nat.lt_succ_of_lt (cs_light_lt hq).1, (cs_light_lt hq).2⟩
        · cases h; exact ⟨Nat.lt_succ_self _, ho⟩
    · exact ⟨Nat.lt_succ_of_lt (cs_light_lt h).1, (cs_light_lt h).2⟩
def cs_give (S : hs_S) (j : Nat) (v : Int32) : hs_S := hs_su (hs_su (hs_su (hs_su S 15 j v) 18 j v) 16 j (S.1 16 j + nI 1)) 17 j (nI 0)
def cs_gls (a t m n : Nat) (p : hs_S × Int32) : hs_S × Int32 := match cs_light p.1 a m n with
  | none => p
  | some j => (cs_give p.1 j (nI t), p.2 + p.1.1 14 j)
def cs_gl (a t m n : Nat) (S : hs_S) (k : Nat) : hs_S × Int32 := cx_it (fun _ p => cs_gls a t m n p) (S, nI 0) k
theorem cs_gl_s (a t m n : Nat) (S : hs_S) (k : Nat) : cs_gl a t m n S (k + 1) = cs_gls a t m n (cs_gl a t m n S k) := rfl
theorem cs_gl_31 (a t m n : Nat) (S : hs_S) : ∀ k : Nat, (cs_gl a t m n S k).1.1 31 0 = S.1 31 0
  | 0 => rfl
  | k + 1 => by
    rw [cs_gl_s]
    unfold cs_gls
    split
    · exact cs_gl_31 a t m n S k
    · exact cs_gl_31 a t m n S k
theorem cs_gl_fix {a t m n : Nat} {S : hs_S} {j : Nat} (h : cs_light (cs_gl a t m n S j).1 a m n = none) : ∀ i : Nat, cs_gl a t m n S (j + i) = cs_gl a t m n S j
  | 0 => rfl
  | i + 1 => by
    rw [← Nat.add_assoc, cs_gl_s, cs_gl_fix h i]
    unfold cs_gls
    rw [h]
def cs_ga (a : Nat) (t : Nat) (S : hs_S) (n : Nat) : hs_S := cx_it (fun j S => if S.1 15 j = nI a then cs_give S j (nI t) else S) S n
theorem cs_ga_s (a t : Nat) (S : hs_S) (j : Nat) : cs_ga a t S (j + 1) = if (cs_ga a t S j).1 15 j = nI a then cs_give (cs_ga a t S j) j (nI t) else cs_ga a t S j := rfl
theorem cs_ga_31 (a t : Nat) (S : hs_S) : ∀ k : Nat, (cs_ga a t S k).1 31 0 = S.1 31 0
  | 0 => rfl
  | k + 1 => by
    rw [cs_ga_s]
    split
    · exact cs_ga_31 a t S k
    · exact cs_ga_31 a t S k
def cs_mls (a m j : Nat) (p : hs_S × Int32) : hs_S × Int32 := if cs_isL p.1 a m j = true then (hs_su (hs_su p.1 14 j (nI 0)) 15 j (-1), p.2 + p.1.1 14 j) else p
def cs_melt (a m : Nat) (S : hs_S) (n : Nat) : hs_S × Int32 := cx_it (cs_mls a m) (S, nI 0) n
theorem cs_melt_s (a m : Nat) (S : hs_S) (j : Nat) : cs_melt a m S (j + 1) = cs_mls a m j (cs_melt a m S j) := rfl
theorem cs_melt_31 (a m : Nat) (S : hs_S) : ∀ k : Nat, (cs_melt a m S k).1.1 31 0 = S.1 31 0
  | 0 => rfl
  | k + 1 => by
    rw [cs_melt_s]
    unfold cs_mls
    split
    · exact cs_melt_31 a m S k
    · exact cs_melt_31 a m S k
def cs_add (S : hs_S) (c : Nat) (a m v : Int32) : hs_S := cs_give (hs_su (hs_su (hs_su S 31 0 (nI (c + 1))) 13 c m) 14 c v) c a
section CX1
variable {G : hk_G} {l : Launch} {d : Nat} {y : MethodName} {b : ByteArray} {nL : Nat} {ret : Option FieldType} {hh : List (Nat × Nat × Nat × Nat)} {Q : Option Value → hk_H → Prop} {X : String → hk_H → Prop} {k n : Nat} {h : hk_H} {pc pc' : Nat} {lv : List (Option Value)} {st : List Value}
theorem cx_ifb_eq {p : Bool} {off : Int} {tgt : Nat} (hd : decode b pc = .ok (.ifCond .eq off, 3)) (ht : (pc : Int) + off = (tgt : Int)) (hp : pc + 3 = pc') (kt : p = false → hk_W G l d y b nL ret hh Q X k n h tgt lv st) (kf : p = true → hk_W G l d y b nL ret hh Q X k n h pc' lv st) : hk_W G l d y b nL ret hh Q X k n h pc lv (.int (cx_b p) :: st) := hk_if_eq hd ht hp (fun z => kt (cx_b_0.mp z)) (fun z => kf (cx_b_1.mp z))
theorem cx_ifb_ne {p : Bool} {off : Int} {tgt : Nat} (hd : decode b pc = .ok (.ifCond .ne off, 3)) (ht : (pc : Int) + off = (tgt : Int)) (hp : pc + 3 = pc') (kt : p = true → hk_W G l d y b nL ret hh Q X k n h tgt lv st) (kf : p = false → hk_W G l d y b nL ret hh Q X k n h pc' lv st) : hk_W G l d y b nL ret hh Q X k n h pc lv (.int (cx_b p) :: st) := hk_if_ne hd ht hp (fun z => kt (cx_b_1.mp z)) (fun z => kf (cx_b_0.mp z))
end CX1
section CXC
variable {G : hk_G} {l : Launch} {h : hk_H} {A : Nat → Nat} {S : hs_S}
theorem ct_X2_count {c : Nat} (hfl : l.stackTraces = false) (hA : hs_inj A) (h31 : S.1 31 0 = nI c) : hk_Ctr G l 1 yX2_count cX2_count 1 (some .int) 0 0 [.ref (A 3)] (hs_ov A (S) h) (cx_Q A h (True) (some (.int (nI c))) (S)) (cx_X A h (S) ((fun _ => False))) := by
  refine hk_enter (by decide) hfl (Nat.le_of_ble_eq_true rfl) rfl ?_
  refine hk_aload_n dX2_count_0 rfl rfl rfl ?_
  refine cx_getf hA (by decide) rfl dX2_count_1 rfl fl_X2_31 rfl ?_
  refine cx_top h31 ?_
  exact hk_ireturn rfl (rfl) dX2_count_4 (⟨trivial, rfl, rfl⟩)
theorem ct_X2_numbersLeft {c : Nat} (hfl : l.stackTraces = false) (hA : hs_inj A) (h31 : S.1 31 0 = nI c) (hc : c ≤ 90) : hk_Ctr G l 1 yX2_numbersLeft cX2_numbersLeft 1 (some .int) 0 0 [.ref (A 3)] (hs_ov A (S) h) (cx_Q A h (True) (some (.int (nI (90 - c)))) (S)) (cx_X A h (S) ((fun _ => False))) := by
  refine hk_enter (by decide) hfl (Nat.le_of_ble_eq_true rfl) rfl ?_
  refine hk_bipush (v := nI 90) dX2_numbersLeft_0 rfl (by decide) ?_
  refine hk_aload_n dX2_numbersLeft_2 rfl rfl rfl ?_
  refine cx_getf hA (by decide) rfl dX2_numbersLeft_3 rfl fl_X2_31 rfl ?_
  refine cx_top h31 ?_
  refine hk_isub dX2_numbersLeft_6 rfl ?_
  refine cx_top (cx_nsub (by omega)) ?_
  exact hk_ireturn rfl (rfl) dX2_numbersLeft_7 (⟨trivial, rfl, rfl⟩)
theorem ct_X2_give {j : Nat} {v : Int32} (hfl : l.stackTraces = false) (hA : hs_inj A) (hj : j < 90) : hk_Ctr G l 1 yX2_give cX2_give 3 none 0 0 [.ref (A 3), .int (nI j), .int v] (hs_ov A (S) h) (cx_Q A h (True) (none) (cs_give S j v)) (cx_X A h (S) ((fun _ => False))) := by
  refine hk_enter (by decide) hfl (Nat.le_of_ble_eq_true rfl) rfl ?_
  refine hk_aload_n dX2_give_0 rfl rfl rfl ?_
  refine cx_getf hA (by decide) rfl dX2_give_1 rfl fl_X2_18 rfl ?_
  refine hk_iload_n dX2_give_4 rfl rfl rfl ?_
  refine hk_iload_n dX2_give_5 rfl rfl rfl ?_
  refine cx_iast hA dX2_give_6 rfl rfl (by decide) (show _ < 90 by omega) ?_
  refine hk_aload_n dX2_give_7 rfl rfl rfl ?_
  refine cx_getf hA (by decide) rfl dX2_give_8 rfl fl_X2_28 rfl ?_
  refine hk_iload_n dX2_give_11 rfl rfl rfl ?_
  refine hk_iload_n dX2_give_12 rfl rfl rfl ?_
  refine cx_iast hA dX2_give_13 rfl rfl (by decide) (show _ < 90 by omega) ?_
  refine hk_aload_n dX2_give_14 rfl rfl rfl ?_
  refine cx_getf hA (by decide) rfl dX2_give_15 rfl fl_X2_21 rfl ?_
  refine hk_iload_n dX2_give_18 rfl rfl rfl ?_
  refine hk_dup2 dX2_give_19 rfl rfl rfl ?_
  refine cx_iald hA dX2_give_20 rfl rfl (by decide) (show _ < 90 by omega) ?_
  refine hk_iconst (v := nI 1) dX2_give_21 rfl (by decide) ?_
  refine hk_iadd dX2_give_22 rfl ?_
  refine cx_iast hA dX2_give_23 rfl rfl (by decide) (show _ < 90 by omega) ?_
  refine hk_aload_n dX2_give_24 rfl rfl rfl ?_
  refine cx_getf hA (by decide) rfl dX2_give_25 rfl fl_X2_24 rfl ?_
  refine hk_iload_n dX2_give_28 rfl rfl rfl ?_
  refine hk_iconst (v := nI 0) dX2_give_29 rfl (by decide) ?_
  refine cx_zast hA dX2_give_30 rfl rfl (by decide) (show _ < 90 by omega) rfl ?_
  exact hk_vreturn rfl dX2_give_31 (⟨trivial, rfl, rfl⟩)
theorem ct_X2_metal {j : Nat} (hfl : l.stackTraces = false) (hA : hs_inj A) (hj : j < 90) : hk_Ctr G l 1 yX2_metal cX2_metal 2 (some .int) 0 0 [.ref (A 3), .int (nI j)] (hs_ov A (S) h) (cx_Q A h (True) (some (.int (S.1 13 j))) (S)) (cx_X A h (S) ((fun _ => False))) := by
  refine hk_enter (by decide) hfl (Nat.le_of_ble_eq_true rfl) rfl ?_
  refine hk_aload_n dX2_metal_0 rfl rfl rfl ?_
  refine cx_getf hA (by decide) rfl dX2_metal_1 rfl fl_X2_9 rfl ?_
  refine hk_iload_n dX2_metal_4 rfl rfl rfl ?_
  refine cx_iald hA dX2_metal_5 rfl rfl (by decide) (show _ < 90 by omega) ?_
  exact hk_ireturn rfl (rfl) dX2_metal_6 (⟨trivial, rfl, rfl⟩)
theorem ct_X2_weight {j : Nat} (hfl : l.stackTraces = false) (hA : hs_inj A) (hj : j < 90) : hk_Ctr G l 1 yX2_weight cX2_weight 2 (some .int) 0 0 [.ref (A 3), .int (nI j)] (hs_ov A (S) h) (cx_Q A h (True) (some (.int (S.1 14 j))) (S)) (cx_X A h (S) ((fun _ => False))) := by
  refine hk_enter (by decide) hfl (Nat.le_of_ble_eq_true rfl) rfl ?_
  refine hk_aload_n dX2_weight_0 rfl rfl rfl ?_
  refine cx_getf hA (by decide) rfl dX2_weight_1 rfl fl_X2_15 rfl ?_
  refine hk_iload_n dX2_weight_4 rfl rfl rfl ?_
  refine cx_iald hA dX2_weight_5 rfl rfl (by decide) (show _ < 90 by omega) ?_
  exact hk_ireturn rfl (rfl) dX2_weight_6 (⟨trivial, rfl, rfl⟩)
theorem ct_X2_owner {j : Nat} (hfl : l.stackTraces = false) (hA : hs_inj A) (hj : j < 90) : hk_Ctr G l 1 yX2_owner cX2_owner 2 (some .int) 0 0 [.ref (A 3), .int (nI j)] (hs_ov A (S) h) (cx_Q A h (True) (some (.int (S.1 15 j))) (S)) (cx_X A h (S) ((fun _ => False))) := by
  refine hk_enter (by decide) hfl (Nat.le_of_ble_eq_true rfl) rfl ?_
  refine hk_aload_n dX2_owner_0 rfl rfl rfl ?_
  refine cx_getf hA (by decide) rfl dX2_owner_1 rfl fl_X2_18 rfl ?_
  refine hk_iload_n dX2_owner_4 rfl rfl rfl ?_
  refine cx_iald hA dX2_owner_5 rfl rfl (by decide) (show _ < 90 by omega) ?_
  exact hk_ireturn rfl (rfl) dX2_owner_6 (⟨trivial, rfl, rfl⟩)
theorem ct_X2_ownerCount {j : Nat} (hfl : l.stackTraces = false) (hA : hs_inj A) (hj : j < 90) : hk_Ctr G l 1 yX2_ownerCount cX2_ownerCount 2 (some .int) 0 0 [.ref (A 3), .int (nI j)] (hs_ov A (S) h) (cx_Q A h (True) (some (.int (S.1 16 j))) (S)) (cx_X A h (S) ((fun _ => False))) := by
  refine hk_enter (by decide) hfl (Nat.le_of_ble_eq_true rfl) rfl ?_
  refine hk_aload_n dX2_ownerCount_0 rfl rfl rfl ?_
  refine cx_getf hA (by decide) rfl dX2_ownerCount_1 rfl fl_X2_21 rfl ?_
  refine hk_iload_n dX2_ownerCount_4 rfl rfl rfl ?_
  refine cx_iald hA dX2_ownerCount_5 rfl rfl (by decide) (show _ < 90 by omega) ?_
  exact hk_ireturn rfl (rfl) dX2_ownerCount_6 (⟨trivial, rfl, rfl⟩)
theorem ct_X2_isHoarded {j : Nat} (hfl : l.stackTraces = false) (hA : hs_inj A) (hj : j < 90) (hb : narrow .boolean (.int (S.1 17 j)) = .int (S.1 17 j)) : hk_Ctr G l 1 yX2_isHoarded cX2_isHoarded 2 (some .boolean) 0 0 [.ref (A 3), .int (nI j)] (hs_ov A (S) h) (cx_Q A h (True) (some (.int (S.1 17 j))) (S)) (cx_X A h (S) ((fun _ => False))) := by
  refine hk_enter (by decide) hfl (Nat.le_of_ble_eq_true rfl) rfl ?_
  refine hk_aload_n dX2_isHoarded_0 rfl rfl rfl ?_
  refine cx_getf hA (by decide) rfl dX2_isHoarded_1 rfl fl_X2_24 rfl ?_
  refine hk_iload_n dX2_isHoarded_4 rfl rfl rfl ?_
  refine cx_zald hA dX2_isHoarded_5 rfl rfl (by decide) (show _ < 90 by omega) ?_
  exact hk_ireturn rfl (hb) dX2_isHoarded_6 (⟨trivial, rfl, rfl⟩)
theorem ct_X2_setHoarded {j : Nat} {v : Int32} (hfl : l.stackTraces = false) (hA : hs_inj A) (hj : j < 90) (hb : narrow .boolean (.int v) = .int v) : hk_Ctr G l 1 yX2_setHoarded cX2_setHoarded 3 none 0 0 [.ref (A 3), .int (nI j), .int v] (hs_ov A (S) h) (cx_Q A h (True) (none) (hs_su S 17 j v)) (cx_X A h (S) ((fun _ => False))) := by
  refine hk_enter (by decide) hfl (Nat.le_of_ble_eq_true rfl) rfl ?_
  refine hk_aload_n dX2_setHoarded_0 rfl rfl rfl ?_
  refine cx_getf hA (by decide) rfl dX2_setHoarded_1 rfl fl_X2_24 rfl ?_
  refine hk_iload_n dX2_setHoarded_4 rfl rfl rfl ?_
  refine hk_iload_n dX2_setHoarded_5 rfl rfl rfl ?_
  refine cx_zast hA dX2_setHoarded_6 rfl rfl (by decide) (show _ < 90 by omega) hb ?_
  exact hk_vreturn rfl dX2_setHoarded_7 (⟨trivial, rfl, rfl⟩)
theorem ct_X2_lighten {j : Nat} {v : Int32} (hfl : l.stackTraces = false) (hA : hs_inj A) (hj : j < 90) : hk_Ctr G l 1 yX2_lighten cX2_lighten 3 none 0 0 [.ref (A 3), .int (nI j), .int v] (hs_ov A (S) h) (cx_Q A h (True) (none) (hs_su S 14 j (S.1 14 j - v))) (cx_X A h (S) ((fun _ => False))) := by
  refine hk_enter (by decide) hfl (Nat.le_of_ble_eq_true rfl) rfl ?_
  refine hk_aload_n dX2_lighten_0 rfl rfl rfl ?_
  refine cx_getf hA (by decide) rfl dX2_lighten_1 rfl fl_X2_15 rfl ?_
  refine hk_iload_n dX2_lighten_4 rfl rfl rfl ?_
  refine hk_dup2 dX2_lighten_5 rfl rfl rfl ?_
  refine cx_iald hA dX2_lighten_6 rfl rfl (by decide) (show _ < 90 by omega) ?_
  refine hk_iload_n dX2_lighten_7 rfl rfl rfl ?_
  refine hk_isub dX2_lighten_8 rfl ?_
  refine cx_iast hA dX2_lighten_9 rfl rfl (by decide) (show _ < 90 by omega) ?_
  exact hk_vreturn rfl dX2_lighten_10 (⟨trivial, rfl, rfl⟩)
theorem ct_X2_isLoose {j a m : Nat} (hfl : l.stackTraces = false) (hA : hs_inj A) (hj : j < 90) : hk_Ctr G l 1 yX2_isLoose cX2_isLoose 4 (some .boolean) 0 0 [.ref (A 3), .int (nI j), .int (nI a), .int (nI m)] (hs_ov A (S) h) (cx_Q A h (True) (some (.int (cx_b (cs_isL S a m j)))) (S)) (cx_X A h (S) ((fun _ => False))) := by
  refine hk_enter (by decide) hfl (Nat.le_of_ble_eq_true rfl) rfl ?_
  refine hk_aload_n dX2_isLoose_0 rfl rfl rfl ?_
  refine cx_getf hA (by decide) rfl dX2_isLoose_1 rfl fl_X2_18 rfl ?_
  refine hk_iload_n dX2_isLoose_4 rfl rfl rfl ?_
  refine cx_iald hA dX2_isLoose_5 rfl rfl (by decide) (show _ < 90 by omega) ?_
  refine hk_iload_n dX2_isLoose_6 rfl rfl rfl ?_
  refine hk_icmp_ne (tgt := 33) dX2_isLoose_7 (by decide) rfl (fun z7 => ?_) (fun z7 => ?_)
  · skip
    refine hk_iconst (v := nI 0) dX2_isLoose_33 rfl (by decide) ?_
    exact hk_ireturn rfl (rfl) dX2_isLoose_34 (⟨trivial, by unfold cs_isL; first | (rw [if_pos z7, if_pos z17, if_pos z26]; rfl) | (rw [if_pos z7, if_pos z17, if_neg z26]; rfl) | (rw [if_pos z7, if_neg z17]; rfl) | (rw [if_neg z7]; rfl), rfl⟩)
  · skip
    refine hk_aload_n dX2_isLoose_10 rfl rfl rfl ?_
    refine cx_getf hA (by decide) rfl dX2_isLoose_11 rfl fl_X2_9 rfl ?_
    refine hk_iload_n dX2_isLoose_14 rfl rfl rfl ?_
    refine cx_iald hA dX2_isLoose_15 rfl rfl (by decide) (show _ < 90 by omega) ?_
    refine hk_iload_n dX2_isLoose_16 rfl rfl rfl ?_
    refine hk_icmp_ne (tgt := 33) dX2_isLoose_17 (by decide) rfl (fun z17 => ?_) (fun z17 => ?_)
    · skip
      refine hk_iconst (v := nI 0) dX2_isLoose_33 rfl (by decide) ?_
      exact hk_ireturn rfl (rfl) dX2_isLoose_34 (⟨trivial, by unfold cs_isL; first | (rw [if_pos z7, if_pos z17, if_pos z26]; rfl) | (rw [if_pos z7, if_pos z17, if_neg z26]; rfl) | (rw [if_pos z7, if_neg z17]; rfl) | (rw [if_neg z7]; rfl), rfl⟩)
    · skip
      refine hk_aload_n dX2_isLoose_20 rfl rfl rfl ?_
      refine cx_getf hA (by decide) rfl dX2_isLoose_21 rfl fl_X2_24 rfl ?_
      refine hk_iload_n dX2_isLoose_24 rfl rfl rfl ?_
      refine cx_zald hA dX2_isLoose_25 rfl rfl (by decide) (show _ < 90 by omega) ?_
      refine hk_if_ne (tgt := 33) dX2_isLoose_26 (by decide) rfl (fun z26 => ?_) (fun z26 => ?_)
      · skip
        refine hk_iconst (v := nI 0) dX2_isLoose_33 rfl (by decide) ?_
        exact hk_ireturn rfl (rfl) dX2_isLoose_34 (⟨trivial, by unfold cs_isL; first | (rw [if_pos z7, if_pos z17, if_pos z26]; rfl) | (rw [if_pos z7, if_pos z17, if_neg z26]; rfl) | (rw [if_pos z7, if_neg z17]; rfl) | (rw [if_neg z7]; rfl), rfl⟩)
      · skip
        refine hk_iconst (v := nI 1) dX2_isLoose_29 rfl (by decide) ?_
        refine hk_goto (tgt := 34) dX2_isLoose_30 (by decide) ?_
        exact hk_ireturn rfl (rfl) dX2_isLoose_34 (⟨trivial, by unfold cs_isL; first | (rw [if_pos z7, if_pos z17, if_pos z26]; rfl) | (rw [if_pos z7, if_pos z17, if_neg z26]; rfl) | (rw [if_pos z7, if_neg z17]; rfl) | (rw [if_neg z7]; rfl), rfl⟩)
theorem ct_X2_owned {c : Nat} {a m : Nat} (hfl : l.stackTraces = false) (hA : hs_inj A) (h31 : S.1 31 0 = nI c) (hc : c ≤ 90) : hk_Ctr G l 1 yX2_owned cX2_owned 5 (some .int) 0 0 [.ref (A 3), .int (nI a), .int (nI m)] (hs_ov A (S) h) (cx_Q A h (True) (some (.int (nI (cs_owned S a m c)))) (S)) (cx_X A h (S) ((fun _ => False))) := by
  refine hk_enter (by decide) hfl (Nat.le_of_ble_eq_true rfl) rfl ?_
  refine hk_iconst (v := nI 0) dX2_owned_0 rfl (by decide) ?_
  refine hk_istore_n dX2_owned_1 rfl rfl (by decide) rfl ?_
  refine hk_iconst (v := nI 0) dX2_owned_2 rfl (by decide) ?_
  refine hk_istore dX2_owned_3 rfl (by decide) rfl ?_
  have lp5 : ∀ f j : Nat, j ≤ c → c - j < f → hk_W G l 1 yX2_owned cX2_owned 5 (some .int) [] (cx_Q A h (True) (some (.int (nI (cs_owned S a m c)))) (S)) (cx_X A h (S) ((fun _ => False))) 0 0 (hs_ov A (S) h) 5 [some (.ref (A 3)), some (.int (nI a)), some (.int (nI m)), some (.int (nI (cs_owned S a m j))), some (.int (nI j))] [] := by
    intro f
    induction f with
    | zero => intro j hj hf; exact absurd hf (by omega)
    | succ f ih =>
      intro j hj hf
      refine hk_iload dX2_owned_5 rfl rfl ?_
      refine hk_aload_n dX2_owned_7 rfl rfl rfl ?_
      refine cx_getf hA (by decide) rfl dX2_owned_8 rfl fl_X2_31 rfl ?_
      refine cx_top h31 ?_
      refine cx_icmp_ge (tgt := 45) (by omega) (by omega) dX2_owned_11 (by decide) rfl (fun z11 => ?_) (fun z11 => ?_)
      · skip
        refine hk_iload_n dX2_owned_45 rfl rfl rfl ?_
        exact hk_ireturn rfl (rfl) dX2_owned_46 (by have e : j = c := (by omega); subst e; exact ⟨trivial, rfl, rfl⟩)
      · skip
        refine hk_aload_n dX2_owned_14 rfl rfl rfl ?_
        refine cx_getf hA (by decide) rfl dX2_owned_15 rfl fl_X2_18 rfl ?_
        refine hk_iload dX2_owned_18 rfl rfl ?_
        refine cx_iald hA dX2_owned_20 rfl rfl (by decide) (show _ < 90 by omega) ?_
        refine hk_iload_n dX2_owned_21 rfl rfl rfl ?_
        refine hk_icmp_ne (tgt := 39) dX2_owned_22 (by decide) rfl (fun z22 => ?_) (fun z22 => ?_)
        · skip
          refine hk_iinc dX2_owned_39 rfl rfl (nI_1 _) (by decide) rfl ?_
          refine hk_goto (tgt := 5) dX2_owned_42 (by decide) ?_
          exact cx_cg rfl (by first | (rw [cs_owned_s, if_pos z22, if_pos z33]; rfl) | (rw [cs_owned_s, if_pos z22, if_neg z33]; rfl) | (rw [cs_owned_s, if_neg z22, if_pos z33]; rfl) | (rw [cs_owned_s, if_neg z22, if_neg z33]; rfl) | (rw [cs_owned_s, if_pos z22]; rfl) | (rw [cs_owned_s, if_neg z22]; rfl)) (ih (j + 1) (by omega) (by omega))
        · skip
          refine hk_aload_n dX2_owned_25 rfl rfl rfl ?_
          refine cx_getf hA (by decide) rfl dX2_owned_26 rfl fl_X2_9 rfl ?_
          refine hk_iload dX2_owned_29 rfl rfl ?_
          refine cx_iald hA dX2_owned_31 rfl rfl (by decide) (show _ < 90 by omega) ?_
          refine hk_iload_n dX2_owned_32 rfl rfl rfl ?_
          refine hk_icmp_ne (tgt := 39) dX2_owned_33 (by decide) rfl (fun z33 => ?_) (fun z33 => ?_)
          · skip
            refine hk_iinc dX2_owned_39 rfl rfl (nI_1 _) (by decide) rfl ?_
            refine hk_goto (tgt := 5) dX2_owned_42 (by decide) ?_
            exact cx_cg rfl (by first | (rw [cs_owned_s, if_pos z22, if_pos z33]; rfl) | (rw [cs_owned_s, if_pos z22, if_neg z33]; rfl) | (rw [cs_owned_s, if_neg z22, if_pos z33]; rfl) | (rw [cs_owned_s, if_neg z22, if_neg z33]; rfl) | (rw [cs_owned_s, if_pos z22]; rfl) | (rw [cs_owned_s, if_neg z22]; rfl)) (ih (j + 1) (by omega) (by omega))
          · skip
            refine hk_iinc dX2_owned_36 rfl rfl (nI_1 _) (by decide) rfl ?_
            refine hk_iinc dX2_owned_39 rfl rfl (nI_1 _) (by decide) rfl ?_
            refine hk_goto (tgt := 5) dX2_owned_42 (by decide) ?_
            exact cx_cg rfl (by first | (rw [cs_owned_s, if_pos z22, if_pos z33]; rfl) | (rw [cs_owned_s, if_pos z22, if_neg z33]; rfl) | (rw [cs_owned_s, if_neg z22, if_pos z33]; rfl) | (rw [cs_owned_s, if_neg z22, if_neg z33]; rfl) | (rw [cs_owned_s, if_pos z22]; rfl) | (rw [cs_owned_s, if_neg z22]; rfl)) (ih (j + 1) (by omega) (by omega))
  exact lp5 (c + 1) 0 (by omega) (by omega)
theorem ct_X2_loose {c : Nat} {a m : Nat} (hfl : l.stackTraces = false) (hA : hs_inj A) (h31 : S.1 31 0 = nI c) (hc : c ≤ 90) : hk_Ctr G l 2 yX2_loose cX2_loose 5 (some .int) 0 0 [.ref (A 3), .int (nI a), .int (nI m)] (hs_ov A (S) h) (cx_Q A h (True) (some (.int (nI (cs_loose S a m c)))) (S)) (cx_X A h (S) ((fun _ => False))) := by
  refine hk_enter (by decide) hfl (Nat.le_of_ble_eq_true rfl) rfl ?_
  refine hk_iconst (v := nI 0) dX2_loose_0 rfl (by decide) ?_
  refine hk_istore_n dX2_loose_1 rfl rfl (by decide) rfl ?_
  refine hk_iconst (v := nI 0) dX2_loose_2 rfl (by decide) ?_
  refine hk_istore dX2_loose_3 rfl (by decide) rfl ?_
  have lp5 : ∀ f j : Nat, j ≤ c → c - j < f → hk_W G l 2 yX2_loose cX2_loose 5 (some .int) [] (cx_Q A h (True) (some (.int (nI (cs_loose S a m c)))) (S)) (cx_X A h (S) ((fun _ => False))) 0 0 (hs_ov A (S) h) 5 [some (.ref (A 3)), some (.int (nI a)), some (.int (nI m)), some (.int (nI (cs_loose S a m j))), some (.int (nI j))] [] := by
    intro f
    induction f with
    | zero => intro j hj hf; exact absurd hf (by omega)
    | succ f ih =>
      intro j hj hf
      refine hk_iload dX2_loose_5 rfl rfl ?_
      refine hk_aload_n dX2_loose_7 rfl rfl rfl ?_
      refine cx_getf hA (by decide) rfl dX2_loose_8 rfl fl_X2_31 rfl ?_
      refine cx_top h31 ?_
      refine cx_icmp_ge (tgt := 34) (by omega) (by omega) dX2_loose_11 (by decide) rfl (fun z11 => ?_) (fun z11 => ?_)
      · skip
        refine hk_iload_n dX2_loose_34 rfl rfl rfl ?_
        exact hk_ireturn rfl (rfl) dX2_loose_35 (by have e : j = c := (by omega); subst e; exact ⟨trivial, rfl, rfl⟩)
      · skip
        refine hk_aload_n dX2_loose_14 rfl rfl rfl ?_
        refine hk_iload dX2_loose_15 rfl rfl ?_
        refine hk_iload_n dX2_loose_17 rfl rfl rfl ?_
        refine hk_iload_n dX2_loose_18 rfl rfl rfl ?_
        refine cx_calli hA (by decide) rfl rfl rfl dX2_loose_19 rfl mv_X2_43 (ct_X2_isLoose hfl hA (by omega)) rfl rfl (by decide) (by decide) (Nat.le_of_ble_eq_true rfl) (fun c19 => ?_) (fun E c => c.elim)
        refine cx_ifb_eq (tgt := 28) dX2_loose_22 (by decide) rfl (fun z22 => ?_) (fun z22 => ?_)
        · skip
          refine hk_iinc dX2_loose_28 rfl rfl (nI_1 _) (by decide) rfl ?_
          refine hk_goto (tgt := 5) dX2_loose_31 (by decide) ?_
          exact cx_cg rfl (by first | (rw [cs_loose_s, z22]; rfl)) (ih (j + 1) (by omega) (by omega))
        · skip
          refine hk_iinc dX2_loose_25 rfl rfl (nI_1 _) (by decide) rfl ?_
          refine hk_iinc dX2_loose_28 rfl rfl (nI_1 _) (by decide) rfl ?_
          refine hk_goto (tgt := 5) dX2_loose_31 (by decide) ?_
          exact cx_cg rfl (by first | (rw [cs_loose_s, z22]; rfl)) (ih (j + 1) (by omega) (by omega))
  exact lp5 (c + 1) 0 (by omega) (by omega)
theorem ct_X2_unmelted {c : Nat}  (hfl : l.stackTraces = false) (hA : hs_inj A) (h31 : S.1 31 0 = nI c) (hc : c ≤ 90) : hk_Ctr G l 1 yX2_unmelted cX2_unmelted 3 (some .int) 0 0 [.ref (A 3)] (hs_ov A (S) h) (cx_Q A h (True) (some (.int (nI (cs_unm S c)))) (S)) (cx_X A h (S) ((fun _ => False))) := by
  refine hk_enter (by decide) hfl (Nat.le_of_ble_eq_true rfl) rfl ?_
  refine hk_iconst (v := nI 0) dX2_unmelted_0 rfl (by decide) ?_
  refine hk_istore_n dX2_unmelted_1 rfl rfl (by decide) rfl ?_
  refine hk_iconst (v := nI 0) dX2_unmelted_2 rfl (by decide) ?_
  refine hk_istore_n dX2_unmelted_3 rfl rfl (by decide) rfl ?_
  have lp4 : ∀ f j : Nat, j ≤ c → c - j < f → hk_W G l 1 yX2_unmelted cX2_unmelted 3 (some .int) [] (cx_Q A h (True) (some (.int (nI (cs_unm S c)))) (S)) (cx_X A h (S) ((fun _ => False))) 0 0 (hs_ov A (S) h) 4 [some (.ref (A 3)), some (.int (nI (cs_unm S j))), some (.int (nI j))] [] := by
    intro f
    induction f with
    | zero => intro j hj hf; exact absurd hf (by omega)
    | succ f ih =>
      intro j hj hf
      refine hk_iload_n dX2_unmelted_4 rfl rfl rfl ?_
      refine hk_aload_n dX2_unmelted_5 rfl rfl rfl ?_
      refine cx_getf hA (by decide) rfl dX2_unmelted_6 rfl fl_X2_31 rfl ?_
      refine cx_top h31 ?_
      refine cx_icmp_ge (tgt := 31) (by omega) (by omega) dX2_unmelted_9 (by decide) rfl (fun z9 => ?_) (fun z9 => ?_)
      · skip
        refine hk_iload_n dX2_unmelted_31 rfl rfl rfl ?_
        exact hk_ireturn rfl (rfl) dX2_unmelted_32 (by have e : j = c := (by omega); subst e; exact ⟨trivial, rfl, rfl⟩)
      · skip
        refine hk_aload_n dX2_unmelted_12 rfl rfl rfl ?_
        refine cx_getf hA (by decide) rfl dX2_unmelted_13 rfl fl_X2_18 rfl ?_
        refine hk_iload_n dX2_unmelted_16 rfl rfl rfl ?_
        refine cx_iald hA dX2_unmelted_17 rfl rfl (by decide) (show _ < 90 by omega) ?_
        refine hk_iconst (v := -1) dX2_unmelted_18 rfl (by decide) ?_
        refine hk_icmp_eq (tgt := 25) dX2_unmelted_19 (by decide) rfl (fun z19 => ?_) (fun z19 => ?_)
        · skip
          refine hk_iinc dX2_unmelted_25 rfl rfl (nI_1 _) (by decide) rfl ?_
          refine hk_goto (tgt := 4) dX2_unmelted_28 (by decide) ?_
          exact cx_cg rfl (by first | (rw [cs_unm_s, if_pos z19]; rfl) | (rw [cs_unm_s, if_neg z19]; rfl)) (ih (j + 1) (by omega) (by omega))
        · skip
          refine hk_iinc dX2_unmelted_22 rfl rfl (nI_1 _) (by decide) rfl ?_
          refine hk_iinc dX2_unmelted_25 rfl rfl (nI_1 _) (by decide) rfl ?_
          refine hk_goto (tgt := 4) dX2_unmelted_28 (by decide) ?_
          exact cx_cg rfl (by first | (rw [cs_unm_s, if_pos z19]; rfl) | (rw [cs_unm_s, if_neg z19]; rfl)) (ih (j + 1) (by omega) (by omega))
  exact lp4 (c + 1) 0 (by omega) (by omega)
theorem ct_X2_lighter {c : Nat} {m : Nat} {v : Int32} (hfl : l.stackTraces = false) (hA : hs_inj A) (h31 : S.1 31 0 = nI c) (hc : c ≤ 90) : hk_Ctr G l 1 yX2_lighter cX2_lighter 5 (some .int) 0 0 [.ref (A 3), .int (nI m), .int v] (hs_ov A (S) h) (cx_Q A h (True) (some (.int (nI (cs_ltr S m v c)))) (S)) (cx_X A h (S) ((fun _ => False))) := by
  refine hk_enter (by decide) hfl (Nat.le_of_ble_eq_true rfl) rfl ?_
  refine hk_iconst (v := nI 0) dX2_lighter_0 rfl (by decide) ?_
  refine hk_istore_n dX2_lighter_1 rfl rfl (by decide) rfl ?_
  refine hk_iconst (v := nI 0) dX2_lighter_2 rfl (by decide) ?_
  refine hk_istore dX2_lighter_3 rfl (by decide) rfl ?_
  have lp5 : ∀ f j : Nat, j ≤ c → c - j < f → hk_W G l 1 yX2_lighter cX2_lighter 5 (some .int) [] (cx_Q A h (True) (some (.int (nI (cs_ltr S m v c)))) (S)) (cx_X A h (S) ((fun _ => False))) 0 0 (hs_ov A (S) h) 5 [some (.ref (A 3)), some (.int (nI m)), some (.int v), some (.int (nI (cs_ltr S m v j))), some (.int (nI j))] [] := by
    intro f
    induction f with
    | zero => intro j hj hf; exact absurd hf (by omega)
    | succ f ih =>
      intro j hj hf
      refine hk_iload dX2_lighter_5 rfl rfl ?_
      refine hk_aload_n dX2_lighter_7 rfl rfl rfl ?_
      refine cx_getf hA (by decide) rfl dX2_lighter_8 rfl fl_X2_31 rfl ?_
      refine cx_top h31 ?_
      refine cx_icmp_ge (tgt := 56) (by omega) (by omega) dX2_lighter_11 (by decide) rfl (fun z11 => ?_) (fun z11 => ?_)
      · skip
        refine hk_iload_n dX2_lighter_56 rfl rfl rfl ?_
        exact hk_ireturn rfl (rfl) dX2_lighter_57 (by have e : j = c := (by omega); subst e; exact ⟨trivial, rfl, rfl⟩)
      · skip
        refine hk_aload_n dX2_lighter_14 rfl rfl rfl ?_
        refine cx_getf hA (by decide) rfl dX2_lighter_15 rfl fl_X2_18 rfl ?_
        refine hk_iload dX2_lighter_18 rfl rfl ?_
        refine cx_iald hA dX2_lighter_20 rfl rfl (by decide) (show _ < 90 by omega) ?_
        refine hk_iconst (v := -1) dX2_lighter_21 rfl (by decide) ?_
        refine hk_icmp_eq (tgt := 50) dX2_lighter_22 (by decide) rfl (fun z22 => ?_) (fun z22 => ?_)
        · skip
          refine hk_iinc dX2_lighter_50 rfl rfl (nI_1 _) (by decide) rfl ?_
          refine hk_goto (tgt := 5) dX2_lighter_53 (by decide) ?_
          exact cx_cg rfl (by first | (rw [cs_ltr_s, if_pos z22, if_pos z33, if_pos z44]; rfl) | (rw [cs_ltr_s, if_pos z22, if_pos z33, if_neg z44]; rfl) | (rw [cs_ltr_s, if_pos z22, if_neg z33, if_pos z44]; rfl) | (rw [cs_ltr_s, if_pos z22, if_neg z33, if_neg z44]; rfl) | (rw [cs_ltr_s, if_neg z22, if_pos z33, if_pos z44]; rfl) | (rw [cs_ltr_s, if_neg z22, if_pos z33, if_neg z44]; rfl) | (rw [cs_ltr_s, if_neg z22, if_neg z33, if_pos z44]; rfl) | (rw [cs_ltr_s, if_neg z22, if_neg z33, if_neg z44]; rfl) | (rw [cs_ltr_s, if_pos z22, if_pos z33]; rfl) | (rw [cs_ltr_s, if_pos z22, if_neg z33]; rfl) | (rw [cs_ltr_s, if_neg z22, if_pos z33]; rfl) | (rw [cs_ltr_s, if_neg z22, if_neg z33]; rfl) | (rw [cs_ltr_s, if_pos z22]; rfl) | (rw [cs_ltr_s, if_neg z22]; rfl)) (ih (j + 1) (by omega) (by omega))
        · skip
          refine hk_aload_n dX2_lighter_25 rfl rfl rfl ?_
          refine cx_getf hA (by decide) rfl dX2_lighter_26 rfl fl_X2_9 rfl ?_
          refine hk_iload dX2_lighter_29 rfl rfl ?_
          refine cx_iald hA dX2_lighter_31 rfl rfl (by decide) (show _ < 90 by omega) ?_
          refine hk_iload_n dX2_lighter_32 rfl rfl rfl ?_
          refine hk_icmp_ne (tgt := 50) dX2_lighter_33 (by decide) rfl (fun z33 => ?_) (fun z33 => ?_)
          · skip
            refine hk_iinc dX2_lighter_50 rfl rfl (nI_1 _) (by decide) rfl ?_
            refine hk_goto (tgt := 5) dX2_lighter_53 (by decide) ?_
            exact cx_cg rfl (by first | (rw [cs_ltr_s, if_pos z22, if_pos z33, if_pos z44]; rfl) | (rw [cs_ltr_s, if_pos z22, if_pos z33, if_neg z44]; rfl) | (rw [cs_ltr_s, if_pos z22, if_neg z33, if_pos z44]; rfl) | (rw [cs_ltr_s, if_pos z22, if_neg z33, if_neg z44]; rfl) | (rw [cs_ltr_s, if_neg z22, if_pos z33, if_pos z44]; rfl) | (rw [cs_ltr_s, if_neg z22, if_pos z33, if_neg z44]; rfl) | (rw [cs_ltr_s, if_neg z22, if_neg z33, if_pos z44]; rfl) | (rw [cs_ltr_s, if_neg z22, if_neg z33, if_neg z44]; rfl) | (rw [cs_ltr_s, if_pos z22, if_pos z33]; rfl) | (rw [cs_ltr_s, if_pos z22, if_neg z33]; rfl) | (rw [cs_ltr_s, if_neg z22, if_pos z33]; rfl) | (rw [cs_ltr_s, if_neg z22, if_neg z33]; rfl) | (rw [cs_ltr_s, if_pos z22]; rfl) | (rw [cs_ltr_s, if_neg z22]; rfl)) (ih (j + 1) (by omega) (by omega))
          · skip
            refine hk_aload_n dX2_lighter_36 rfl rfl rfl ?_
            refine cx_getf hA (by decide) rfl dX2_lighter_37 rfl fl_X2_15 rfl ?_
            refine hk_iload dX2_lighter_40 rfl rfl ?_
            refine cx_iald hA dX2_lighter_42 rfl rfl (by decide) (show _ < 90 by omega) ?_
            refine hk_iload_n dX2_lighter_43 rfl rfl rfl ?_
            refine hk_icmp_ge (tgt := 50) dX2_lighter_44 (by decide) rfl (fun z44 => ?_) (fun z44 => ?_)
            · skip
              refine hk_iinc dX2_lighter_50 rfl rfl (nI_1 _) (by decide) rfl ?_
              refine hk_goto (tgt := 5) dX2_lighter_53 (by decide) ?_
              exact cx_cg rfl (by first | (rw [cs_ltr_s, if_pos z22, if_pos z33, if_pos z44]; rfl) | (rw [cs_ltr_s, if_pos z22, if_pos z33, if_neg z44]; rfl) | (rw [cs_ltr_s, if_pos z22, if_neg z33, if_pos z44]; rfl) | (rw [cs_ltr_s, if_pos z22, if_neg z33, if_neg z44]; rfl) | (rw [cs_ltr_s, if_neg z22, if_pos z33, if_pos z44]; rfl) | (rw [cs_ltr_s, if_neg z22, if_pos z33, if_neg z44]; rfl) | (rw [cs_ltr_s, if_neg z22, if_neg z33, if_pos z44]; rfl) | (rw [cs_ltr_s, if_neg z22, if_neg z33, if_neg z44]; rfl) | (rw [cs_ltr_s, if_pos z22, if_pos z33]; rfl) | (rw [cs_ltr_s, if_pos z22, if_neg z33]; rfl) | (rw [cs_ltr_s, if_neg z22, if_pos z33]; rfl) | (rw [cs_ltr_s, if_neg z22, if_neg z33]; rfl) | (rw [cs_ltr_s, if_pos z22]; rfl) | (rw [cs_ltr_s, if_neg z22]; rfl)) (ih (j + 1) (by omega) (by omega))
            · skip
              refine hk_iinc dX2_lighter_47 rfl rfl (nI_1 _) (by decide) rfl ?_
              refine hk_iinc dX2_lighter_50 rfl rfl (nI_1 _) (by decide) rfl ?_
              refine hk_goto (tgt := 5) dX2_lighter_53 (by decide) ?_
              exact cx_cg rfl (by first | (rw [cs_ltr_s, if_pos z22, if_pos z33, if_pos z44]; rfl) | (rw [cs_ltr_s, if_pos z22, if_pos z33, if_neg z44]; rfl) | (rw [cs_ltr_s, if_pos z22, if_neg z33, if_pos z44]; rfl) | (rw [cs_ltr_s, if_pos z22, if_neg z33, if_neg z44]; rfl) | (rw [cs_ltr_s, if_neg z22, if_pos z33, if_pos z44]; rfl) | (rw [cs_ltr_s, if_neg z22, if_pos z33, if_neg z44]; rfl) | (rw [cs_ltr_s, if_neg z22, if_neg z33, if_pos z44]; rfl) | (rw [cs_ltr_s, if_neg z22, if_neg z33, if_neg z44]; rfl) | (rw [cs_ltr_s, if_pos z22, if_pos z33]; rfl) | (rw [cs_ltr_s, if_pos z22, if_neg z33]; rfl) | (rw [cs_ltr_s, if_neg z22, if_pos z33]; rfl) | (rw [cs_ltr_s, if_neg z22, if_neg z33]; rfl) | (rw [cs_ltr_s, if_pos z22]; rfl) | (rw [cs_ltr_s, if_neg z22]; rfl)) (ih (j + 1) (by omega) (by omega))
  exact lp5 (c + 1) 0 (by omega) (by omega)
theorem ct_X2_weightOfAll {c : Nat} {m : Nat} (hfl : l.stackTraces = false) (hA : hs_inj A) (h31 : S.1 31 0 = nI c) (hc : c ≤ 90) : hk_Ctr G l 1 yX2_weightOfAll cX2_weightOfAll 4 (some .int) 0 0 [.ref (A 3), .int (nI m)] (hs_ov A (S) h) (cx_Q A h (True) (some (.int (cs_woa S m c))) (S)) (cx_X A h (S) ((fun _ => False))) := by
  refine hk_enter (by decide) hfl (Nat.le_of_ble_eq_true rfl) rfl ?_
  refine hk_iconst (v := nI 0) dX2_weightOfAll_0 rfl (by decide) ?_
  refine hk_istore_n dX2_weightOfAll_1 rfl rfl (by decide) rfl ?_
  refine hk_iconst (v := nI 0) dX2_weightOfAll_2 rfl (by decide) ?_
  refine hk_istore_n dX2_weightOfAll_3 rfl rfl (by decide) rfl ?_
  have lp4 : ∀ f j : Nat, j ≤ c → c - j < f → hk_W G l 1 yX2_weightOfAll cX2_weightOfAll 4 (some .int) [] (cx_Q A h (True) (some (.int (cs_woa S m c))) (S)) (cx_X A h (S) ((fun _ => False))) 0 0 (hs_ov A (S) h) 4 [some (.ref (A 3)), some (.int (nI m)), some (.int (cs_woa S m j)), some (.int (nI j))] [] := by
    intro f
    induction f with
    | zero => intro j hj hf; exact absurd hf (by omega)
    | succ f ih =>
      intro j hj hf
      refine hk_iload_n dX2_weightOfAll_4 rfl rfl rfl ?_
      refine hk_aload_n dX2_weightOfAll_5 rfl rfl rfl ?_
      refine cx_getf hA (by decide) rfl dX2_weightOfAll_6 rfl fl_X2_31 rfl ?_
      refine cx_top h31 ?_
      refine cx_icmp_ge (tgt := 37) (by omega) (by omega) dX2_weightOfAll_9 (by decide) rfl (fun z9 => ?_) (fun z9 => ?_)
      · skip
        refine hk_iload_n dX2_weightOfAll_37 rfl rfl rfl ?_
        exact hk_ireturn rfl (rfl) dX2_weightOfAll_38 (by have e : j = c := (by omega); subst e; exact ⟨trivial, rfl, rfl⟩)
      · skip
        refine hk_aload_n dX2_weightOfAll_12 rfl rfl rfl ?_
        refine cx_getf hA (by decide) rfl dX2_weightOfAll_13 rfl fl_X2_9 rfl ?_
        refine hk_iload_n dX2_weightOfAll_16 rfl rfl rfl ?_
        refine cx_iald hA dX2_weightOfAll_17 rfl rfl (by decide) (show _ < 90 by omega) ?_
        refine hk_iload_n dX2_weightOfAll_18 rfl rfl rfl ?_
        refine hk_icmp_ne (tgt := 31) dX2_weightOfAll_19 (by decide) rfl (fun z19 => ?_) (fun z19 => ?_)
        · skip
          refine hk_iinc dX2_weightOfAll_31 rfl rfl (nI_1 _) (by decide) rfl ?_
          refine hk_goto (tgt := 4) dX2_weightOfAll_34 (by decide) ?_
          exact cx_cg rfl (by first | (rw [cs_woa_s, if_pos z19]; rfl) | (rw [cs_woa_s, if_neg z19]; rfl)) (ih (j + 1) (by omega) (by omega))
        · skip
          refine hk_iload_n dX2_weightOfAll_22 rfl rfl rfl ?_
          refine hk_aload_n dX2_weightOfAll_23 rfl rfl rfl ?_
          refine cx_getf hA (by decide) rfl dX2_weightOfAll_24 rfl fl_X2_15 rfl ?_
          refine hk_iload_n dX2_weightOfAll_27 rfl rfl rfl ?_
          refine cx_iald hA dX2_weightOfAll_28 rfl rfl (by decide) (show _ < 90 by omega) ?_
          refine hk_iadd dX2_weightOfAll_29 rfl ?_
          refine hk_istore_n dX2_weightOfAll_30 rfl rfl (by decide) rfl ?_
          refine hk_iinc dX2_weightOfAll_31 rfl rfl (nI_1 _) (by decide) rfl ?_
          refine hk_goto (tgt := 4) dX2_weightOfAll_34 (by decide) ?_
          exact cx_cg rfl (by first | (rw [cs_woa_s, if_pos z19]; rfl) | (rw [cs_woa_s, if_neg z19]; rfl)) (ih (j + 1) (by omega) (by omega))
  exact lp4 (c + 1) 0 (by omega) (by omega)
theorem ct_X2_areWhereGiven {c : Nat} (hfl : l.stackTraces = false) (hA : hs_inj A) (h31 : S.1 31 0 = nI c) (hc : c ≤ 90) : hk_Ctr G l 1 yX2_areWhereGiven cX2_areWhereGiven 2 (some .boolean) 0 0 [.ref (A 3)] (hs_ov A (S) h) (cx_Q A h (True) (some (.int (cx_b (cs_wg S c)))) (S)) (cx_X A h (S) ((fun _ => False))) := by
  refine hk_enter (by decide) hfl (Nat.le_of_ble_eq_true rfl) rfl ?_
  refine hk_iconst (v := nI 0) dX2_areWhereGiven_0 rfl (by decide) ?_
  refine hk_istore_n dX2_areWhereGiven_1 rfl rfl (by decide) rfl ?_
  have lp2 : ∀ f j : Nat, j ≤ c → c - j < f → cs_wg S j = true → hk_W G l 1 yX2_areWhereGiven cX2_areWhereGiven 2 (some .boolean) [] (cx_Q A h (True) (some (.int (cx_b (cs_wg S c)))) (S)) (cx_X A h (S) ((fun _ => False))) 0 0 (hs_ov A (S) h) 2 [some (.ref (A 3)), some (.int (nI j))] [] := by
    intro f
    induction f with
    | zero => intro j hj hf; exact absurd hf (by omega)
    | succ f ih =>
      intro j hj hf
      intro hw
      refine hk_iload_n dX2_areWhereGiven_2 rfl rfl rfl ?_
      refine hk_aload_n dX2_areWhereGiven_3 rfl rfl rfl ?_
      refine cx_getf hA (by decide) rfl dX2_areWhereGiven_4 rfl fl_X2_31 rfl ?_
      refine cx_top h31 ?_
      refine cx_icmp_ge (tgt := 43) (by omega) (by omega) dX2_areWhereGiven_7 (by decide) rfl (fun z7 => ?_) (fun z7 => ?_)
      · skip
        refine hk_iconst (v := nI 1) dX2_areWhereGiven_43 rfl (by decide) ?_
        exact hk_ireturn rfl (rfl) dX2_areWhereGiven_44 (by have e : j = c := (by omega); subst e; exact ⟨trivial, by rw [hw]; rfl, rfl⟩)
      · skip
        refine hk_aload_n dX2_areWhereGiven_10 rfl rfl rfl ?_
        refine cx_getf hA (by decide) rfl dX2_areWhereGiven_11 rfl fl_X2_18 rfl ?_
        refine hk_iload_n dX2_areWhereGiven_14 rfl rfl rfl ?_
        refine cx_iald hA dX2_areWhereGiven_15 rfl rfl (by decide) (show _ < 90 by omega) ?_
        refine hk_iconst (v := -1) dX2_areWhereGiven_16 rfl (by decide) ?_
        refine hk_icmp_eq (tgt := 37) dX2_areWhereGiven_17 (by decide) rfl (fun z17 => ?_) (fun z17 => ?_)
        · skip
          refine hk_iinc dX2_areWhereGiven_37 rfl rfl (nI_1 _) (by decide) rfl ?_
          refine hk_goto (tgt := 2) dX2_areWhereGiven_40 (by decide) ?_
          exact cx_cg rfl rfl (ih (j + 1) (by omega) (by omega) (by first | (rw [cs_wg_s, if_pos z17, if_pos z32]; exact hw) | (rw [cs_wg_s, if_pos z17, if_neg z32]; exact hw) | (rw [cs_wg_s, if_neg z17, if_pos z32]; exact hw) | (rw [cs_wg_s, if_neg z17, if_neg z32]; exact hw) | (rw [cs_wg_s, if_pos z17]; exact hw) | (rw [cs_wg_s, if_neg z17]; exact hw)))
        · skip
          refine hk_aload_n dX2_areWhereGiven_20 rfl rfl rfl ?_
          refine cx_getf hA (by decide) rfl dX2_areWhereGiven_21 rfl fl_X2_18 rfl ?_
          refine hk_iload_n dX2_areWhereGiven_24 rfl rfl rfl ?_
          refine cx_iald hA dX2_areWhereGiven_25 rfl rfl (by decide) (show _ < 90 by omega) ?_
          refine hk_aload_n dX2_areWhereGiven_26 rfl rfl rfl ?_
          refine cx_getf hA (by decide) rfl dX2_areWhereGiven_27 rfl fl_X2_28 rfl ?_
          refine hk_iload_n dX2_areWhereGiven_30 rfl rfl rfl ?_
          refine cx_iald hA dX2_areWhereGiven_31 rfl rfl (by decide) (show _ < 90 by omega) ?_
          refine hk_icmp_eq (tgt := 37) dX2_areWhereGiven_32 (by decide) rfl (fun z32 => ?_) (fun z32 => ?_)
          · skip
            refine hk_iinc dX2_areWhereGiven_37 rfl rfl (nI_1 _) (by decide) rfl ?_
            refine hk_goto (tgt := 2) dX2_areWhereGiven_40 (by decide) ?_
            exact cx_cg rfl rfl (ih (j + 1) (by omega) (by omega) (by first | (rw [cs_wg_s, if_pos z17, if_pos z32]; exact hw) | (rw [cs_wg_s, if_pos z17, if_neg z32]; exact hw) | (rw [cs_wg_s, if_neg z17, if_pos z32]; exact hw) | (rw [cs_wg_s, if_neg z17, if_neg z32]; exact hw) | (rw [cs_wg_s, if_pos z17]; exact hw) | (rw [cs_wg_s, if_neg z17]; exact hw)))
          · skip
            refine hk_iconst (v := nI 0) dX2_areWhereGiven_35 rfl (by decide) ?_
            exact hk_ireturn rfl (rfl) dX2_areWhereGiven_36 (by have e : cs_wg S (j + 1) = false := (by rw [cs_wg_s, if_neg z17, if_neg z32]); have e2 := cs_wg_mono e (c - (j + 1)); rw [show j + 1 + (c - (j + 1)) = c by omega] at e2; exact ⟨trivial, by rw [e2]; rfl, rfl⟩)
  exact lp2 (c + 1) 0 (by omega) (by omega) rfl
theorem ct_X2_isAhead {j q : Nat} (hfl : l.stackTraces = false) (hA : hs_inj A) (hj : j < 90) (hq : q < 90) : hk_Ctr G l 1 yX2_isAhead cX2_isAhead 3 (some .boolean) 0 0 [.ref (A 3), .int (nI j), .int (nI q)] (hs_ov A (S) h) (cx_Q A h (True) (some (.int (cx_b (cs_ahd S j q)))) (S)) (cx_X A h (S) ((fun _ => False))) := by
  refine hk_enter (by decide) hfl (Nat.le_of_ble_eq_true rfl) rfl ?_
  refine hk_aload_n dX2_isAhead_0 rfl rfl rfl ?_
  refine cx_getf hA (by decide) rfl dX2_isAhead_1 rfl fl_X2_15 rfl ?_
  refine hk_iload_n dX2_isAhead_4 rfl rfl rfl ?_
  refine cx_iald hA dX2_isAhead_5 rfl rfl (by decide) (show _ < 90 by omega) ?_
  refine hk_aload_n dX2_isAhead_6 rfl rfl rfl ?_
  refine cx_getf hA (by decide) rfl dX2_isAhead_7 rfl fl_X2_15 rfl ?_
  refine hk_iload_n dX2_isAhead_10 rfl rfl rfl ?_
  refine cx_iald hA dX2_isAhead_11 rfl rfl (by decide) (show _ < 90 by omega) ?_
  refine hk_icmp_eq (tgt := 36) dX2_isAhead_12 (by decide) rfl (fun z12 => ?_) (fun z12 => ?_)
  · skip
    refine hk_aload_n dX2_isAhead_36 rfl rfl rfl ?_
    refine cx_getf hA (by decide) rfl dX2_isAhead_37 rfl fl_X2_9 rfl ?_
    refine hk_iload_n dX2_isAhead_40 rfl rfl rfl ?_
    refine cx_iald hA dX2_isAhead_41 rfl rfl (by decide) (show _ < 90 by omega) ?_
    refine hk_if_ne (tgt := 59) dX2_isAhead_42 (by decide) rfl (fun z42 => ?_) (fun z42 => ?_)
    · skip
      refine hk_iconst (v := nI 0) dX2_isAhead_59 rfl (by decide) ?_
      exact hk_ireturn rfl (rfl) dX2_isAhead_60 (⟨trivial, by unfold cs_ahd; first | (rw [if_neg z12, if_pos z27]; rfl) | (rw [if_neg z12, if_neg z27]; rfl) | (rw [if_pos z12, if_pos z42, if_pos z52]; rfl) | (rw [if_pos z12, if_pos z42, if_neg z52]; rfl) | (rw [if_pos z12, if_neg z42]; rfl), rfl⟩)
    · skip
      refine hk_aload_n dX2_isAhead_45 rfl rfl rfl ?_
      refine cx_getf hA (by decide) rfl dX2_isAhead_46 rfl fl_X2_9 rfl ?_
      refine hk_iload_n dX2_isAhead_49 rfl rfl rfl ?_
      refine cx_iald hA dX2_isAhead_50 rfl rfl (by decide) (show _ < 90 by omega) ?_
      refine hk_iconst (v := nI 1) dX2_isAhead_51 rfl (by decide) ?_
      refine hk_icmp_ne (tgt := 59) dX2_isAhead_52 (by decide) rfl (fun z52 => ?_) (fun z52 => ?_)
      · skip
        refine hk_iconst (v := nI 0) dX2_isAhead_59 rfl (by decide) ?_
        exact hk_ireturn rfl (rfl) dX2_isAhead_60 (⟨trivial, by unfold cs_ahd; first | (rw [if_neg z12, if_pos z27]; rfl) | (rw [if_neg z12, if_neg z27]; rfl) | (rw [if_pos z12, if_pos z42, if_pos z52]; rfl) | (rw [if_pos z12, if_pos z42, if_neg z52]; rfl) | (rw [if_pos z12, if_neg z42]; rfl), rfl⟩)
      · skip
        refine hk_iconst (v := nI 1) dX2_isAhead_55 rfl (by decide) ?_
        refine hk_goto (tgt := 60) dX2_isAhead_56 (by decide) ?_
        exact hk_ireturn rfl (rfl) dX2_isAhead_60 (⟨trivial, by unfold cs_ahd; first | (rw [if_neg z12, if_pos z27]; rfl) | (rw [if_neg z12, if_neg z27]; rfl) | (rw [if_pos z12, if_pos z42, if_pos z52]; rfl) | (rw [if_pos z12, if_pos z42, if_neg z52]; rfl) | (rw [if_pos z12, if_neg z42]; rfl), rfl⟩)
  · skip
    refine hk_aload_n dX2_isAhead_15 rfl rfl rfl ?_
    refine cx_getf hA (by decide) rfl dX2_isAhead_16 rfl fl_X2_15 rfl ?_
    refine hk_iload_n dX2_isAhead_19 rfl rfl rfl ?_
    refine cx_iald hA dX2_isAhead_20 rfl rfl (by decide) (show _ < 90 by omega) ?_
    refine hk_aload_n dX2_isAhead_21 rfl rfl rfl ?_
    refine cx_getf hA (by decide) rfl dX2_isAhead_22 rfl fl_X2_15 rfl ?_
    refine hk_iload_n dX2_isAhead_25 rfl rfl rfl ?_
    refine cx_iald hA dX2_isAhead_26 rfl rfl (by decide) (show _ < 90 by omega) ?_
    refine hk_icmp_le (tgt := 34) dX2_isAhead_27 (by decide) rfl (fun z27 => ?_) (fun z27 => ?_)
    · skip
      refine hk_iconst (v := nI 0) dX2_isAhead_34 rfl (by decide) ?_
      exact hk_ireturn rfl (rfl) dX2_isAhead_35 (⟨trivial, by unfold cs_ahd; first | (rw [if_neg z12, if_pos z27]; rfl) | (rw [if_neg z12, if_neg z27]; rfl) | (rw [if_pos z12, if_pos z42, if_pos z52]; rfl) | (rw [if_pos z12, if_pos z42, if_neg z52]; rfl) | (rw [if_pos z12, if_neg z42]; rfl), rfl⟩)
    · skip
      refine hk_iconst (v := nI 1) dX2_isAhead_30 rfl (by decide) ?_
      refine hk_goto (tgt := 35) dX2_isAhead_31 (by decide) ?_
      exact hk_ireturn rfl (rfl) dX2_isAhead_35 (⟨trivial, by unfold cs_ahd; first | (rw [if_neg z12, if_pos z27]; rfl) | (rw [if_neg z12, if_neg z27]; rfl) | (rw [if_pos z12, if_pos z42, if_pos z52]; rfl) | (rw [if_pos z12, if_pos z42, if_neg z52]; rfl) | (rw [if_pos z12, if_neg z42]; rfl), rfl⟩)
theorem ct_X2_heaviest {c : Nat} {a : Nat} (hfl : l.stackTraces = false) (hA : hs_inj A) (h31 : S.1 31 0 = nI c) (hc : c ≤ 90) : hk_Ctr G l 2 yX2_heaviest cX2_heaviest 4 (some .int) 0 0 [.ref (A 3), .int (nI a)] (hs_ov A (S) h) (cx_Q A h (True) (some (.int (cs_o (cs_heavy S a c)))) (S)) (cx_X A h (S) ((fun _ => False))) := by
  refine hk_enter (by decide) hfl (Nat.le_of_ble_eq_true rfl) rfl ?_
  refine hk_iconst (v := -1) dX2_heaviest_0 rfl (by decide) ?_
  refine hk_istore_n dX2_heaviest_1 rfl rfl (by decide) rfl ?_
  refine hk_iconst (v := nI 0) dX2_heaviest_2 rfl (by decide) ?_
  refine hk_istore_n dX2_heaviest_3 rfl rfl (by decide) rfl ?_
  have lp4 : ∀ f j : Nat, j ≤ c → c - j < f → hk_W G l 2 yX2_heaviest cX2_heaviest 4 (some .int) [] (cx_Q A h (True) (some (.int (cs_o (cs_heavy S a c)))) (S)) (cx_X A h (S) ((fun _ => False))) 0 0 (hs_ov A (S) h) 4 [some (.ref (A 3)), some (.int (nI a)), some (.int (cs_o (cs_heavy S a j))), some (.int (nI j))] [] := by
    intro f
    induction f with
    | zero => intro j hj hf; exact absurd hf (by omega)
    | succ f ih =>
      intro j hj hf
      rcases hq : cs_heavy S a j with _ | q
      · skip
        refine hk_iload_n dX2_heaviest_4 rfl rfl rfl ?_
        refine hk_aload_n dX2_heaviest_5 rfl rfl rfl ?_
        refine cx_getf hA (by decide) rfl dX2_heaviest_6 rfl fl_X2_31 rfl ?_
        refine cx_top h31 ?_
        refine cx_icmp_ge (tgt := 44) (by omega) (by omega) dX2_heaviest_9 (by decide) rfl (fun z9 => ?_) (fun z9 => ?_)
        · skip
          refine hk_iload_n dX2_heaviest_44 rfl rfl rfl ?_
          exact hk_ireturn rfl (rfl) dX2_heaviest_45 (by have e : j = c := (by omega); subst e; exact ⟨trivial, by rw [hq], rfl⟩)
        · skip
          refine hk_aload_n dX2_heaviest_12 rfl rfl rfl ?_
          refine cx_getf hA (by decide) rfl dX2_heaviest_13 rfl fl_X2_18 rfl ?_
          refine hk_iload_n dX2_heaviest_16 rfl rfl rfl ?_
          refine cx_iald hA dX2_heaviest_17 rfl rfl (by decide) (show _ < 90 by omega) ?_
          refine hk_iload_n dX2_heaviest_18 rfl rfl rfl ?_
          refine hk_icmp_ne (tgt := 38) dX2_heaviest_19 (by decide) rfl (fun z19 => ?_) (fun z19 => ?_)
          · skip
            refine hk_iinc dX2_heaviest_38 rfl rfl (nI_1 _) (by decide) rfl ?_
            refine hk_goto (tgt := 4) dX2_heaviest_41 (by decide) ?_
            exact cx_cg rfl (by rw [cs_heavy_s, hq]; simp only [cs_hvs]; first | (rw [if_pos z19, z33]; rfl) | (rw [if_pos z19]; rfl) | (rw [if_neg z19]; rfl)) (ih (j + 1) (by omega) (by omega))
          · skip
            refine hk_iload_n dX2_heaviest_22 rfl rfl rfl ?_
            refine hk_iconst (v := -1) dX2_heaviest_23 rfl (by decide) ?_
            refine hk_icmp_eq (tgt := 36) dX2_heaviest_24 (by decide) rfl (fun z24 => ?_) (fun z24 => ?_)
            · skip
              refine hk_iload_n dX2_heaviest_36 rfl rfl rfl ?_
              refine hk_istore_n dX2_heaviest_37 rfl rfl (by decide) rfl ?_
              refine hk_iinc dX2_heaviest_38 rfl rfl (nI_1 _) (by decide) rfl ?_
              refine hk_goto (tgt := 4) dX2_heaviest_41 (by decide) ?_
              exact cx_cg rfl (by rw [cs_heavy_s, hq]; simp only [cs_hvs]; first | (rw [if_pos z19, z33]; rfl) | (rw [if_pos z19]; rfl) | (rw [if_neg z19]; rfl)) (ih (j + 1) (by omega) (by omega))
            · exact absurd rfl z24
      · have hq2 := (cs_heavy_lt hq).1
        refine hk_iload_n dX2_heaviest_4 rfl rfl rfl ?_
        refine hk_aload_n dX2_heaviest_5 rfl rfl rfl ?_
        refine cx_getf hA (by decide) rfl dX2_heaviest_6 rfl fl_X2_31 rfl ?_
        refine cx_top h31 ?_
        refine cx_icmp_ge (tgt := 44) (by omega) (by omega) dX2_heaviest_9 (by decide) rfl (fun z9 => ?_) (fun z9 => ?_)
        · skip
          refine hk_iload_n dX2_heaviest_44 rfl rfl rfl ?_
          exact hk_ireturn rfl (rfl) dX2_heaviest_45 (by have e : j = c := (by omega); subst e; exact ⟨trivial, by rw [hq], rfl⟩)
        · skip
          refine hk_aload_n dX2_heaviest_12 rfl rfl rfl ?_
          refine cx_getf hA (by decide) rfl dX2_heaviest_13 rfl fl_X2_18 rfl ?_
          refine hk_iload_n dX2_heaviest_16 rfl rfl rfl ?_
          refine cx_iald hA dX2_heaviest_17 rfl rfl (by decide) (show _ < 90 by omega) ?_
          refine hk_iload_n dX2_heaviest_18 rfl rfl rfl ?_
          refine hk_icmp_ne (tgt := 38) dX2_heaviest_19 (by decide) rfl (fun z19 => ?_) (fun z19 => ?_)
          · skip
            refine hk_iinc dX2_heaviest_38 rfl rfl (nI_1 _) (by decide) rfl ?_
            refine hk_goto (tgt := 4) dX2_heaviest_41 (by decide) ?_
            exact cx_cg rfl (by rw [cs_heavy_s, hq]; simp only [cs_hvs]; first | (rw [if_pos z19, z33]; rfl) | (rw [if_pos z19]; rfl) | (rw [if_neg z19]; rfl)) (ih (j + 1) (by omega) (by omega))
          · skip
            refine hk_iload_n dX2_heaviest_22 rfl rfl rfl ?_
            refine hk_iconst (v := -1) dX2_heaviest_23 rfl (by decide) ?_
            refine hk_icmp_eq (tgt := 36) dX2_heaviest_24 (by decide) rfl (fun z24 => ?_) (fun z24 => ?_)
            · exact absurd z24 (cx_ne1 (by omega))
            · skip
              refine hk_aload_n dX2_heaviest_27 rfl rfl rfl ?_
              refine hk_iload_n dX2_heaviest_28 rfl rfl rfl ?_
              refine hk_iload_n dX2_heaviest_29 rfl rfl rfl ?_
              refine cx_top (show cs_o (some q) = nI q from rfl) ?_
              refine cx_calli hA (by decide) rfl rfl rfl dX2_heaviest_30 rfl mv_X2_47 (ct_X2_isAhead hfl hA (by omega) (by omega)) rfl rfl (by decide) (by decide) (Nat.le_of_ble_eq_true rfl) (fun c30 => ?_) (fun E c => c.elim)
              refine cx_ifb_eq (tgt := 38) dX2_heaviest_33 (by decide) rfl (fun z33 => ?_) (fun z33 => ?_)
              · skip
                refine hk_iinc dX2_heaviest_38 rfl rfl (nI_1 _) (by decide) rfl ?_
                refine hk_goto (tgt := 4) dX2_heaviest_41 (by decide) ?_
                exact cx_cg rfl (by rw [cs_heavy_s, hq]; simp only [cs_hvs]; first | (rw [if_pos z19, z33]; rfl) | (rw [if_pos z19]; rfl) | (rw [if_neg z19]; rfl)) (ih (j + 1) (by omega) (by omega))
              · skip
                refine hk_iload_n dX2_heaviest_36 rfl rfl rfl ?_
                refine hk_istore_n dX2_heaviest_37 rfl rfl (by decide) rfl ?_
                refine hk_iinc dX2_heaviest_38 rfl rfl (nI_1 _) (by decide) rfl ?_
                refine hk_goto (tgt := 4) dX2_heaviest_41 (by decide) ?_
                exact cx_cg rfl (by rw [cs_heavy_s, hq]; simp only [cs_hvs]; first | (rw [if_pos z19, z33]; rfl) | (rw [if_pos z19]; rfl) | (rw [if_neg z19]; rfl)) (ih (j + 1) (by omega) (by omega))
  exact lp4 (c + 1) 0 (by omega) (by omega)
theorem ct_X2_lightest {c : Nat} {a m : Nat} (hfl : l.stackTraces = false) (hA : hs_inj A) (h31 : S.1 31 0 = nI c) (hc : c ≤ 90) : hk_Ctr G l 2 yX2_lightest cX2_lightest 5 (some .int) 0 0 [.ref (A 3), .int (nI a), .int (nI m)] (hs_ov A (S) h) (cx_Q A h (True) (some (.int (cs_o (cs_light S a m c)))) (S)) (cx_X A h (S) ((fun _ => False))) := by
  refine hk_enter (by decide) hfl (Nat.le_of_ble_eq_true rfl) rfl ?_
  refine hk_iconst (v := -1) dX2_lightest_0 rfl (by decide) ?_
  refine hk_istore_n dX2_lightest_1 rfl rfl (by decide) rfl ?_
  refine hk_iconst (v := nI 0) dX2_lightest_2 rfl (by decide) ?_
  refine hk_istore dX2_lightest_3 rfl (by decide) rfl ?_
  have lp5 : ∀ f j : Nat, j ≤ c → c - j < f → hk_W G l 2 yX2_lightest cX2_lightest 5 (some .int) [] (cx_Q A h (True) (some (.int (cs_o (cs_light S a m c)))) (S)) (cx_X A h (S) ((fun _ => False))) 0 0 (hs_ov A (S) h) 5 [some (.ref (A 3)), some (.int (nI a)), some (.int (nI m)), some (.int (cs_o (cs_light S a m j))), some (.int (nI j))] [] := by
    intro f
    induction f with
    | zero => intro j hj hf; exact absurd hf (by omega)
    | succ f ih =>
      intro j hj hf
      rcases hq : cs_light S a m j with _ | q
      · skip
        refine hk_iload dX2_lightest_5 rfl rfl ?_
        refine hk_aload_n dX2_lightest_7 rfl rfl rfl ?_
        refine cx_getf hA (by decide) rfl dX2_lightest_8 rfl fl_X2_31 rfl ?_
        refine cx_top h31 ?_
        refine cx_icmp_ge (tgt := 55) (by omega) (by omega) dX2_lightest_11 (by decide) rfl (fun z11 => ?_) (fun z11 => ?_)
        · skip
          refine hk_iload_n dX2_lightest_55 rfl rfl rfl ?_
          exact hk_ireturn rfl (rfl) dX2_lightest_56 (by have e : j = c := (by omega); subst e; exact ⟨trivial, by rw [hq], rfl⟩)
        · skip
          refine hk_aload_n dX2_lightest_14 rfl rfl rfl ?_
          refine hk_iload dX2_lightest_15 rfl rfl ?_
          refine hk_iload_n dX2_lightest_17 rfl rfl rfl ?_
          refine hk_iload_n dX2_lightest_18 rfl rfl rfl ?_
          refine cx_calli hA (by decide) rfl rfl rfl dX2_lightest_19 rfl mv_X2_43 (ct_X2_isLoose hfl hA (by omega)) rfl rfl (by decide) (by decide) (Nat.le_of_ble_eq_true rfl) (fun c19 => ?_) (fun E c => c.elim)
          refine cx_ifb_eq (tgt := 49) dX2_lightest_22 (by decide) rfl (fun z22 => ?_) (fun z22 => ?_)
          · skip
            refine hk_iinc dX2_lightest_49 rfl rfl (nI_1 _) (by decide) rfl ?_
            refine hk_goto (tgt := 5) dX2_lightest_52 (by decide) ?_
            exact cx_cg rfl (by rw [cs_light_s, hq]; simp only [cs_lts]; first | (rw [z22]; rfl) | (rw [if_pos z22, if_pos z43]; rfl) | (rw [if_pos z22, if_neg z43]; rfl)) (ih (j + 1) (by omega) (by omega))
          · skip
            refine hk_iload_n dX2_lightest_25 rfl rfl rfl ?_
            refine hk_iconst (v := -1) dX2_lightest_26 rfl (by decide) ?_
            refine hk_icmp_eq (tgt := 46) dX2_lightest_27 (by decide) rfl (fun z27 => ?_) (fun z27 => ?_)
            · skip
              refine hk_iload dX2_lightest_46 rfl rfl ?_
              refine hk_istore_n dX2_lightest_48 rfl rfl (by decide) rfl ?_
              refine hk_iinc dX2_lightest_49 rfl rfl (nI_1 _) (by decide) rfl ?_
              refine hk_goto (tgt := 5) dX2_lightest_52 (by decide) ?_
              exact cx_cg rfl (by rw [cs_light_s, hq]; simp only [cs_lts]; first | (rw [z22]; rfl) | (rw [if_pos z22, if_pos z43]; rfl) | (rw [if_pos z22, if_neg z43]; rfl)) (ih (j + 1) (by omega) (by omega))
            · exact absurd rfl z27
      · have hq2 := (cs_light_lt hq).1
        refine hk_iload dX2_lightest_5 rfl rfl ?_
        refine hk_aload_n dX2_lightest_7 rfl rfl rfl ?_
        refine cx_getf hA (by decide) rfl dX2_lightest_8 rfl fl_X2_31 rfl ?_
        refine cx_top h31 ?_
        refine cx_icmp_ge (tgt := 55) (by omega) (by omega) dX2_lightest_11 (by decide) rfl (fun z11 => ?_) (fun z11 => ?_)
        · skip
          refine hk_iload_n dX2_lightest_55 rfl rfl rfl ?_
          exact hk_ireturn rfl (rfl) dX2_lightest_56 (by have e : j = c := (by omega); subst e; exact ⟨trivial, by rw [hq], rfl⟩)
        · skip
          refine hk_aload_n dX2_lightest_14 rfl rfl rfl ?_
          refine hk_iload dX2_lightest_15 rfl rfl ?_
          refine hk_iload_n dX2_lightest_17 rfl rfl rfl ?_
          refine hk_iload_n dX2_lightest_18 rfl rfl rfl ?_
          refine cx_calli hA (by decide) rfl rfl rfl dX2_lightest_19 rfl mv_X2_43 (ct_X2_isLoose hfl hA (by omega)) rfl rfl (by decide) (by decide) (Nat.le_of_ble_eq_true rfl) (fun c19 => ?_) (fun E c => c.elim)
          refine cx_ifb_eq (tgt := 49) dX2_lightest_22 (by decide) rfl (fun z22 => ?_) (fun z22 => ?_)
          · skip
            refine hk_iinc dX2_lightest_49 rfl rfl (nI_1 _) (by decide) rfl ?_
            refine hk_goto (tgt := 5) dX2_lightest_52 (by decide) ?_
            exact cx_cg rfl (by rw [cs_light_s, hq]; simp only [cs_lts]; first | (rw [z22]; rfl) | (rw [if_pos z22, if_pos z43]; rfl) | (rw [if_pos z22, if_neg z43]; rfl)) (ih (j + 1) (by omega) (by omega))
          · skip
            refine hk_iload_n dX2_lightest_25 rfl rfl rfl ?_
            refine hk_iconst (v := -1) dX2_lightest_26 rfl (by decide) ?_
            refine hk_icmp_eq (tgt := 46) dX2_lightest_27 (by decide) rfl (fun z27 => ?_) (fun z27 => ?_)
            · exact absurd z27 (cx_ne1 (by omega))
            · skip
              refine hk_aload_n dX2_lightest_30 rfl rfl rfl ?_
              refine cx_getf hA (by decide) rfl dX2_lightest_31 rfl fl_X2_15 rfl ?_
              refine hk_iload dX2_lightest_34 rfl rfl ?_
              refine cx_iald hA dX2_lightest_36 rfl rfl (by decide) (show _ < 90 by omega) ?_
              refine hk_aload_n dX2_lightest_37 rfl rfl rfl ?_
              refine cx_getf hA (by decide) rfl dX2_lightest_38 rfl fl_X2_15 rfl ?_
              refine hk_iload_n dX2_lightest_41 rfl rfl rfl ?_
              refine cx_top (show cs_o (some q) = nI q from rfl) ?_
              refine cx_iald hA dX2_lightest_42 rfl rfl (by decide) (show _ < 90 by omega) ?_
              refine hk_icmp_ge (tgt := 49) dX2_lightest_43 (by decide) rfl (fun z43 => ?_) (fun z43 => ?_)
              · skip
                refine hk_iinc dX2_lightest_49 rfl rfl (nI_1 _) (by decide) rfl ?_
                refine hk_goto (tgt := 5) dX2_lightest_52 (by decide) ?_
                exact cx_cg rfl (by rw [cs_light_s, hq]; simp only [cs_lts]; first | (rw [z22]; rfl) | (rw [if_pos z22, if_pos z43]; rfl) | (rw [if_pos z22, if_neg z43]; rfl)) (ih (j + 1) (by omega) (by omega))
              · skip
                refine hk_iload dX2_lightest_46 rfl rfl ?_
                refine hk_istore_n dX2_lightest_48 rfl rfl (by decide) rfl ?_
                refine hk_iinc dX2_lightest_49 rfl rfl (nI_1 _) (by decide) rfl ?_
                refine hk_goto (tgt := 5) dX2_lightest_52 (by decide) ?_
                exact cx_cg rfl (by rw [cs_light_s, hq]; simp only [cs_lts]; first | (rw [z22]; rfl) | (rw [if_pos z22, if_pos z43]; rfl) | (rw [if_pos z22, if_neg z43]; rfl)) (ih (j + 1) (by omega) (by omega))
  exact lp5 (c + 1) 0 (by omega) (by omega)
theorem ct_X2_giveLightest {c a t m k : Nat} (hfl : l.stackTraces = false) (hA : hs_inj A) (h31 : S.1 31 0 = nI c) (hc : c ≤ 90) (hk : k ≤ 90) : hk_Ctr G l 3 yX2_giveLightest cX2_giveLightest 8 (some .int) 0 0 [.ref (A 3), .int (nI a), .int (nI t), .int (nI m), .int (nI k)] (hs_ov A (S) h) (cx_Q A h (True) (some (.int (cs_gl a t m c S k).2)) ((cs_gl a t m c S k).1)) (cx_X A h (S) ((fun _ => False))) := by
  refine hk_enter (by decide) hfl (Nat.le_of_ble_eq_true rfl) rfl ?_
  refine hk_iconst (v := nI 0) dX2_giveLightest_0 rfl (by decide) ?_
  refine hk_istore dX2_giveLightest_1 rfl (by decide) rfl ?_
  refine hk_iconst (v := nI 0) dX2_giveLightest_3 rfl (by decide) ?_
  refine hk_istore dX2_giveLightest_4 rfl (by decide) rfl ?_
  have lp6 : ∀ f j : Nat, j ≤ k → k - j < f → hk_W G l 3 yX2_giveLightest cX2_giveLightest 8 (some .int) [] (cx_Q A h (True) (some (.int (cs_gl a t m c S k).2)) ((cs_gl a t m c S k).1)) (cx_X A h (S) ((fun _ => False))) 0 0 (hs_ov A ((cs_gl a t m c S j).1) h) 6 [some (.ref (A 3)), some (.int (nI a)), some (.int (nI t)), some (.int (nI m)), some (.int (nI k)), some (.int (cs_gl a t m c S j).2), some (.int (nI j)), none] [] := by
    intro f
    induction f with
    | zero => intro j hj hf; exact absurd hf (by omega)
    | succ f ih =>
      intro j hj hf
      refine hk_iload dX2_giveLightest_6 rfl rfl ?_
      refine hk_iload dX2_giveLightest_8 rfl rfl ?_
      refine cx_icmp_ge (tgt := 55) (by omega) (by omega) dX2_giveLightest_10 (by decide) rfl (fun z10 => ?_) (fun z10 => ?_)
      · skip
        refine hk_iload dX2_giveLightest_55 rfl rfl ?_
        exact hk_ireturn rfl (rfl) dX2_giveLightest_57 (by have e : j = k := (by omega); subst e; exact ⟨trivial, rfl, rfl⟩)
      · skip
        refine hk_aload_n dX2_giveLightest_13 rfl rfl rfl ?_
        refine hk_iload_n dX2_giveLightest_14 rfl rfl rfl ?_
        refine hk_iload_n dX2_giveLightest_15 rfl rfl rfl ?_
        refine cx_calli hA (by decide) rfl rfl rfl dX2_giveLightest_16 rfl mv_X2_39 (ct_X2_lightest hfl hA ((cs_gl_31 _ _ _ _ _ _).trans h31) (by omega)) rfl rfl (by decide) (by decide) (Nat.le_of_ble_eq_true rfl) (fun c16 => ?_) (fun E c => c.elim)
        refine hk_istore dX2_giveLightest_19 rfl (by decide) rfl ?_
        rcases hq : cs_light (cs_gl a t m c S j).1 a m c with _ | q
        · skip
          refine hk_iload dX2_giveLightest_21 rfl rfl ?_
          refine hk_iconst (v := -1) dX2_giveLightest_23 rfl (by decide) ?_
          refine hk_icmp_ne (tgt := 30) dX2_giveLightest_24 (by decide) rfl (fun z24 => ?_) (fun z24 => ?_)
          · exact absurd rfl z24
          · skip
            refine hk_iload dX2_giveLightest_27 rfl rfl ?_
            exact hk_ireturn rfl (rfl) dX2_giveLightest_29 (by have e := cs_gl_fix hq (k - j); rw [show j + (k - j) = k by omega] at e; exact ⟨trivial, by rw [e], by rw [e]⟩)
        · have hq2 := (cs_light_lt hq).1
          refine hk_iload dX2_giveLightest_21 rfl rfl ?_
          refine hk_iconst (v := -1) dX2_giveLightest_23 rfl (by decide) ?_
          refine hk_icmp_ne (tgt := 30) dX2_giveLightest_24 (by decide) rfl (fun z24 => ?_) (fun z24 => ?_)
          · skip
            refine hk_aload_n dX2_giveLightest_30 rfl rfl rfl ?_
            refine hk_iload dX2_giveLightest_31 rfl rfl ?_
            refine cx_top (show cs_o (some q) = nI q from rfl) ?_
            refine hk_iload_n dX2_giveLightest_33 rfl rfl rfl ?_
            refine cx_callv hA (by decide) rfl rfl rfl dX2_giveLightest_34 rfl mv_X2_35 (ct_X2_give hfl hA (by omega)) rfl rfl (by decide) (by decide) (Nat.le_of_ble_eq_true rfl) (fun c34 => ?_) (fun E c => c.elim)
            refine hk_iload dX2_giveLightest_37 rfl rfl ?_
            refine hk_aload_n dX2_giveLightest_39 rfl rfl rfl ?_
            refine cx_getf hA (by decide) rfl dX2_giveLightest_40 rfl fl_X2_15 rfl ?_
            refine hk_iload dX2_giveLightest_43 rfl rfl ?_
            refine cx_top (show cs_o (some q) = nI q from rfl) ?_
            refine cx_iald hA dX2_giveLightest_45 rfl rfl (by decide) (show _ < 90 by omega) ?_
            refine hk_iadd dX2_giveLightest_46 rfl ?_
            refine hk_istore dX2_giveLightest_47 rfl (by decide) rfl ?_
            refine hk_iinc dX2_giveLightest_49 rfl rfl (nI_1 _) (by decide) rfl ?_
            refine hk_goto (tgt := 6) dX2_giveLightest_52 (by decide) ?_
            refine cx_fg 7 ?_
            exact cx_cg (by rw [cs_gl_s]; unfold cs_gls; rw [hq]) (by rw [cs_gl_s]; unfold cs_gls; rw [hq]; rfl) (ih (j + 1) (by omega) (by omega))
          · exact absurd z24 (cx_ne1 (by omega))
  exact lp6 (k + 1) 0 (by omega) (by omega)
theorem ct_X2_giveAll {c a t : Nat} (hfl : l.stackTraces = false) (hA : hs_inj A) (h31 : S.1 31 0 = nI c) (hc : c ≤ 90) : hk_Ctr G l 2 yX2_giveAll cX2_giveAll 4 none 0 0 [.ref (A 3), .int (nI a), .int (nI t)] (hs_ov A (S) h) (cx_Q A h (True) (none) (cs_ga a t S c)) (cx_X A h (S) ((fun _ => False))) := by
  refine hk_enter (by decide) hfl (Nat.le_of_ble_eq_true rfl) rfl ?_
  refine hk_iconst (v := nI 0) dX2_giveAll_0 rfl (by decide) ?_
  refine hk_istore_n dX2_giveAll_1 rfl rfl (by decide) rfl ?_
  have lp2 : ∀ f j : Nat, j ≤ c → c - j < f → hk_W G l 2 yX2_giveAll cX2_giveAll 4 none [] (cx_Q A h (True) (none) (cs_ga a t S c)) (cx_X A h (S) ((fun _ => False))) 0 0 (hs_ov A (cs_ga a t S j) h) 2 [some (.ref (A 3)), some (.int (nI a)), some (.int (nI t)), some (.int (nI j))] [] := by
    intro f
    induction f with
    | zero => intro j hj hf; exact absurd hf (by omega)
    | succ f ih =>
      intro j hj hf
      refine hk_iload_n dX2_giveAll_2 rfl rfl rfl ?_
      refine hk_aload_n dX2_giveAll_3 rfl rfl rfl ?_
      refine cx_getf hA (by decide) rfl dX2_giveAll_4 rfl fl_X2_31 rfl ?_
      refine cx_top ((cs_ga_31 _ _ _ _).trans h31) ?_
      refine cx_icmp_ge (tgt := 32) (by omega) (by omega) dX2_giveAll_7 (by decide) rfl (fun z7 => ?_) (fun z7 => ?_)
      · skip
        exact hk_vreturn rfl dX2_giveAll_32 (by have e : j = c := (by omega); subst e; exact ⟨trivial, rfl, rfl⟩)
      · skip
        refine hk_aload_n dX2_giveAll_10 rfl rfl rfl ?_
        refine cx_getf hA (by decide) rfl dX2_giveAll_11 rfl fl_X2_18 rfl ?_
        refine hk_iload_n dX2_giveAll_14 rfl rfl rfl ?_
        refine cx_iald hA dX2_giveAll_15 rfl rfl (by decide) (show _ < 90 by omega) ?_
        refine hk_iload_n dX2_giveAll_16 rfl rfl rfl ?_
        refine hk_icmp_ne (tgt := 26) dX2_giveAll_17 (by decide) rfl (fun z17 => ?_) (fun z17 => ?_)
        · skip
          refine hk_iinc dX2_giveAll_26 rfl rfl (nI_1 _) (by decide) rfl ?_
          refine hk_goto (tgt := 2) dX2_giveAll_29 (by decide) ?_
          exact cx_cg (by first | rw [cs_ga_s, if_pos z17] | rw [cs_ga_s, if_neg z17]) rfl (ih (j + 1) (by omega) (by omega))
        · skip
          refine hk_aload_n dX2_giveAll_20 rfl rfl rfl ?_
          refine hk_iload_n dX2_giveAll_21 rfl rfl rfl ?_
          refine hk_iload_n dX2_giveAll_22 rfl rfl rfl ?_
          refine cx_callv hA (by decide) rfl rfl rfl dX2_giveAll_23 rfl mv_X2_35 (ct_X2_give hfl hA (by omega)) rfl rfl (by decide) (by decide) (Nat.le_of_ble_eq_true rfl) (fun c23 => ?_) (fun E c => c.elim)
          refine hk_iinc dX2_giveAll_26 rfl rfl (nI_1 _) (by decide) rfl ?_
          refine hk_goto (tgt := 2) dX2_giveAll_29 (by decide) ?_
          exact cx_cg (by first | rw [cs_ga_s, if_pos z17] | rw [cs_ga_s, if_neg z17]) rfl (ih (j + 1) (by omega) (by omega))
  exact lp2 (c + 1) 0 (by omega) (by omega)
theorem ct_X2_melt {c a m : Nat} (hfl : l.stackTraces = false) (hA : hs_inj A) (h31 : S.1 31 0 = nI c) (hc : c ≤ 90) : hk_Ctr G l 2 yX2_melt cX2_melt 5 (some .int) 0 0 [.ref (A 3), .int (nI a), .int (nI m)] (hs_ov A (S) h) (cx_Q A h (True) (some (.int (cs_melt a m S c).2)) ((cs_melt a m S c).1)) (cx_X A h (S) ((fun _ => False))) := by
  refine hk_enter (by decide) hfl (Nat.le_of_ble_eq_true rfl) rfl ?_
  refine hk_iconst (v := nI 0) dX2_melt_0 rfl (by decide) ?_
  refine hk_istore_n dX2_melt_1 rfl rfl (by decide) rfl ?_
  refine hk_iconst (v := nI 0) dX2_melt_2 rfl (by decide) ?_
  refine hk_istore dX2_melt_3 rfl (by decide) rfl ?_
  have lp5 : ∀ f j : Nat, j ≤ c → c - j < f → hk_W G l 2 yX2_melt cX2_melt 5 (some .int) [] (cx_Q A h (True) (some (.int (cs_melt a m S c).2)) ((cs_melt a m S c).1)) (cx_X A h (S) ((fun _ => False))) 0 0 (hs_ov A ((cs_melt a m S j).1) h) 5 [some (.ref (A 3)), some (.int (nI a)), some (.int (nI m)), some (.int (cs_melt a m S j).2), some (.int (nI j))] [] := by
    intro f
    induction f with
    | zero => intro j hj hf; exact absurd hf (by omega)
    | succ f ih =>
      intro j hj hf
      refine hk_iload dX2_melt_5 rfl rfl ?_
      refine hk_aload_n dX2_melt_7 rfl rfl rfl ?_
      refine cx_getf hA (by decide) rfl dX2_melt_8 rfl fl_X2_31 rfl ?_
      refine cx_top ((cs_melt_31 _ _ _ _).trans h31) ?_
      refine cx_icmp_ge (tgt := 57) (by omega) (by omega) dX2_melt_11 (by decide) rfl (fun z11 => ?_) (fun z11 => ?_)
      · skip
        refine hk_iload_n dX2_melt_57 rfl rfl rfl ?_
        exact hk_ireturn rfl (rfl) dX2_melt_58 (by have e : j = c := (by omega); subst e; exact ⟨trivial, rfl, rfl⟩)
      · skip
        refine hk_aload_n dX2_melt_14 rfl rfl rfl ?_
        refine hk_iload dX2_melt_15 rfl rfl ?_
        refine hk_iload_n dX2_melt_17 rfl rfl rfl ?_
        refine hk_iload_n dX2_melt_18 rfl rfl rfl ?_
        refine cx_calli hA (by decide) rfl rfl rfl dX2_melt_19 rfl mv_X2_43 (ct_X2_isLoose hfl hA (by omega)) rfl rfl (by decide) (by decide) (Nat.le_of_ble_eq_true rfl) (fun c19 => ?_) (fun E c => c.elim)
        refine cx_ifb_eq (tgt := 51) dX2_melt_22 (by decide) rfl (fun z22 => ?_) (fun z22 => ?_)
        · skip
          refine hk_iinc dX2_melt_51 rfl rfl (nI_1 _) (by decide) rfl ?_
          refine hk_goto (tgt := 5) dX2_melt_54 (by decide) ?_
          exact cx_cg (by rw [cs_melt_s]; unfold cs_mls; first | rw [if_pos z22] | rw [if_neg (by rw [z22]; decide)]) (by rw [cs_melt_s]; unfold cs_mls; first | (rw [if_pos z22]; rfl) | (rw [if_neg (by rw [z22]; decide)]; rfl)) (ih (j + 1) (by omega) (by omega))
        · skip
          refine hk_iload_n dX2_melt_25 rfl rfl rfl ?_
          refine hk_aload_n dX2_melt_26 rfl rfl rfl ?_
          refine cx_getf hA (by decide) rfl dX2_melt_27 rfl fl_X2_15 rfl ?_
          refine hk_iload dX2_melt_30 rfl rfl ?_
          refine cx_iald hA dX2_melt_32 rfl rfl (by decide) (show _ < 90 by omega) ?_
          refine hk_iadd dX2_melt_33 rfl ?_
          refine hk_istore_n dX2_melt_34 rfl rfl (by decide) rfl ?_
          refine hk_aload_n dX2_melt_35 rfl rfl rfl ?_
          refine cx_getf hA (by decide) rfl dX2_melt_36 rfl fl_X2_15 rfl ?_
          refine hk_iload dX2_melt_39 rfl rfl ?_
          refine hk_iconst (v := nI 0) dX2_melt_41 rfl (by decide) ?_
          refine cx_iast hA dX2_melt_42 rfl rfl (by decide) (show _ < 90 by omega) ?_
          refine hk_aload_n dX2_melt_43 rfl rfl rfl ?_
          refine cx_getf hA (by decide) rfl dX2_melt_44 rfl fl_X2_18 rfl ?_
          refine hk_iload dX2_melt_47 rfl rfl ?_
          refine hk_iconst (v := -1) dX2_melt_49 rfl (by decide) ?_
          refine cx_iast hA dX2_melt_50 rfl rfl (by decide) (show _ < 90 by omega) ?_
          refine hk_iinc dX2_melt_51 rfl rfl (nI_1 _) (by decide) rfl ?_
          refine hk_goto (tgt := 5) dX2_melt_54 (by decide) ?_
          exact cx_cg (by rw [cs_melt_s]; unfold cs_mls; first | rw [if_pos z22] | rw [if_neg (by rw [z22]; decide)]) (by rw [cs_melt_s]; unfold cs_mls; first | (rw [if_pos z22]; rfl) | (rw [if_neg (by rw [z22]; decide)]; rfl)) (ih (j + 1) (by omega) (by omega))
  exact lp5 (c + 1) 0 (by omega) (by omega)
theorem ct_X2_add {c : Nat} {a m v : Int32} (hfl : l.stackTraces = false) (hA : hs_inj A) (h31 : S.1 31 0 = nI c) (hc : c < 90) : hk_Ctr G l 2 yX2_add cX2_add 5 none 0 0 [.ref (A 3), .int a, .int m, .int v] (hs_ov A (S) h) (cx_Q A h (True) (none) (cs_add S c a m v)) (cx_X A h (S) ((fun _ => False))) := by
  refine hk_enter (by decide) hfl (Nat.le_of_ble_eq_true rfl) rfl ?_
  refine hk_aload_n dX2_add_0 rfl rfl rfl ?_
  refine cx_getf hA (by decide) rfl dX2_add_1 rfl fl_X2_31 rfl ?_
  refine cx_top h31 ?_
  refine hk_bipush (v := nI 90) dX2_add_4 rfl (by decide) ?_
  refine cx_icmp_lt (tgt := 10) (by omega) (by omega) dX2_add_6 (by decide) rfl (fun z6 => ?_) (fun z6 => ?_)
  · skip
    refine hk_aload_n dX2_add_10 rfl rfl rfl ?_
    refine cx_getf hA (by decide) rfl dX2_add_11 rfl fl_X2_31 rfl ?_
    refine cx_top h31 ?_
    refine hk_istore dX2_add_14 rfl (by decide) rfl ?_
    refine hk_aload_n dX2_add_16 rfl rfl rfl ?_
    refine hk_dup dX2_add_17 rfl rfl ?_
    refine cx_getf hA (by decide) rfl dX2_add_18 rfl fl_X2_31 rfl ?_
    refine cx_top h31 ?_
    refine hk_iconst (v := nI 1) dX2_add_21 rfl (by decide) ?_
    refine hk_iadd dX2_add_22 rfl ?_
    refine cx_top (nI_add _ _) ?_
    refine cx_putf hA (by decide) rfl dX2_add_23 rfl (fw_X2_31 rfl) rfl rfl (Nat.lt_of_lt_of_eq (by decide : 6 < 7) rfl) hs_sc31 ?_
    refine hk_aload_n dX2_add_26 rfl rfl rfl ?_
    refine cx_getf hA (by decide) rfl dX2_add_27 rfl fl_X2_9 rfl ?_
    refine hk_iload dX2_add_30 rfl rfl ?_
    refine hk_iload_n dX2_add_32 rfl rfl rfl ?_
    refine cx_iast hA dX2_add_33 rfl rfl (by decide) (show _ < 90 by omega) ?_
    refine hk_aload_n dX2_add_34 rfl rfl rfl ?_
    refine cx_getf hA (by decide) rfl dX2_add_35 rfl fl_X2_15 rfl ?_
    refine hk_iload dX2_add_38 rfl rfl ?_
    refine hk_iload_n dX2_add_40 rfl rfl rfl ?_
    refine cx_iast hA dX2_add_41 rfl rfl (by decide) (show _ < 90 by omega) ?_
    refine hk_aload_n dX2_add_42 rfl rfl rfl ?_
    refine hk_iload dX2_add_43 rfl rfl ?_
    refine hk_iload_n dX2_add_45 rfl rfl rfl ?_
    refine cx_callv hA (by decide) rfl rfl rfl dX2_add_46 rfl mv_X2_35 (ct_X2_give hfl hA (by omega)) rfl rfl (by decide) (by decide) (Nat.le_of_ble_eq_true rfl) (fun c46 => ?_) (fun E c => c.elim)
    exact hk_vreturn rfl dX2_add_49 (⟨trivial, rfl, rfl⟩)
  · exact absurd hc (by omega)
end CXC

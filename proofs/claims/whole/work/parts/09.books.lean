-- WHAT THE CLASS DOES, over its memory: its other books
def cs_min (x z : Int32) : Int32 := if z < x then z else x
def cs_oal (S : hs_S) (m n : Nat) : Int32 := cx_it (fun j c => c + S.1 12 (j * 2 + m)) (nI 0) n
theorem cs_oal_s (S : hs_S) (m j : Nat) : cs_oal S m (j + 1) = cs_oal S m j + S.1 12 (j * 2 + m) := rfl
def cs_sof (S : hs_S) (a n : Nat) : Int64 := cx_it (fun j c => c + (S.1 19 (a * 6 + j)).toInt64) 0 n
theorem cs_sof_s (S : hs_S) (a j : Nat) : cs_sof S a (j + 1) = cs_sof S a j + (S.1 19 (a * 6 + j)).toInt64 := rfl
def cs_son (S : hs_S) (a n : Nat) : Int64 := cx_it (fun j c => c + (S.1 19 (j * 6 + a)).toInt64) 0 n
theorem cs_son_s (S : hs_S) (a j : Nat) : cs_son S a (j + 1) = cs_son S a j + (S.1 19 (j * 6 + a)).toInt64 := rfl
def cs_lst (S : hs_S) (a n : Nat) : Int32 := cx_it (fun j c => cs_min c (S.1 19 (a * 6 + (j + 1)))) (S.1 19 (a * 6 + 0)) n
theorem cs_lst_s (S : hs_S) (a j : Nat) : cs_lst S a (j + 1) = cs_min (cs_lst S a j) (S.1 19 (a * 6 + (j + 1))) := rfl
def cs_gcs (S : hs_S) (a j : Nat) (q : Option Nat × Int32) : Option Nat × Int32 := if S.1 19 (j * 6 + a) ≤ q.2 then q else (some j, S.1 19 (j * 6 + a))
def cs_gc (S : hs_S) (a n : Nat) : Option Nat × Int32 := cx_it (cs_gcs S a) (none, nI 0) n
theorem cs_gc_s (S : hs_S) (a j : Nat) : cs_gc S a (j + 1) = cs_gcs S a j (cs_gc S a j) := rfl
theorem cs_gc_lt {S : hs_S} {a : Nat} : ∀ {n b : Nat}, (cs_gc S a n).1 = some b → b < n
  | 0, b, h => by cases h
  | n + 1, b, h => by
    rw [cs_gc_s] at h
    unfold cs_gcs at h
    split at h
    · exact Nat.lt_succ_of_lt (cs_gc_lt h)
    · cases h; exact Nat.lt_succ_self _
def cs_cadd (S : hs_S) (a q : Nat) (v : Int32) : hs_S := hs_su S 19 (a * 6 + q) (S.1 19 (a * 6 + q) + v)
def cs_drp (a : Nat) (S : hs_S) (n : Nat) : hs_S := cx_it (fun j S => hs_su S 19 (j * 6 + a) (nI 0)) S n
theorem cs_drp_s (a : Nat) (S : hs_S) (j : Nat) : cs_drp a S (j + 1) = hs_su (cs_drp a S j) 19 (j * 6 + a) (nI 0) := rfl
def cs_lvs (a j : Nat) (S : hs_S) : hs_S := hs_su (if j = 0 then S else cs_cadd S 0 j (S.1 19 (a * 6 + j))) 19 (a * 6 + j) (nI 0)
def cs_lv (a : Nat) (S : hs_S) (n : Nat) : hs_S := cx_it (cs_lvs a) S n
theorem cs_lv_s (a : Nat) (S : hs_S) (j : Nat) : cs_lv a S (j + 1) = cs_lvs a j (cs_lv a S j) := rfl
def cs_oadd (S : hs_S) (a m : Nat) (v : Int32) : hs_S := hs_su S 12 (a * 2 + m) (S.1 12 (a * 2 + m) + v)
def cs_mv (S : hs_S) (a t m : Nat) : hs_S := cs_oadd (cs_oadd S a m (-(S.1 12 (a * 2 + m)))) t m (S.1 12 (a * 2 + m))
def cs_une (S : hs_S) (a m : Nat) (v : Int32) : hs_S := hs_su (cs_oadd S a m v) 11 m (S.1 11 m + v)
def cs_open (S : hs_S) (c : Nat) (v : Int32) : hs_S := hs_su (hs_su (hs_su S 7 c v) 8 c (nI 1)) 30 0 (nI (c + 1))
def cs_write (S : hs_S) (c : Nat) (a t v q : Int32) : hs_S := hs_su (hs_su (hs_su (hs_su (hs_su (hs_su S 32 0 (nI (c + 1))) 20 c a) 21 c t) 22 c v) 23 c (S.1 33 0 + q)) 24 c a
def cs_pass (S : hs_S) (j e : Nat) (t : Int32) : hs_S := hs_su (hs_su (hs_su S 25 (j * 5 + e) (S.1 24 j)) 26 j (S.1 26 j + nI 1)) 24 j t
def cs_due (S : hs_S) (j : Nat) : Bool := if S.1 23 j = S.1 33 0 then true else false
def cs_liab (S : hs_S) (j e q : Nat) : Int32 := if q = 0 then S.1 21 j else (if q = 1 then S.1 20 j else S.1 25 (j * 5 + e + 1 - q))
def cs_va (S : hs_S) (v n : Nat) : Int32 := cx_it (fun j c => c + S.1 27 (v * 6 + j)) (nI 0) n
theorem cs_va_s (S : hs_S) (v j : Nat) : cs_va S v (j + 1) = cs_va S v j + S.1 27 (v * 6 + j) := rfl
def cs_gr (S : hs_S) (n : Nat) : Nat := cx_it (fun j q => if S.1 29 (j + 1) ≤ S.1 29 q then q else j + 1) 0 n
theorem cs_gr_s (S : hs_S) (j : Nat) : cs_gr S (j + 1) = if S.1 29 (j + 1) ≤ S.1 29 (cs_gr S j) then cs_gr S j else j + 1 := rfl
theorem cs_gr_le (S : hs_S) : ∀ n : Nat, cs_gr S n ≤ n
  | 0 => Nat.le_refl _
  | n + 1 => by
    rw [cs_gr_s]
    have := cs_gr_le S n
    split <;> omega
def cs_p1b (v : Nat) (q z : Int32) (j : Nat) (S : hs_S) : hs_S := hs_su (hs_su S 28 j (q * S.1 27 (v * 6 + j) / z)) 29 j (q * S.1 27 (v * 6 + j) - q * S.1 27 (v * 6 + j) / z * z)
def cs_p1s (v : Nat) (q z : Int32) (j : Nat) (p : hs_S × Int32) : hs_S × Int32 := (cs_p1b v q z j p.1, p.2 - (cs_p1b v q z j p.1).1 28 j)
def cs_p1 (v : Nat) (q z : Int32) (S : hs_S) (n : Nat) : hs_S × Int32 := cx_it (cs_p1s v q z) (S, q) n
theorem cs_p1_s (v : Nat) (q z : Int32) (S : hs_S) (j : Nat) : cs_p1 v q z S (j + 1) = cs_p1s v q z j (cs_p1 v q z S j) := rfl
def cs_p2s (S : hs_S) : hs_S := hs_su (hs_su S 28 (cs_gr S 5) (S.1 28 (cs_gr S 5) + nI 1)) 29 (cs_gr S 5) (-1)
def cs_p2 (S : hs_S) (n : Nat) : hs_S := cx_it (fun _ S => cs_p2s S) S n
theorem cs_p2_s (S : hs_S) (j : Nat) : cs_p2 S (j + 1) = cs_p2s (cs_p2 S j) := rfl
section CXS
variable {G : hk_G} {l : Launch} {d : Nat} {y : MethodName} {b : ByteArray} {nL : Nat} {ret : Option FieldType} {hh : List (Nat × Nat × Nat × Nat)} {Q : Option Value → hk_H → Prop} {X : String → hk_H → Prop} {k n : Nat} {h : hk_H} {pc pc' : Nat} {lv : List (Option Value)} {st : List Value}
theorem cx_calls {y' : MethodName} {b' : ByteArray} {nL' na k' n' d' idx : Nat} {ret' : Option FieldType} {As st0 : List Value} {v : Int32} (hd : decode b pc = .ok (.invokestatic idx, 3)) (hp : pc + 3 = pc') (L : hk_mS y.cls idx y' b' nL' ret' na) (hc : hk_Ctr G l d' y' b' nL' ret' k' n' As h (fun r h' => r = some (.int v) ∧ h' = h) hk_no) (hst : st0 = As.reverse ++ st) (hna : As.length = na) (hdp : d' + 1 ≤ d ∧ 8 + (nL' + 11) + 64 * d' ≤ 64 * d) (hkk : k' ≤ k ∧ n' ≤ n) (hrm : (st.map fun v => v.category).sum ≤ 8)
    (kk : hk_W G l d y b nL ret [] Q X (k - k') (n - n') h pc' lv (.int v :: st)) : hk_W G l d y b nL ret [] Q X k n h pc lv st0 := by
  refine hk_callS hd hp L hc hst hna hdp hkk hrm (fun r h' q => ?_) hk_nx
  obtain ⟨q2, q3⟩ := q
  subst q2
  subst q3
  exact kk
theorem cx_mmin {idx : Nat} {x z : Int32} (hd : decode b pc = .ok (.invokestatic idx, 3)) (hp : pc + 3 = pc') (L : hk_mS y.cls idx yJ9_min_7cf53 cJ9_min_7cf53 2 (some .int) 2) (hd1 : 1 ≤ d) (hrm : (st.map fun v => v.category).sum ≤ 8) (kk : hk_W G l d y b nL ret hh Q X k n h pc' lv (.int (cs_min x z) :: st)) : hk_W G l d y b nL ret hh Q X k n h pc lv (.int z :: .int x :: st) := by
  subst hp
  intro p e s m args below meth c H locs cells slots mc ms ls C hk hn hO hL hl
  refine va_mmin C.exec C.bytes (C.maxL.trans (hl.1.trans hL).symm) C.own (C.words _ L.1) (C.words _ L.2.1) (C.words _ L.2.2.1) (C.words _ L.2.2.2.1) (by show 1 ≤ d; exact hd1) (by show _ ≤ 64 * d; omega) (by show cells ≤ mc; omega) (by show slots ≤ ms; omega) hd ?_
  exact kk p e s m args below meth c H locs cells slots mc ms ls C hk hn hO hL hl
end CXS
section CXL
variable {G : hk_G} {l : Launch} {h : hk_H} {A : Nat → Nat} {S : hs_S}

theorem ct_X3_count {c : Nat} (hfl : l.stackTraces = false) (hA : hs_inj A) (h30 : S.1 30 0 = nI c) : hk_Ctr G l 1 yX3_count cX3_count 1 (some .int) 0 0 [.ref (A 1)] (hs_ov A (S) h) (cx_Q A h (True) (some (.int (nI c))) (S)) (cx_X A h (S) ((fun _ => False))) := by
  refine hk_enter (by decide) hfl (Nat.le_of_ble_eq_true rfl) rfl ?_
  refine hk_aload_n dX3_count_0 rfl rfl rfl ?_
  refine cx_getf hA (by decide) rfl dX3_count_1 rfl fl_X3_19 rfl ?_
  refine cx_top h30 ?_
  exact hk_ireturn rfl (rfl) dX3_count_4 (⟨trivial, rfl, rfl⟩)
theorem ct_X3_open {c : Nat} {v : Int32} (hfl : l.stackTraces = false) (hA : hs_inj A) (h30 : S.1 30 0 = nI c) (hc : c < 6) (hv : narrow .char (.int v) = .int v) : hk_Ctr G l 1 yX3_open cX3_open 2 (some .int) 0 0 [.ref (A 1), .int v] (hs_ov A (S) h) (cx_Q A h (True) (some (.int (nI c))) (cs_open S c v)) (cx_X A h (S) ((fun _ => False))) := by
  refine hk_enter (by decide) hfl (Nat.le_of_ble_eq_true rfl) rfl ?_
  refine hk_aload_n dX3_open_0 rfl rfl rfl ?_
  refine cx_getf hA (by decide) rfl dX3_open_1 rfl fl_X3_19 rfl ?_
  refine cx_top h30 ?_
  refine hk_bipush (v := nI 6) dX3_open_4 rfl (by decide) ?_
  refine cx_icmp_lt (tgt := 11) (by omega) (by omega) dX3_open_6 (by decide) rfl (fun z6 => ?_) (fun z6 => ?_)
  · skip
    refine hk_aload_n dX3_open_11 rfl rfl rfl ?_
    refine cx_getf hA (by decide) rfl dX3_open_12 rfl fl_X3_9 rfl ?_
    refine hk_aload_n dX3_open_15 rfl rfl rfl ?_
    refine cx_getf hA (by decide) rfl dX3_open_16 rfl fl_X3_19 rfl ?_
    refine cx_top h30 ?_
    refine hk_iload_n dX3_open_19 rfl rfl rfl ?_
    refine cx_cast hA dX3_open_20 rfl rfl (by decide) (show _ < 6 by omega) hv ?_
    refine hk_aload_n dX3_open_21 rfl rfl rfl ?_
    refine cx_getf hA (by decide) rfl dX3_open_22 rfl fl_X3_15 rfl ?_
    refine hk_aload_n dX3_open_25 rfl rfl rfl ?_
    refine cx_getf hA (by decide) rfl dX3_open_26 rfl fl_X3_19 rfl ?_
    refine cx_top h30 ?_
    refine hk_iconst (v := nI 1) dX3_open_29 rfl (by decide) ?_
    refine cx_zast hA dX3_open_30 rfl rfl (by decide) (show _ < 6 by omega) rfl ?_
    refine hk_aload_n dX3_open_31 rfl rfl rfl ?_
    refine hk_dup dX3_open_32 rfl rfl ?_
    refine cx_getf hA (by decide) rfl dX3_open_33 rfl fl_X3_19 rfl ?_
    refine cx_top h30 ?_
    refine hk_iconst (v := nI 1) dX3_open_36 rfl (by decide) ?_
    refine hk_iadd dX3_open_37 rfl ?_
    refine cx_top (nI_add _ _) ?_
    refine cx_putf hA (by decide) rfl dX3_open_38 rfl (fw_X3_19 rfl) rfl rfl (Nat.lt_of_lt_of_eq (by decide : 2 < 3) rfl) hs_sc30 ?_
    refine hk_aload_n dX3_open_41 rfl rfl rfl ?_
    refine cx_getf hA (by decide) rfl dX3_open_42 rfl fl_X3_19 rfl ?_
    refine cx_top (show _ = nI (c + 1) from rfl) ?_
    refine hk_iconst (v := nI 1) dX3_open_45 rfl (by decide) ?_
    refine hk_isub dX3_open_46 rfl ?_
    refine cx_top (cx_nsub (by omega)) ?_
    exact hk_ireturn rfl (rfl) dX3_open_47 (⟨trivial, rfl, rfl⟩)
  · exact absurd hc (by omega)
theorem ct_X3_close {j : Nat} (hfl : l.stackTraces = false) (hA : hs_inj A) (hj : j < 6) : hk_Ctr G l 1 yX3_close cX3_close 2 none 0 0 [.ref (A 1), .int (nI j)] (hs_ov A (S) h) (cx_Q A h (True) (none) (hs_su S 8 j (nI 0))) (cx_X A h (S) ((fun _ => False))) := by
  refine hk_enter (by decide) hfl (Nat.le_of_ble_eq_true rfl) rfl ?_
  refine hk_aload_n dX3_close_0 rfl rfl rfl ?_
  refine cx_getf hA (by decide) rfl dX3_close_1 rfl fl_X3_15 rfl ?_
  refine hk_iload_n dX3_close_4 rfl rfl rfl ?_
  refine hk_iconst (v := nI 0) dX3_close_5 rfl (by decide) ?_
  refine cx_zast hA dX3_close_6 rfl rfl (by decide) (show _ < 6 by omega) rfl ?_
  exact hk_vreturn rfl dX3_close_7 (⟨trivial, rfl, rfl⟩)
theorem ct_X3_kind {j : Nat} (hfl : l.stackTraces = false) (hA : hs_inj A) (hj : j < 6) (hb : narrow .char (.int (S.1 7 j)) = .int (S.1 7 j)) : hk_Ctr G l 1 yX3_kind cX3_kind 2 (some .char) 0 0 [.ref (A 1), .int (nI j)] (hs_ov A (S) h) (cx_Q A h (True) (some (.int (S.1 7 j))) (S)) (cx_X A h (S) ((fun _ => False))) := by
  refine hk_enter (by decide) hfl (Nat.le_of_ble_eq_true rfl) rfl ?_
  refine hk_aload_n dX3_kind_0 rfl rfl rfl ?_
  refine cx_getf hA (by decide) rfl dX3_kind_1 rfl fl_X3_9 rfl ?_
  refine hk_iload_n dX3_kind_4 rfl rfl rfl ?_
  refine cx_cald hA dX3_kind_5 rfl rfl (by decide) (show _ < 6 by omega) ?_
  exact hk_ireturn rfl (hb) dX3_kind_6 (⟨trivial, rfl, rfl⟩)
theorem ct_X3_isOpen {j : Nat} (hfl : l.stackTraces = false) (hA : hs_inj A) (hj : j < 6) (hb : narrow .boolean (.int (S.1 8 j)) = .int (S.1 8 j)) : hk_Ctr G l 1 yX3_isOpen cX3_isOpen 2 (some .boolean) 0 0 [.ref (A 1), .int (nI j)] (hs_ov A (S) h) (cx_Q A h (True) (some (.int (S.1 8 j))) (S)) (cx_X A h (S) ((fun _ => False))) := by
  refine hk_enter (by decide) hfl (Nat.le_of_ble_eq_true rfl) rfl ?_
  refine hk_aload_n dX3_isOpen_0 rfl rfl rfl ?_
  refine cx_getf hA (by decide) rfl dX3_isOpen_1 rfl fl_X3_15 rfl ?_
  refine hk_iload_n dX3_isOpen_4 rfl rfl rfl ?_
  refine cx_zald hA dX3_isOpen_5 rfl rfl (by decide) (show _ < 6 by omega) ?_
  exact hk_ireturn rfl (hb) dX3_isOpen_6 (⟨trivial, rfl, rfl⟩)
theorem ct_X4_face {j : Nat} (hfl : l.stackTraces = false) (hA : hs_inj A) (hj : j < 2) : hk_Ctr G l 1 yX4_face cX4_face 2 (some .int) 0 0 [.ref (A 2), .int (nI j)] (hs_ov A (S) h) (cx_Q A h (True) (some (.int (S.1 9 j))) (S)) (cx_X A h (S) ((fun _ => False))) := by
  refine hk_enter (by decide) hfl (Nat.le_of_ble_eq_true rfl) rfl ?_
  refine hk_aload_n dX4_face_0 rfl rfl rfl ?_
  refine cx_getf hA (by decide) rfl dX4_face_1 rfl fl_X4_9 rfl ?_
  refine hk_iload_n dX4_face_4 rfl rfl rfl ?_
  refine cx_iald hA dX4_face_5 rfl rfl (by decide) (show _ < 2 by omega) ?_
  exact hk_ireturn rfl (rfl) dX4_face_6 (⟨trivial, rfl, rfl⟩)
theorem ct_X4_fullWeight {j : Nat} (hfl : l.stackTraces = false) (hA : hs_inj A) (hj : j < 2) : hk_Ctr G l 1 yX4_fullWeight cX4_fullWeight 2 (some .int) 0 0 [.ref (A 2), .int (nI j)] (hs_ov A (S) h) (cx_Q A h (True) (some (.int (S.1 10 j))) (S)) (cx_X A h (S) ((fun _ => False))) := by
  refine hk_enter (by decide) hfl (Nat.le_of_ble_eq_true rfl) rfl ?_
  refine hk_aload_n dX4_fullWeight_0 rfl rfl rfl ?_
  refine cx_getf hA (by decide) rfl dX4_fullWeight_1 rfl fl_X4_15 rfl ?_
  refine hk_iload_n dX4_fullWeight_4 rfl rfl rfl ?_
  refine cx_iald hA dX4_fullWeight_5 rfl rfl (by decide) (show _ < 2 by omega) ?_
  exact hk_ireturn rfl (rfl) dX4_fullWeight_6 (⟨trivial, rfl, rfl⟩)
theorem ct_X4_dug {j : Nat} (hfl : l.stackTraces = false) (hA : hs_inj A) (hj : j < 2) : hk_Ctr G l 1 yX4_dug cX4_dug 2 (some .int) 0 0 [.ref (A 2), .int (nI j)] (hs_ov A (S) h) (cx_Q A h (True) (some (.int (S.1 11 j))) (S)) (cx_X A h (S) ((fun _ => False))) := by
  refine hk_enter (by decide) hfl (Nat.le_of_ble_eq_true rfl) rfl ?_
  refine hk_aload_n dX4_dug_0 rfl rfl rfl ?_
  refine cx_getf hA (by decide) rfl dX4_dug_1 rfl fl_X4_18 rfl ?_
  refine hk_iload_n dX4_dug_4 rfl rfl rfl ?_
  refine cx_iald hA dX4_dug_5 rfl rfl (by decide) (show _ < 2 by omega) ?_
  exact hk_ireturn rfl (rfl) dX4_dug_6 (⟨trivial, rfl, rfl⟩)
theorem ct_X4_tell {j : Nat} {v q : Int32} (hfl : l.stackTraces = false) (hA : hs_inj A) (hj : j < 2) : hk_Ctr G l 1 yX4_tell cX4_tell 4 none 0 0 [.ref (A 2), .int (nI j), .int v, .int q] (hs_ov A (S) h) (cx_Q A h (True) (none) (hs_su (hs_su S 9 j v) 10 j q)) (cx_X A h (S) ((fun _ => False))) := by
  refine hk_enter (by decide) hfl (Nat.le_of_ble_eq_true rfl) rfl ?_
  refine hk_aload_n dX4_tell_0 rfl rfl rfl ?_
  refine cx_getf hA (by decide) rfl dX4_tell_1 rfl fl_X4_9 rfl ?_
  refine hk_iload_n dX4_tell_4 rfl rfl rfl ?_
  refine hk_iload_n dX4_tell_5 rfl rfl rfl ?_
  refine cx_iast hA dX4_tell_6 rfl rfl (by decide) (show _ < 2 by omega) ?_
  refine hk_aload_n dX4_tell_7 rfl rfl rfl ?_
  refine cx_getf hA (by decide) rfl dX4_tell_8 rfl fl_X4_15 rfl ?_
  refine hk_iload_n dX4_tell_11 rfl rfl rfl ?_
  refine hk_iload_n dX4_tell_12 rfl rfl rfl ?_
  refine cx_iast hA dX4_tell_13 rfl rfl (by decide) (show _ < 2 by omega) ?_
  exact hk_vreturn rfl dX4_tell_14 (⟨trivial, rfl, rfl⟩)
theorem ct_X4_oreOf {a m : Nat} (hfl : l.stackTraces = false) (hA : hs_inj A) (ha : a < 6) (hm : m < 2) : hk_Ctr G l 1 yX4_oreOf cX4_oreOf 3 (some .int) 0 0 [.ref (A 2), .int (nI a), .int (nI m)] (hs_ov A (S) h) (cx_Q A h (True) (some (.int (S.1 12 (a * 2 + m)))) (S)) (cx_X A h (S) ((fun _ => False))) := by
  refine hk_enter (by decide) hfl (Nat.le_of_ble_eq_true rfl) rfl ?_
  refine hk_aload_n dX4_oreOf_0 rfl rfl rfl ?_
  refine cx_getf hA (by decide) rfl dX4_oreOf_1 rfl fl_X4_21 rfl ?_
  refine hk_iload_n dX4_oreOf_4 rfl rfl rfl ?_
  refine hk_iconst (v := nI 2) dX4_oreOf_5 rfl (by decide) ?_
  refine hk_imul dX4_oreOf_6 rfl ?_
  refine cx_top (cx_nmul _ _) ?_
  refine hk_iload_n dX4_oreOf_7 rfl rfl rfl ?_
  refine hk_iadd dX4_oreOf_8 rfl ?_
  refine cx_top (nI_add _ _) ?_
  refine cx_iald hA dX4_oreOf_9 rfl rfl (by decide) (show _ < 12 by omega) ?_
  exact hk_ireturn rfl (rfl) dX4_oreOf_10 (⟨trivial, rfl, rfl⟩)
theorem ct_X4_addOre {a m : Nat} {v : Int32} (hfl : l.stackTraces = false) (hA : hs_inj A) (ha : a < 6) (hm : m < 2) : hk_Ctr G l 1 yX4_addOre cX4_addOre 4 none 0 0 [.ref (A 2), .int (nI a), .int (nI m), .int v] (hs_ov A (S) h) (cx_Q A h (True) (none) (cs_oadd S a m v)) (cx_X A h (S) ((fun _ => False))) := by
  refine hk_enter (by decide) hfl (Nat.le_of_ble_eq_true rfl) rfl ?_
  refine hk_aload_n dX4_addOre_0 rfl rfl rfl ?_
  refine cx_getf hA (by decide) rfl dX4_addOre_1 rfl fl_X4_21 rfl ?_
  refine hk_iload_n dX4_addOre_4 rfl rfl rfl ?_
  refine hk_iconst (v := nI 2) dX4_addOre_5 rfl (by decide) ?_
  refine hk_imul dX4_addOre_6 rfl ?_
  refine cx_top (cx_nmul _ _) ?_
  refine hk_iload_n dX4_addOre_7 rfl rfl rfl ?_
  refine hk_iadd dX4_addOre_8 rfl ?_
  refine cx_top (nI_add _ _) ?_
  refine hk_dup2 dX4_addOre_9 rfl rfl rfl ?_
  refine cx_iald hA dX4_addOre_10 rfl rfl (by decide) (show _ < 12 by omega) ?_
  refine hk_iload_n dX4_addOre_11 rfl rfl rfl ?_
  refine hk_iadd dX4_addOre_12 rfl ?_
  refine cx_iast hA dX4_addOre_13 rfl rfl (by decide) (show _ < 12 by omega) ?_
  exact hk_vreturn rfl dX4_addOre_14 (⟨trivial, rfl, rfl⟩)
theorem ct_X4_unearth {a m : Nat} {v : Int32} (hfl : l.stackTraces = false) (hA : hs_inj A) (ha : a < 6) (hm : m < 2) : hk_Ctr G l 2 yX4_unearth cX4_unearth 4 none 0 0 [.ref (A 2), .int (nI a), .int (nI m), .int v] (hs_ov A (S) h) (cx_Q A h (True) (none) (cs_une S a m v)) (cx_X A h (S) ((fun _ => False))) := by
  refine hk_enter (by decide) hfl (Nat.le_of_ble_eq_true rfl) rfl ?_
  refine hk_aload_n dX4_unearth_0 rfl rfl rfl ?_
  refine hk_iload_n dX4_unearth_1 rfl rfl rfl ?_
  refine hk_iload_n dX4_unearth_2 rfl rfl rfl ?_
  refine hk_iload_n dX4_unearth_3 rfl rfl rfl ?_
  refine cx_callv hA (by decide) rfl rfl rfl dX4_unearth_4 rfl mv_X4_24 (ct_X4_addOre hfl hA (by omega) (by omega)) rfl rfl (by decide) (by decide) (Nat.le_of_ble_eq_true rfl) (fun c4 => ?_) (fun E c => c.elim)
  refine hk_aload_n dX4_unearth_7 rfl rfl rfl ?_
  refine cx_getf hA (by decide) rfl dX4_unearth_8 rfl fl_X4_18 rfl ?_
  refine hk_iload_n dX4_unearth_11 rfl rfl rfl ?_
  refine hk_dup2 dX4_unearth_12 rfl rfl rfl ?_
  refine cx_iald hA dX4_unearth_13 rfl rfl (by decide) (show _ < 2 by omega) ?_
  refine hk_iload_n dX4_unearth_14 rfl rfl rfl ?_
  refine hk_iadd dX4_unearth_15 rfl ?_
  refine cx_iast hA dX4_unearth_16 rfl rfl (by decide) (show _ < 2 by omega) ?_
  exact hk_vreturn rfl dX4_unearth_17 (⟨trivial, rfl, rfl⟩)
theorem ct_X4_moveOre {a t m : Nat} (hfl : l.stackTraces = false) (hA : hs_inj A) (ha : a < 6) (ht : t < 6) (hm : m < 2) : hk_Ctr G l 2 yX4_moveOre cX4_moveOre 5 none 0 0 [.ref (A 2), .int (nI a), .int (nI t), .int (nI m)] (hs_ov A (S) h) (cx_Q A h (True) (none) (cs_mv S a t m)) (cx_X A h (S) ((fun _ => False))) := by
  refine hk_enter (by decide) hfl (Nat.le_of_ble_eq_true rfl) rfl ?_
  refine hk_aload_n dX4_moveOre_0 rfl rfl rfl ?_
  refine hk_iload_n dX4_moveOre_1 rfl rfl rfl ?_
  refine hk_iload_n dX4_moveOre_2 rfl rfl rfl ?_
  refine cx_calli hA (by decide) rfl rfl rfl dX4_moveOre_3 rfl mv_X4_28 (ct_X4_oreOf hfl hA (by omega) (by omega)) rfl rfl (by decide) (by decide) (Nat.le_of_ble_eq_true rfl) (fun c3 => ?_) (fun E c => c.elim)
  refine hk_istore dX4_moveOre_6 rfl (by decide) rfl ?_
  refine hk_aload_n dX4_moveOre_8 rfl rfl rfl ?_
  refine hk_iload_n dX4_moveOre_9 rfl rfl rfl ?_
  refine hk_iload_n dX4_moveOre_10 rfl rfl rfl ?_
  refine hk_iload dX4_moveOre_11 rfl rfl ?_
  refine hk_ineg dX4_moveOre_13 rfl ?_
  refine cx_callv hA (by decide) rfl rfl rfl dX4_moveOre_14 rfl mv_X4_24 (ct_X4_addOre hfl hA (by omega) (by omega)) rfl rfl (by decide) (by decide) (Nat.le_of_ble_eq_true rfl) (fun c14 => ?_) (fun E c => c.elim)
  refine hk_aload_n dX4_moveOre_17 rfl rfl rfl ?_
  refine hk_iload_n dX4_moveOre_18 rfl rfl rfl ?_
  refine hk_iload_n dX4_moveOre_19 rfl rfl rfl ?_
  refine hk_iload dX4_moveOre_20 rfl rfl ?_
  refine cx_callv hA (by decide) rfl rfl rfl dX4_moveOre_22 rfl mv_X4_24 (ct_X4_addOre hfl hA (by omega) (by omega)) rfl rfl (by decide) (by decide) (Nat.le_of_ble_eq_true rfl) (fun c22 => ?_) (fun E c => c.elim)
  exact hk_vreturn rfl dX4_moveOre_25 (⟨trivial, rfl, rfl⟩)
theorem ct_X4_oreOfAll {m : Nat} (hfl : l.stackTraces = false) (hA : hs_inj A) (hm : m < 2) : hk_Ctr G l 2 yX4_oreOfAll cX4_oreOfAll 4 (some .int) 0 0 [.ref (A 2), .int (nI m)] (hs_ov A (S) h) (cx_Q A h (True) (some (.int (cs_oal S m 6))) (S)) (cx_X A h (S) ((fun _ => False))) := by
  refine hk_enter (by decide) hfl (Nat.le_of_ble_eq_true rfl) rfl ?_
  refine hk_iconst (v := nI 0) dX4_oreOfAll_0 rfl (by decide) ?_
  refine hk_istore_n dX4_oreOfAll_1 rfl rfl (by decide) rfl ?_
  refine hk_iconst (v := nI 0) dX4_oreOfAll_2 rfl (by decide) ?_
  refine hk_istore_n dX4_oreOfAll_3 rfl rfl (by decide) rfl ?_
  have lp4 : ∀ f j : Nat, j ≤ 6 → 6 - j < f → hk_W G l 2 yX4_oreOfAll cX4_oreOfAll 4 (some .int) [] (cx_Q A h (True) (some (.int (cs_oal S m 6))) (S)) (cx_X A h (S) ((fun _ => False))) 0 0 (hs_ov A (S) h) 4 [some (.ref (A 2)), some (.int (nI m)), some (.int (cs_oal S m j)), some (.int (nI j))] [] := by
    intro f
    induction f with
    | zero => intro j hj hf; exact absurd hf (by omega)
    | succ f ih =>
      intro j hj hf
      refine hk_iload_n dX4_oreOfAll_4 rfl rfl rfl ?_
      refine hk_bipush (v := nI 6) dX4_oreOfAll_5 rfl (by decide) ?_
      refine cx_icmp_ge (tgt := 25) (by omega) (by omega) dX4_oreOfAll_7 (by decide) rfl (fun z7 => ?_) (fun z7 => ?_)
      · skip
        refine hk_iload_n dX4_oreOfAll_25 rfl rfl rfl ?_
        exact hk_ireturn rfl (rfl) dX4_oreOfAll_26 (by have e : j = 6 := (by omega); subst e; exact ⟨trivial, rfl, rfl⟩)
      · skip
        refine hk_iload_n dX4_oreOfAll_10 rfl rfl rfl ?_
        refine hk_aload_n dX4_oreOfAll_11 rfl rfl rfl ?_
        refine hk_iload_n dX4_oreOfAll_12 rfl rfl rfl ?_
        refine hk_iload_n dX4_oreOfAll_13 rfl rfl rfl ?_
        refine cx_calli hA (by decide) rfl rfl rfl dX4_oreOfAll_14 rfl mv_X4_28 (ct_X4_oreOf hfl hA (by omega) (by omega)) rfl rfl (by decide) (by decide) (Nat.le_of_ble_eq_true rfl) (fun c14 => ?_) (fun E c => c.elim)
        refine hk_iadd dX4_oreOfAll_17 rfl ?_
        refine hk_istore_n dX4_oreOfAll_18 rfl rfl (by decide) rfl ?_
        refine hk_iinc dX4_oreOfAll_19 rfl rfl (nI_1 _) (by decide) rfl ?_
        refine hk_goto (tgt := 4) dX4_oreOfAll_22 (by decide) ?_
        exact cx_cg rfl rfl (ih (j + 1) (by omega) (by omega))
  exact lp4 (6 + 1) 0 (by omega) (by omega)
theorem ct_X1_amount {a q : Nat} (hfl : l.stackTraces = false) (hA : hs_inj A) (ha : a < 6) (hq : q < 6) : hk_Ctr G l 1 yX1_amount cX1_amount 3 (some .int) 0 0 [.ref (A 4), .int (nI a), .int (nI q)] (hs_ov A (S) h) (cx_Q A h (True) (some (.int (S.1 19 (a * 6 + q)))) (S)) (cx_X A h (S) ((fun _ => False))) := by
  refine hk_enter (by decide) hfl (Nat.le_of_ble_eq_true rfl) rfl ?_
  refine hk_aload_n dX1_amount_0 rfl rfl rfl ?_
  refine cx_getf hA (by decide) rfl dX1_amount_1 rfl fl_X1_9 rfl ?_
  refine hk_iload_n dX1_amount_4 rfl rfl rfl ?_
  refine hk_bipush (v := nI 6) dX1_amount_5 rfl (by decide) ?_
  refine hk_imul dX1_amount_7 rfl ?_
  refine cx_top (cx_nmul _ _) ?_
  refine hk_iload_n dX1_amount_8 rfl rfl rfl ?_
  refine hk_iadd dX1_amount_9 rfl ?_
  refine cx_top (nI_add _ _) ?_
  refine cx_iald hA dX1_amount_10 rfl rfl (by decide) (show _ < 36 by omega) ?_
  exact hk_ireturn rfl (rfl) dX1_amount_11 (⟨trivial, rfl, rfl⟩)
theorem ct_X1_add {a q : Nat} {v : Int32} (hfl : l.stackTraces = false) (hA : hs_inj A) (ha : a < 6) (hq : q < 6) : hk_Ctr G l 1 yX1_add cX1_add 4 none 0 0 [.ref (A 4), .int (nI a), .int (nI q), .int v] (hs_ov A (S) h) (cx_Q A h (True) (none) (cs_cadd S a q v)) (cx_X A h (S) ((fun _ => False))) := by
  refine hk_enter (by decide) hfl (Nat.le_of_ble_eq_true rfl) rfl ?_
  refine hk_aload_n dX1_add_0 rfl rfl rfl ?_
  refine cx_getf hA (by decide) rfl dX1_add_1 rfl fl_X1_9 rfl ?_
  refine hk_iload_n dX1_add_4 rfl rfl rfl ?_
  refine hk_bipush (v := nI 6) dX1_add_5 rfl (by decide) ?_
  refine hk_imul dX1_add_7 rfl ?_
  refine cx_top (cx_nmul _ _) ?_
  refine hk_iload_n dX1_add_8 rfl rfl rfl ?_
  refine hk_iadd dX1_add_9 rfl ?_
  refine cx_top (nI_add _ _) ?_
  refine hk_dup2 dX1_add_10 rfl rfl rfl ?_
  refine cx_iald hA dX1_add_11 rfl rfl (by decide) (show _ < 36 by omega) ?_
  refine hk_iload_n dX1_add_12 rfl rfl rfl ?_
  refine hk_iadd dX1_add_13 rfl ?_
  refine cx_iast hA dX1_add_14 rfl rfl (by decide) (show _ < 36 by omega) ?_
  exact hk_vreturn rfl dX1_add_15 (⟨trivial, rfl, rfl⟩)
theorem ct_X1_sumOf {a : Nat} (hfl : l.stackTraces = false) (hA : hs_inj A) (ha : a < 6) : hk_Ctr G l 2 yX1_sumOf cX1_sumOf 5 (some .long) 0 0 [.ref (A 4), .int (nI a)] (hs_ov A (S) h) (cx_Q A h (True) (some (.long (cs_sof S a 6))) (S)) (cx_X A h (S) ((fun _ => False))) := by
  refine hk_enter (by decide) hfl (Nat.le_of_ble_eq_true rfl) rfl ?_
  refine hk_lconst (v := 0) dX1_sumOf_0 rfl (by decide) ?_
  refine hk_lstore_n dX1_sumOf_1 rfl rfl (by decide) rfl ?_
  refine hk_iconst (v := nI 0) dX1_sumOf_2 rfl (by decide) ?_
  refine hk_istore dX1_sumOf_3 rfl (by decide) rfl ?_
  have lp5 : ∀ f j : Nat, j ≤ 6 → 6 - j < f → hk_W G l 2 yX1_sumOf cX1_sumOf 5 (some .long) [] (cx_Q A h (True) (some (.long (cs_sof S a 6))) (S)) (cx_X A h (S) ((fun _ => False))) 0 0 (hs_ov A (S) h) 5 [some (.ref (A 4)), some (.int (nI a)), some (.long (cs_sof S a j)), none, some (.int (nI j))] [] := by
    intro f
    induction f with
    | zero => intro j hj hf; exact absurd hf (by omega)
    | succ f ih =>
      intro j hj hf
      refine hk_iload dX1_sumOf_5 rfl rfl ?_
      refine hk_bipush (v := nI 6) dX1_sumOf_7 rfl (by decide) ?_
      refine cx_icmp_ge (tgt := 29) (by omega) (by omega) dX1_sumOf_9 (by decide) rfl (fun z9 => ?_) (fun z9 => ?_)
      · skip
        refine hk_lload_n dX1_sumOf_29 rfl rfl rfl ?_
        exact hk_lreturn rfl dX1_sumOf_30 (by have e : j = 6 := (by omega); subst e; exact ⟨trivial, rfl, rfl⟩)
      · skip
        refine hk_lload_n dX1_sumOf_12 rfl rfl rfl ?_
        refine hk_aload_n dX1_sumOf_13 rfl rfl rfl ?_
        refine hk_iload_n dX1_sumOf_14 rfl rfl rfl ?_
        refine hk_iload dX1_sumOf_15 rfl rfl ?_
        refine cx_calli hA (by decide) rfl rfl rfl dX1_sumOf_17 rfl mv_X1_15 (ct_X1_amount hfl hA (by omega) (by omega)) rfl rfl (by decide) (by decide) (Nat.le_of_ble_eq_true rfl) (fun c17 => ?_) (fun E c => c.elim)
        refine hk_i2l dX1_sumOf_20 rfl ?_
        refine hk_ladd dX1_sumOf_21 rfl ?_
        refine hk_lstore_n dX1_sumOf_22 rfl rfl (by decide) rfl ?_
        refine hk_iinc dX1_sumOf_23 rfl rfl (nI_1 _) (by decide) rfl ?_
        refine hk_goto (tgt := 5) dX1_sumOf_26 (by decide) ?_
        exact cx_cg rfl rfl (ih (j + 1) (by omega) (by omega))
  exact lp5 (6 + 1) 0 (by omega) (by omega)
theorem ct_X1_sumOn {a : Nat} (hfl : l.stackTraces = false) (hA : hs_inj A) (ha : a < 6) : hk_Ctr G l 2 yX1_sumOn cX1_sumOn 5 (some .long) 0 0 [.ref (A 4), .int (nI a)] (hs_ov A (S) h) (cx_Q A h (True) (some (.long (cs_son S a 6))) (S)) (cx_X A h (S) ((fun _ => False))) := by
  refine hk_enter (by decide) hfl (Nat.le_of_ble_eq_true rfl) rfl ?_
  refine hk_lconst (v := 0) dX1_sumOn_0 rfl (by decide) ?_
  refine hk_lstore_n dX1_sumOn_1 rfl rfl (by decide) rfl ?_
  refine hk_iconst (v := nI 0) dX1_sumOn_2 rfl (by decide) ?_
  refine hk_istore dX1_sumOn_3 rfl (by decide) rfl ?_
  have lp5 : ∀ f j : Nat, j ≤ 6 → 6 - j < f → hk_W G l 2 yX1_sumOn cX1_sumOn 5 (some .long) [] (cx_Q A h (True) (some (.long (cs_son S a 6))) (S)) (cx_X A h (S) ((fun _ => False))) 0 0 (hs_ov A (S) h) 5 [some (.ref (A 4)), some (.int (nI a)), some (.long (cs_son S a j)), none, some (.int (nI j))] [] := by
    intro f
    induction f with
    | zero => intro j hj hf; exact absurd hf (by omega)
    | succ f ih =>
      intro j hj hf
      refine hk_iload dX1_sumOn_5 rfl rfl ?_
      refine hk_bipush (v := nI 6) dX1_sumOn_7 rfl (by decide) ?_
      refine cx_icmp_ge (tgt := 29) (by omega) (by omega) dX1_sumOn_9 (by decide) rfl (fun z9 => ?_) (fun z9 => ?_)
      · skip
        refine hk_lload_n dX1_sumOn_29 rfl rfl rfl ?_
        exact hk_lreturn rfl dX1_sumOn_30 (by have e : j = 6 := (by omega); subst e; exact ⟨trivial, rfl, rfl⟩)
      · skip
        refine hk_lload_n dX1_sumOn_12 rfl rfl rfl ?_
        refine hk_aload_n dX1_sumOn_13 rfl rfl rfl ?_
        refine hk_iload dX1_sumOn_14 rfl rfl ?_
        refine hk_iload_n dX1_sumOn_16 rfl rfl rfl ?_
        refine cx_calli hA (by decide) rfl rfl rfl dX1_sumOn_17 rfl mv_X1_15 (ct_X1_amount hfl hA (by omega) (by omega)) rfl rfl (by decide) (by decide) (Nat.le_of_ble_eq_true rfl) (fun c17 => ?_) (fun E c => c.elim)
        refine hk_i2l dX1_sumOn_20 rfl ?_
        refine hk_ladd dX1_sumOn_21 rfl ?_
        refine hk_lstore_n dX1_sumOn_22 rfl rfl (by decide) rfl ?_
        refine hk_iinc dX1_sumOn_23 rfl rfl (nI_1 _) (by decide) rfl ?_
        refine hk_goto (tgt := 5) dX1_sumOn_26 (by decide) ?_
        exact cx_cg rfl rfl (ih (j + 1) (by omega) (by omega))
  exact lp5 (6 + 1) 0 (by omega) (by omega)
theorem ct_X1_leastOf {a : Nat} (hfl : l.stackTraces = false) (hA : hs_inj A) (ha : a < 6) : hk_Ctr G l 2 yX1_leastOf cX1_leastOf 4 (some .int) 0 0 [.ref (A 4), .int (nI a)] (hs_ov A (S) h) (cx_Q A h (True) (some (.int (cs_lst S a 5))) (S)) (cx_X A h (S) ((fun _ => False))) := by
  refine hk_enter (by decide) hfl (Nat.le_of_ble_eq_true rfl) rfl ?_
  refine hk_aload_n dX1_leastOf_0 rfl rfl rfl ?_
  refine hk_iload_n dX1_leastOf_1 rfl rfl rfl ?_
  refine hk_iconst (v := nI 0) dX1_leastOf_2 rfl (by decide) ?_
  refine cx_calli hA (by decide) rfl rfl rfl dX1_leastOf_3 rfl mv_X1_15 (ct_X1_amount hfl hA (by omega) (by omega)) rfl rfl (by decide) (by decide) (Nat.le_of_ble_eq_true rfl) (fun c3 => ?_) (fun E c => c.elim)
  refine hk_istore_n dX1_leastOf_6 rfl rfl (by decide) rfl ?_
  refine hk_iconst (v := nI 1) dX1_leastOf_7 rfl (by decide) ?_
  refine hk_istore_n dX1_leastOf_8 rfl rfl (by decide) rfl ?_
  have lp9 : ∀ f j : Nat, j ≤ 5 → 5 - j < f → hk_W G l 2 yX1_leastOf cX1_leastOf 4 (some .int) [] (cx_Q A h (True) (some (.int (cs_lst S a 5))) (S)) (cx_X A h (S) ((fun _ => False))) 0 0 (hs_ov A (S) h) 9 [some (.ref (A 4)), some (.int (nI a)), some (.int (cs_lst S a j)), some (.int (nI (j + 1)))] [] := by
    intro f
    induction f with
    | zero => intro j hj hf; exact absurd hf (by omega)
    | succ f ih =>
      intro j hj hf
      refine hk_iload_n dX1_leastOf_9 rfl rfl rfl ?_
      refine hk_bipush (v := nI 6) dX1_leastOf_10 rfl (by decide) ?_
      refine cx_icmp_ge (tgt := 32) (by omega) (by omega) dX1_leastOf_12 (by decide) rfl (fun z12 => ?_) (fun z12 => ?_)
      · skip
        refine hk_iload_n dX1_leastOf_32 rfl rfl rfl ?_
        exact hk_ireturn rfl (rfl) dX1_leastOf_33 (by have e : j = 5 := (by omega); subst e; exact ⟨trivial, rfl, rfl⟩)
      · skip
        refine hk_iload_n dX1_leastOf_15 rfl rfl rfl ?_
        refine hk_aload_n dX1_leastOf_16 rfl rfl rfl ?_
        refine hk_iload_n dX1_leastOf_17 rfl rfl rfl ?_
        refine hk_iload_n dX1_leastOf_18 rfl rfl rfl ?_
        refine cx_calli hA (by decide) rfl rfl rfl dX1_leastOf_19 rfl mv_X1_15 (ct_X1_amount hfl hA (by omega) (by omega)) rfl rfl (by decide) (by decide) (Nat.le_of_ble_eq_true rfl) (fun c19 => ?_) (fun E c => c.elim)
        refine cx_mmin dX1_leastOf_22 rfl ms_X1_19 (by decide) (Nat.le_of_ble_eq_true rfl) ?_
        refine hk_istore_n dX1_leastOf_25 rfl rfl (by decide) rfl ?_
        refine hk_iinc dX1_leastOf_26 rfl rfl (nI_1 _) (by decide) rfl ?_
        refine hk_goto (tgt := 9) dX1_leastOf_29 (by decide) ?_
        exact cx_cg rfl rfl (ih (j + 1) (by omega) (by omega))
  exact lp9 (5 + 1) 0 (by omega) (by omega)
theorem ct_X1_greatestCreditor {a : Nat} (hfl : l.stackTraces = false) (hA : hs_inj A) (ha : a < 6) : hk_Ctr G l 2 yX1_greatestCreditor cX1_greatestCreditor 5 (some .int) 0 0 [.ref (A 4), .int (nI a)] (hs_ov A (S) h) (cx_Q A h (True) (some (.int (cs_o (cs_gc S a 6).1))) (S)) (cx_X A h (S) ((fun _ => False))) := by
  refine hk_enter (by decide) hfl (Nat.le_of_ble_eq_true rfl) rfl ?_
  refine hk_iconst (v := -1) dX1_greatestCreditor_0 rfl (by decide) ?_
  refine hk_istore_n dX1_greatestCreditor_1 rfl rfl (by decide) rfl ?_
  refine hk_iconst (v := nI 0) dX1_greatestCreditor_2 rfl (by decide) ?_
  refine hk_istore_n dX1_greatestCreditor_3 rfl rfl (by decide) rfl ?_
  refine hk_iconst (v := nI 0) dX1_greatestCreditor_4 rfl (by decide) ?_
  refine hk_istore dX1_greatestCreditor_5 rfl (by decide) rfl ?_
  have lp7 : ∀ f j : Nat, j ≤ 6 → 6 - j < f → hk_W G l 2 yX1_greatestCreditor cX1_greatestCreditor 5 (some .int) [] (cx_Q A h (True) (some (.int (cs_o (cs_gc S a 6).1))) (S)) (cx_X A h (S) ((fun _ => False))) 0 0 (hs_ov A (S) h) 7 [some (.ref (A 4)), some (.int (nI a)), some (.int (cs_o (cs_gc S a j).1)), some (.int (cs_gc S a j).2), some (.int (nI j))] [] := by
    intro f
    induction f with
    | zero => intro j hj hf; exact absurd hf (by omega)
    | succ f ih =>
      intro j hj hf
      refine hk_iload dX1_greatestCreditor_7 rfl rfl ?_
      refine hk_bipush (v := nI 6) dX1_greatestCreditor_9 rfl (by decide) ?_
      refine cx_icmp_ge (tgt := 42) (by omega) (by omega) dX1_greatestCreditor_11 (by decide) rfl (fun z11 => ?_) (fun z11 => ?_)
      · skip
        refine hk_iload_n dX1_greatestCreditor_42 rfl rfl rfl ?_
        exact hk_ireturn rfl (rfl) dX1_greatestCreditor_43 (by have e : j = 6 := (by omega); subst e; exact ⟨trivial, rfl, rfl⟩)
      · skip
        refine hk_aload_n dX1_greatestCreditor_14 rfl rfl rfl ?_
        refine hk_iload dX1_greatestCreditor_15 rfl rfl ?_
        refine hk_iload_n dX1_greatestCreditor_17 rfl rfl rfl ?_
        refine cx_calli hA (by decide) rfl rfl rfl dX1_greatestCreditor_18 rfl mv_X1_15 (ct_X1_amount hfl hA (by omega) (by omega)) rfl rfl (by decide) (by decide) (Nat.le_of_ble_eq_true rfl) (fun c18 => ?_) (fun E c => c.elim)
        refine hk_iload_n dX1_greatestCreditor_21 rfl rfl rfl ?_
        refine hk_icmp_le (tgt := 36) dX1_greatestCreditor_22 (by decide) rfl (fun z22 => ?_) (fun z22 => ?_)
        · skip
          refine hk_iinc dX1_greatestCreditor_36 rfl rfl (nI_1 _) (by decide) rfl ?_
          refine hk_goto (tgt := 7) dX1_greatestCreditor_39 (by decide) ?_
          exact cx_cg rfl (by rw [cs_gc_s]; unfold cs_gcs; first | (rw [if_pos z22]; rfl) | (rw [if_neg z22]; rfl)) (ih (j + 1) (by omega) (by omega))
        · skip
          refine hk_iload dX1_greatestCreditor_25 rfl rfl ?_
          refine hk_istore_n dX1_greatestCreditor_27 rfl rfl (by decide) rfl ?_
          refine hk_aload_n dX1_greatestCreditor_28 rfl rfl rfl ?_
          refine hk_iload dX1_greatestCreditor_29 rfl rfl ?_
          refine hk_iload_n dX1_greatestCreditor_31 rfl rfl rfl ?_
          refine cx_calli hA (by decide) rfl rfl rfl dX1_greatestCreditor_32 rfl mv_X1_15 (ct_X1_amount hfl hA (by omega) (by omega)) rfl rfl (by decide) (by decide) (Nat.le_of_ble_eq_true rfl) (fun c32 => ?_) (fun E c => c.elim)
          refine hk_istore_n dX1_greatestCreditor_35 rfl rfl (by decide) rfl ?_
          refine hk_iinc dX1_greatestCreditor_36 rfl rfl (nI_1 _) (by decide) rfl ?_
          refine hk_goto (tgt := 7) dX1_greatestCreditor_39 (by decide) ?_
          exact cx_cg rfl (by rw [cs_gc_s]; unfold cs_gcs; first | (rw [if_pos z22]; rfl) | (rw [if_neg z22]; rfl)) (ih (j + 1) (by omega) (by omega))
  exact lp7 (6 + 1) 0 (by omega) (by omega)
theorem ct_X1_dropOn {a : Nat} (hfl : l.stackTraces = false) (hA : hs_inj A) (ha : a < 6) : hk_Ctr G l 3 yX1_dropOn cX1_dropOn 5 (some .long) 0 0 [.ref (A 4), .int (nI a)] (hs_ov A (S) h) (cx_Q A h (True) (some (.long (cs_son S a 6))) (cs_drp a S 6)) (cx_X A h (S) ((fun _ => False))) := by
  refine hk_enter (by decide) hfl (Nat.le_of_ble_eq_true rfl) rfl ?_
  refine hk_aload_n dX1_dropOn_0 rfl rfl rfl ?_
  refine hk_iload_n dX1_dropOn_1 rfl rfl rfl ?_
  refine cx_calll hA (by decide) rfl rfl rfl dX1_dropOn_2 rfl mv_X1_24 (ct_X1_sumOn hfl hA (by omega)) rfl rfl (by decide) (by decide) (Nat.le_of_ble_eq_true rfl) (fun c2 => ?_) (fun E c => c.elim)
  refine hk_lstore_n dX1_dropOn_5 rfl rfl (by decide) rfl ?_
  refine hk_iconst (v := nI 0) dX1_dropOn_6 rfl (by decide) ?_
  refine hk_istore dX1_dropOn_7 rfl (by decide) rfl ?_
  have lp9 : ∀ f j : Nat, j ≤ 6 → 6 - j < f → hk_W G l 3 yX1_dropOn cX1_dropOn 5 (some .long) [] (cx_Q A h (True) (some (.long (cs_son S a 6))) (cs_drp a S 6)) (cx_X A h (S) ((fun _ => False))) 0 0 (hs_ov A (cs_drp a S j) h) 9 [some (.ref (A 4)), some (.int (nI a)), some (.long (cs_son S a 6)), none, some (.int (nI j))] [] := by
    intro f
    induction f with
    | zero => intro j hj hf; exact absurd hf (by omega)
    | succ f ih =>
      intro j hj hf
      refine hk_iload dX1_dropOn_9 rfl rfl ?_
      refine hk_bipush (v := nI 6) dX1_dropOn_11 rfl (by decide) ?_
      refine cx_icmp_ge (tgt := 35) (by omega) (by omega) dX1_dropOn_13 (by decide) rfl (fun z13 => ?_) (fun z13 => ?_)
      · skip
        refine hk_lload_n dX1_dropOn_35 rfl rfl rfl ?_
        exact hk_lreturn rfl dX1_dropOn_36 (by have e : j = 6 := (by omega); subst e; exact ⟨trivial, rfl, rfl⟩)
      · skip
        refine hk_aload_n dX1_dropOn_16 rfl rfl rfl ?_
        refine cx_getf hA (by decide) rfl dX1_dropOn_17 rfl fl_X1_9 rfl ?_
        refine hk_iload dX1_dropOn_20 rfl rfl ?_
        refine hk_bipush (v := nI 6) dX1_dropOn_22 rfl (by decide) ?_
        refine hk_imul dX1_dropOn_24 rfl ?_
        refine cx_top (cx_nmul _ _) ?_
        refine hk_iload_n dX1_dropOn_25 rfl rfl rfl ?_
        refine hk_iadd dX1_dropOn_26 rfl ?_
        refine cx_top (nI_add _ _) ?_
        refine hk_iconst (v := nI 0) dX1_dropOn_27 rfl (by decide) ?_
        refine cx_iast hA dX1_dropOn_28 rfl rfl (by decide) (show _ < 36 by omega) ?_
        refine hk_iinc dX1_dropOn_29 rfl rfl (nI_1 _) (by decide) rfl ?_
        refine hk_goto (tgt := 9) dX1_dropOn_32 (by decide) ?_
        exact cx_cg rfl rfl (ih (j + 1) (by omega) (by omega))
  exact lp9 (6 + 1) 0 (by omega) (by omega)
theorem ct_X1_leaveToCrown {a : Nat} (hfl : l.stackTraces = false) (hA : hs_inj A) (ha : a < 6) : hk_Ctr G l 2 yX1_leaveToCrown cX1_leaveToCrown 3 none 0 0 [.ref (A 4), .int (nI a)] (hs_ov A (S) h) (cx_Q A h (True) (none) (cs_lv a S 6)) (cx_X A h (S) ((fun _ => False))) := by
  refine hk_enter (by decide) hfl (Nat.le_of_ble_eq_true rfl) rfl ?_
  refine hk_iconst (v := nI 0) dX1_leaveToCrown_0 rfl (by decide) ?_
  refine hk_istore_n dX1_leaveToCrown_1 rfl rfl (by decide) rfl ?_
  have lp2 : ∀ f j : Nat, j ≤ 6 → 6 - j < f → hk_W G l 2 yX1_leaveToCrown cX1_leaveToCrown 3 none [] (cx_Q A h (True) (none) (cs_lv a S 6)) (cx_X A h (S) ((fun _ => False))) 0 0 (hs_ov A (cs_lv a S j) h) 2 [some (.ref (A 4)), some (.int (nI a)), some (.int (nI j))] [] := by
    intro f
    induction f with
    | zero => intro j hj hf; exact absurd hf (by omega)
    | succ f ih =>
      intro j hj hf
      refine hk_iload_n dX1_leaveToCrown_2 rfl rfl rfl ?_
      refine hk_bipush (v := nI 6) dX1_leaveToCrown_3 rfl (by decide) ?_
      refine cx_icmp_ge (tgt := 42) (by omega) (by omega) dX1_leaveToCrown_5 (by decide) rfl (fun z5 => ?_) (fun z5 => ?_)
      · skip
        exact hk_vreturn rfl dX1_leaveToCrown_42 (by have e : j = 6 := (by omega); subst e; exact ⟨trivial, rfl, rfl⟩)
      · skip
        refine hk_iload_n dX1_leaveToCrown_8 rfl rfl rfl ?_
        refine cx_ifn_eq (tgt := 24) (by omega) dX1_leaveToCrown_9 (by decide) rfl (fun z9 => ?_) (fun z9 => ?_)
        · skip
          refine hk_aload_n dX1_leaveToCrown_24 rfl rfl rfl ?_
          refine cx_getf hA (by decide) rfl dX1_leaveToCrown_25 rfl fl_X1_9 rfl ?_
          refine hk_iload_n dX1_leaveToCrown_28 rfl rfl rfl ?_
          refine hk_bipush (v := nI 6) dX1_leaveToCrown_29 rfl (by decide) ?_
          refine hk_imul dX1_leaveToCrown_31 rfl ?_
          refine cx_top (cx_nmul _ _) ?_
          refine hk_iload_n dX1_leaveToCrown_32 rfl rfl rfl ?_
          refine hk_iadd dX1_leaveToCrown_33 rfl ?_
          refine cx_top (nI_add _ _) ?_
          refine hk_iconst (v := nI 0) dX1_leaveToCrown_34 rfl (by decide) ?_
          refine cx_iast hA dX1_leaveToCrown_35 rfl rfl (by decide) (show _ < 36 by omega) ?_
          refine hk_iinc dX1_leaveToCrown_36 rfl rfl (nI_1 _) (by decide) rfl ?_
          refine hk_goto (tgt := 2) dX1_leaveToCrown_39 (by decide) ?_
          exact cx_cg (by rw [cs_lv_s]; unfold cs_lvs; first | rw [if_pos z9] | rw [if_neg z9]) rfl (ih (j + 1) (by omega) (by omega))
        · skip
          refine hk_aload_n dX1_leaveToCrown_12 rfl rfl rfl ?_
          refine hk_iconst (v := nI 0) dX1_leaveToCrown_13 rfl (by decide) ?_
          refine hk_iload_n dX1_leaveToCrown_14 rfl rfl rfl ?_
          refine hk_aload_n dX1_leaveToCrown_15 rfl rfl rfl ?_
          refine hk_iload_n dX1_leaveToCrown_16 rfl rfl rfl ?_
          refine hk_iload_n dX1_leaveToCrown_17 rfl rfl rfl ?_
          refine cx_calli hA (by decide) rfl rfl rfl dX1_leaveToCrown_18 rfl mv_X1_15 (ct_X1_amount hfl hA (by omega) (by omega)) rfl rfl (by decide) (by decide) (Nat.le_of_ble_eq_true rfl) (fun c18 => ?_) (fun E c => c.elim)
          refine cx_callv hA (by decide) rfl rfl rfl dX1_leaveToCrown_21 rfl mv_X1_28 (ct_X1_add hfl hA (by omega) (by omega)) rfl rfl (by decide) (by decide) (Nat.le_of_ble_eq_true rfl) (fun c21 => ?_) (fun E c => c.elim)
          refine hk_aload_n dX1_leaveToCrown_24 rfl rfl rfl ?_
          refine cx_getf hA (by decide) rfl dX1_leaveToCrown_25 rfl fl_X1_9 rfl ?_
          refine hk_iload_n dX1_leaveToCrown_28 rfl rfl rfl ?_
          refine hk_bipush (v := nI 6) dX1_leaveToCrown_29 rfl (by decide) ?_
          refine hk_imul dX1_leaveToCrown_31 rfl ?_
          refine cx_top (cx_nmul _ _) ?_
          refine hk_iload_n dX1_leaveToCrown_32 rfl rfl rfl ?_
          refine hk_iadd dX1_leaveToCrown_33 rfl ?_
          refine cx_top (nI_add _ _) ?_
          refine hk_iconst (v := nI 0) dX1_leaveToCrown_34 rfl (by decide) ?_
          refine cx_iast hA dX1_leaveToCrown_35 rfl rfl (by decide) (show _ < 36 by omega) ?_
          refine hk_iinc dX1_leaveToCrown_36 rfl rfl (nI_1 _) (by decide) rfl ?_
          refine hk_goto (tgt := 2) dX1_leaveToCrown_39 (by decide) ?_
          exact cx_cg (by rw [cs_lv_s]; unfold cs_lvs; first | rw [if_pos z9] | rw [if_neg z9]) rfl (ih (j + 1) (by omega) (by omega))
  exact lp2 (6 + 1) 0 (by omega) (by omega)
theorem ct_X0_count {c : Nat} (hfl : l.stackTraces = false) (hA : hs_inj A) (h32 : S.1 32 0 = nI c) : hk_Ctr G l 1 yX0_count cX0_count 1 (some .int) 0 0 [.ref (A 5)] (hs_ov A (S) h) (cx_Q A h (True) (some (.int (nI c))) (S)) (cx_X A h (S) ((fun _ => False))) := by
  refine hk_enter (by decide) hfl (Nat.le_of_ble_eq_true rfl) rfl ?_
  refine hk_aload_n dX0_count_0 rfl rfl rfl ?_
  refine cx_getf hA (by decide) rfl dX0_count_1 rfl fl_X0_33 rfl ?_
  refine cx_top h32 ?_
  exact hk_ireturn rfl (rfl) dX0_count_4 (⟨trivial, rfl, rfl⟩)
theorem ct_X0_write {c : Nat} {a t v q : Int32} (hfl : l.stackTraces = false) (hA : hs_inj A) (h32 : S.1 32 0 = nI c) (hc : c < 12) : hk_Ctr G l 1 yX0_write cX0_write 6 (some .int) 0 0 [.ref (A 5), .int a, .int t, .int v, .int q] (hs_ov A (S) h) (cx_Q A h (True) (some (.int (nI c))) (cs_write S c a t v q)) (cx_X A h (S) ((fun _ => False))) := by
  refine hk_enter (by decide) hfl (Nat.le_of_ble_eq_true rfl) rfl ?_
  refine hk_aload_n dX0_write_0 rfl rfl rfl ?_
  refine cx_getf hA (by decide) rfl dX0_write_1 rfl fl_X0_33 rfl ?_
  refine cx_top h32 ?_
  refine hk_bipush (v := nI 12) dX0_write_4 rfl (by decide) ?_
  refine cx_icmp_lt (tgt := 11) (by omega) (by omega) dX0_write_6 (by decide) rfl (fun z6 => ?_) (fun z6 => ?_)
  · skip
    refine hk_aload_n dX0_write_11 rfl rfl rfl ?_
    refine cx_getf hA (by decide) rfl dX0_write_12 rfl fl_X0_33 rfl ?_
    refine cx_top h32 ?_
    refine hk_istore dX0_write_15 rfl (by decide) rfl ?_
    refine hk_aload_n dX0_write_17 rfl rfl rfl ?_
    refine hk_dup dX0_write_18 rfl rfl ?_
    refine cx_getf hA (by decide) rfl dX0_write_19 rfl fl_X0_33 rfl ?_
    refine cx_top h32 ?_
    refine hk_iconst (v := nI 1) dX0_write_22 rfl (by decide) ?_
    refine hk_iadd dX0_write_23 rfl ?_
    refine cx_top (nI_add _ _) ?_
    refine cx_putf hA (by decide) rfl dX0_write_24 rfl (fw_X0_33 rfl) rfl rfl (Nat.lt_of_lt_of_eq (by decide : 7 < 9) rfl) hs_sc32 ?_
    refine hk_aload_n dX0_write_27 rfl rfl rfl ?_
    refine cx_getf hA (by decide) rfl dX0_write_28 rfl fl_X0_9 rfl ?_
    refine hk_iload dX0_write_31 rfl rfl ?_
    refine hk_iload_n dX0_write_33 rfl rfl rfl ?_
    refine cx_iast hA dX0_write_34 rfl rfl (by decide) (show _ < 12 by omega) ?_
    refine hk_aload_n dX0_write_35 rfl rfl rfl ?_
    refine cx_getf hA (by decide) rfl dX0_write_36 rfl fl_X0_15 rfl ?_
    refine hk_iload dX0_write_39 rfl rfl ?_
    refine hk_iload_n dX0_write_41 rfl rfl rfl ?_
    refine cx_iast hA dX0_write_42 rfl rfl (by decide) (show _ < 12 by omega) ?_
    refine hk_aload_n dX0_write_43 rfl rfl rfl ?_
    refine cx_getf hA (by decide) rfl dX0_write_44 rfl fl_X0_18 rfl ?_
    refine hk_iload dX0_write_47 rfl rfl ?_
    refine hk_iload_n dX0_write_49 rfl rfl rfl ?_
    refine cx_iast hA dX0_write_50 rfl rfl (by decide) (show _ < 12 by omega) ?_
    refine hk_aload_n dX0_write_51 rfl rfl rfl ?_
    refine cx_getf hA (by decide) rfl dX0_write_52 rfl fl_X0_21 rfl ?_
    refine hk_iload dX0_write_55 rfl rfl ?_
    refine hk_aload_n dX0_write_57 rfl rfl rfl ?_
    refine cx_getf hA (by decide) rfl dX0_write_58 rfl fl_X0_37 rfl ?_
    refine hk_iload dX0_write_61 rfl rfl ?_
    refine hk_iadd dX0_write_63 rfl ?_
    refine cx_iast hA dX0_write_64 rfl rfl (by decide) (show _ < 12 by omega) ?_
    refine hk_aload_n dX0_write_65 rfl rfl rfl ?_
    refine cx_getf hA (by decide) rfl dX0_write_66 rfl fl_X0_24 rfl ?_
    refine hk_iload dX0_write_69 rfl rfl ?_
    refine hk_iload_n dX0_write_71 rfl rfl rfl ?_
    refine cx_iast hA dX0_write_72 rfl rfl (by decide) (show _ < 12 by omega) ?_
    refine hk_iload dX0_write_73 rfl rfl ?_
    exact hk_ireturn rfl (rfl) dX0_write_75 (⟨trivial, rfl, rfl⟩)
  · exact absurd hc (by omega)
theorem ct_X0_passOn {j e : Nat} {t : Int32} (hfl : l.stackTraces = false) (hA : hs_inj A) (hj : j < 12) (he : S.1 26 j = nI e) (he5 : e < 5) : hk_Ctr G l 1 yX0_passOn cX0_passOn 4 none 0 0 [.ref (A 5), .int (nI j), .int t] (hs_ov A (S) h) (cx_Q A h (True) (none) (cs_pass S j e t)) (cx_X A h (S) ((fun _ => False))) := by
  refine hk_enter (by decide) hfl (Nat.le_of_ble_eq_true rfl) rfl ?_
  refine hk_aload_n dX0_passOn_0 rfl rfl rfl ?_
  refine cx_getf hA (by decide) rfl dX0_passOn_1 rfl fl_X0_30 rfl ?_
  refine hk_iload_n dX0_passOn_4 rfl rfl rfl ?_
  refine cx_iald hA dX0_passOn_5 rfl rfl (by decide) (show _ < 12 by omega) ?_
  refine cx_top he ?_
  refine hk_istore_n dX0_passOn_6 rfl rfl (by decide) rfl ?_
  refine hk_iload_n dX0_passOn_7 rfl rfl rfl ?_
  refine hk_iconst (v := nI 5) dX0_passOn_8 rfl (by decide) ?_
  refine cx_icmp_lt (tgt := 13) (by omega) (by omega) dX0_passOn_9 (by decide) rfl (fun z9 => ?_) (fun z9 => ?_)
  · skip
    refine hk_aload_n dX0_passOn_13 rfl rfl rfl ?_
    refine cx_getf hA (by decide) rfl dX0_passOn_14 rfl fl_X0_27 rfl ?_
    refine hk_iload_n dX0_passOn_17 rfl rfl rfl ?_
    refine hk_iconst (v := nI 5) dX0_passOn_18 rfl (by decide) ?_
    refine hk_imul dX0_passOn_19 rfl ?_
    refine cx_top (cx_nmul _ _) ?_
    refine hk_iload_n dX0_passOn_20 rfl rfl rfl ?_
    refine hk_iadd dX0_passOn_21 rfl ?_
    refine cx_top (nI_add _ _) ?_
    refine hk_aload_n dX0_passOn_22 rfl rfl rfl ?_
    refine cx_getf hA (by decide) rfl dX0_passOn_23 rfl fl_X0_24 rfl ?_
    refine hk_iload_n dX0_passOn_26 rfl rfl rfl ?_
    refine cx_iald hA dX0_passOn_27 rfl rfl (by decide) (show _ < 12 by omega) ?_
    refine cx_iast hA dX0_passOn_28 rfl rfl (by decide) (show _ < 60 by omega) ?_
    refine hk_aload_n dX0_passOn_29 rfl rfl rfl ?_
    refine cx_getf hA (by decide) rfl dX0_passOn_30 rfl fl_X0_30 rfl ?_
    refine hk_iload_n dX0_passOn_33 rfl rfl rfl ?_
    refine hk_dup2 dX0_passOn_34 rfl rfl rfl ?_
    refine cx_iald hA dX0_passOn_35 rfl rfl (by decide) (show _ < 12 by omega) ?_
    refine hk_iconst (v := nI 1) dX0_passOn_36 rfl (by decide) ?_
    refine hk_iadd dX0_passOn_37 rfl ?_
    refine cx_iast hA dX0_passOn_38 rfl rfl (by decide) (show _ < 12 by omega) ?_
    refine hk_aload_n dX0_passOn_39 rfl rfl rfl ?_
    refine cx_getf hA (by decide) rfl dX0_passOn_40 rfl fl_X0_24 rfl ?_
    refine hk_iload_n dX0_passOn_43 rfl rfl rfl ?_
    refine hk_iload_n dX0_passOn_44 rfl rfl rfl ?_
    refine cx_iast hA dX0_passOn_45 rfl rfl (by decide) (show _ < 12 by omega) ?_
    exact hk_vreturn rfl dX0_passOn_46 (⟨trivial, rfl, rfl⟩)
  · exact absurd he5 (by omega)
theorem ct_X0_end {j : Nat} (hfl : l.stackTraces = false) (hA : hs_inj A) (hj : j < 12) : hk_Ctr G l 1 yX0_end cX0_end 2 none 0 0 [.ref (A 5), .int (nI j)] (hs_ov A (S) h) (cx_Q A h (True) (none) (hs_su S 24 j (-1))) (cx_X A h (S) ((fun _ => False))) := by
  refine hk_enter (by decide) hfl (Nat.le_of_ble_eq_true rfl) rfl ?_
  refine hk_aload_n dX0_end_0 rfl rfl rfl ?_
  refine cx_getf hA (by decide) rfl dX0_end_1 rfl fl_X0_24 rfl ?_
  refine hk_iload_n dX0_end_4 rfl rfl rfl ?_
  refine hk_iconst (v := -1) dX0_end_5 rfl (by decide) ?_
  refine cx_iast hA dX0_end_6 rfl rfl (by decide) (show _ < 12 by omega) ?_
  exact hk_vreturn rfl dX0_end_7 (⟨trivial, rfl, rfl⟩)
theorem ct_X0_beginDay  (hfl : l.stackTraces = false) (hA : hs_inj A) : hk_Ctr G l 1 yX0_beginDay cX0_beginDay 1 none 0 0 [.ref (A 5)] (hs_ov A (S) h) (cx_Q A h (True) (none) (hs_su S 33 0 (S.1 33 0 + nI 1))) (cx_X A h (S) ((fun _ => False))) := by
  refine hk_enter (by decide) hfl (Nat.le_of_ble_eq_true rfl) rfl ?_
  refine hk_aload_n dX0_beginDay_0 rfl rfl rfl ?_
  refine hk_dup dX0_beginDay_1 rfl rfl ?_
  refine cx_getf hA (by decide) rfl dX0_beginDay_2 rfl fl_X0_37 rfl ?_
  refine hk_iconst (v := nI 1) dX0_beginDay_5 rfl (by decide) ?_
  refine hk_iadd dX0_beginDay_6 rfl ?_
  refine cx_putf hA (by decide) rfl dX0_beginDay_7 rfl (fw_X0_37 rfl) rfl rfl (Nat.lt_of_lt_of_eq (by decide : 8 < 9) rfl) hs_sc33 ?_
  exact hk_vreturn rfl dX0_beginDay_10 (⟨trivial, rfl, rfl⟩)
theorem ct_X0_isDueToday {j : Nat} (hfl : l.stackTraces = false) (hA : hs_inj A) (hj : j < 12) : hk_Ctr G l 1 yX0_isDueToday cX0_isDueToday 2 (some .boolean) 0 0 [.ref (A 5), .int (nI j)] (hs_ov A (S) h) (cx_Q A h (True) (some (.int (cx_b (cs_due S j)))) (S)) (cx_X A h (S) ((fun _ => False))) := by
  refine hk_enter (by decide) hfl (Nat.le_of_ble_eq_true rfl) rfl ?_
  refine hk_aload_n dX0_isDueToday_0 rfl rfl rfl ?_
  refine cx_getf hA (by decide) rfl dX0_isDueToday_1 rfl fl_X0_21 rfl ?_
  refine hk_iload_n dX0_isDueToday_4 rfl rfl rfl ?_
  refine cx_iald hA dX0_isDueToday_5 rfl rfl (by decide) (show _ < 12 by omega) ?_
  refine hk_aload_n dX0_isDueToday_6 rfl rfl rfl ?_
  refine cx_getf hA (by decide) rfl dX0_isDueToday_7 rfl fl_X0_37 rfl ?_
  refine hk_icmp_ne (tgt := 17) dX0_isDueToday_10 (by decide) rfl (fun z10 => ?_) (fun z10 => ?_)
  · skip
    refine hk_iconst (v := nI 0) dX0_isDueToday_17 rfl (by decide) ?_
    exact hk_ireturn rfl (rfl) dX0_isDueToday_18 (⟨trivial, by unfold cs_due; first | (rw [if_pos z10]; rfl) | (rw [if_neg z10]; rfl), rfl⟩)
  · skip
    refine hk_iconst (v := nI 1) dX0_isDueToday_13 rfl (by decide) ?_
    refine hk_goto (tgt := 18) dX0_isDueToday_14 (by decide) ?_
    exact hk_ireturn rfl (rfl) dX0_isDueToday_18 (⟨trivial, by unfold cs_due; first | (rw [if_pos z10]; rfl) | (rw [if_neg z10]; rfl), rfl⟩)
theorem ct_X0_holder {j : Nat} (hfl : l.stackTraces = false) (hA : hs_inj A) (hj : j < 12) : hk_Ctr G l 1 yX0_holder cX0_holder 2 (some .int) 0 0 [.ref (A 5), .int (nI j)] (hs_ov A (S) h) (cx_Q A h (True) (some (.int (S.1 24 j))) (S)) (cx_X A h (S) ((fun _ => False))) := by
  refine hk_enter (by decide) hfl (Nat.le_of_ble_eq_true rfl) rfl ?_
  refine hk_aload_n dX0_holder_0 rfl rfl rfl ?_
  refine cx_getf hA (by decide) rfl dX0_holder_1 rfl fl_X0_24 rfl ?_
  refine hk_iload_n dX0_holder_4 rfl rfl rfl ?_
  refine cx_iald hA dX0_holder_5 rfl rfl (by decide) (show _ < 12 by omega) ?_
  exact hk_ireturn rfl (rfl) dX0_holder_6 (⟨trivial, rfl, rfl⟩)
theorem ct_X0_amount {j : Nat} (hfl : l.stackTraces = false) (hA : hs_inj A) (hj : j < 12) : hk_Ctr G l 1 yX0_amount cX0_amount 2 (some .int) 0 0 [.ref (A 5), .int (nI j)] (hs_ov A (S) h) (cx_Q A h (True) (some (.int (S.1 22 j))) (S)) (cx_X A h (S) ((fun _ => False))) := by
  refine hk_enter (by decide) hfl (Nat.le_of_ble_eq_true rfl) rfl ?_
  refine hk_aload_n dX0_amount_0 rfl rfl rfl ?_
  refine cx_getf hA (by decide) rfl dX0_amount_1 rfl fl_X0_18 rfl ?_
  refine hk_iload_n dX0_amount_4 rfl rfl rfl ?_
  refine cx_iald hA dX0_amount_5 rfl rfl (by decide) (show _ < 12 by omega) ?_
  exact hk_ireturn rfl (rfl) dX0_amount_6 (⟨trivial, rfl, rfl⟩)
theorem ct_X0_endorsements {j : Nat} (hfl : l.stackTraces = false) (hA : hs_inj A) (hj : j < 12) : hk_Ctr G l 1 yX0_endorsements cX0_endorsements 2 (some .int) 0 0 [.ref (A 5), .int (nI j)] (hs_ov A (S) h) (cx_Q A h (True) (some (.int (S.1 26 j))) (S)) (cx_X A h (S) ((fun _ => False))) := by
  refine hk_enter (by decide) hfl (Nat.le_of_ble_eq_true rfl) rfl ?_
  refine hk_aload_n dX0_endorsements_0 rfl rfl rfl ?_
  refine cx_getf hA (by decide) rfl dX0_endorsements_1 rfl fl_X0_30 rfl ?_
  refine hk_iload_n dX0_endorsements_4 rfl rfl rfl ?_
  refine cx_iald hA dX0_endorsements_5 rfl rfl (by decide) (show _ < 12 by omega) ?_
  exact hk_ireturn rfl (rfl) dX0_endorsements_6 (⟨trivial, rfl, rfl⟩)
theorem ct_X0_liableCount {j e : Nat} (hfl : l.stackTraces = false) (hA : hs_inj A) (hj : j < 12) (he : S.1 26 j = nI e) : hk_Ctr G l 1 yX0_liableCount cX0_liableCount 2 (some .int) 0 0 [.ref (A 5), .int (nI j)] (hs_ov A (S) h) (cx_Q A h (True) (some (.int (nI (2 + e)))) (S)) (cx_X A h (S) ((fun _ => False))) := by
  refine hk_enter (by decide) hfl (Nat.le_of_ble_eq_true rfl) rfl ?_
  refine hk_iconst (v := nI 2) dX0_liableCount_0 rfl (by decide) ?_
  refine hk_aload_n dX0_liableCount_1 rfl rfl rfl ?_
  refine cx_getf hA (by decide) rfl dX0_liableCount_2 rfl fl_X0_30 rfl ?_
  refine hk_iload_n dX0_liableCount_5 rfl rfl rfl ?_
  refine cx_iald hA dX0_liableCount_6 rfl rfl (by decide) (show _ < 12 by omega) ?_
  refine cx_top he ?_
  refine hk_iadd dX0_liableCount_7 rfl ?_
  refine cx_top (nI_add _ _) ?_
  exact hk_ireturn rfl (rfl) dX0_liableCount_8 (⟨trivial, rfl, rfl⟩)
theorem ct_X0_liable {j e q : Nat} (hfl : l.stackTraces = false) (hA : hs_inj A) (hj : j < 12) (he : S.1 26 j = nI e) (he5 : e ≤ 5) (hq : q < 2 + e) : hk_Ctr G l 1 yX0_liable cX0_liable 3 (some .int) 0 0 [.ref (A 5), .int (nI j), .int (nI q)] (hs_ov A (S) h) (cx_Q A h (True) (some (.int (cs_liab S j e q))) (S)) (cx_X A h (S) ((fun _ => False))) := by
  refine hk_enter (by decide) hfl (Nat.le_of_ble_eq_true rfl) rfl ?_
  refine hk_iload_n dX0_liable_0 rfl rfl rfl ?_
  refine cx_ifn_ne (tgt := 11) (by omega) dX0_liable_1 (by decide) rfl (fun z1 => ?_) (fun z1 => ?_)
  · skip
    refine hk_iload_n dX0_liable_11 rfl rfl rfl ?_
    refine hk_iconst (v := nI 1) dX0_liable_12 rfl (by decide) ?_
    refine cx_icmp_ne (tgt := 23) (by omega) (by omega) dX0_liable_13 (by decide) rfl (fun z13 => ?_) (fun z13 => ?_)
    · skip
      refine hk_aload_n dX0_liable_23 rfl rfl rfl ?_
      refine cx_getf hA (by decide) rfl dX0_liable_24 rfl fl_X0_27 rfl ?_
      refine hk_iload_n dX0_liable_27 rfl rfl rfl ?_
      refine hk_iconst (v := nI 5) dX0_liable_28 rfl (by decide) ?_
      refine hk_imul dX0_liable_29 rfl ?_
      refine cx_top (cx_nmul _ _) ?_
      refine hk_aload_n dX0_liable_30 rfl rfl rfl ?_
      refine cx_getf hA (by decide) rfl dX0_liable_31 rfl fl_X0_30 rfl ?_
      refine hk_iload_n dX0_liable_34 rfl rfl rfl ?_
      refine cx_iald hA dX0_liable_35 rfl rfl (by decide) (show _ < 12 by omega) ?_
      refine cx_top he ?_
      refine hk_iadd dX0_liable_36 rfl ?_
      refine cx_top (nI_add _ _) ?_
      refine hk_iconst (v := nI 1) dX0_liable_37 rfl (by decide) ?_
      refine hk_iadd dX0_liable_38 rfl ?_
      refine cx_top (nI_add _ _) ?_
      refine hk_iload_n dX0_liable_39 rfl rfl rfl ?_
      refine hk_isub dX0_liable_40 rfl ?_
      refine cx_top (cx_nsub (by omega)) ?_
      refine cx_iald hA dX0_liable_41 rfl rfl (by decide) (show _ < 60 by omega) ?_
      exact hk_ireturn rfl (rfl) dX0_liable_42 (⟨trivial, by unfold cs_liab; first | (rw [if_pos z1]; done) | (rw [if_neg z1, if_pos z13]; done) | (rw [if_neg z1, if_neg z13]; done), rfl⟩)
    · skip
      refine hk_aload_n dX0_liable_16 rfl rfl rfl ?_
      refine cx_getf hA (by decide) rfl dX0_liable_17 rfl fl_X0_9 rfl ?_
      refine hk_iload_n dX0_liable_20 rfl rfl rfl ?_
      refine cx_iald hA dX0_liable_21 rfl rfl (by decide) (show _ < 12 by omega) ?_
      exact hk_ireturn rfl (rfl) dX0_liable_22 (⟨trivial, by unfold cs_liab; first | (rw [if_pos z1]; done) | (rw [if_neg z1, if_pos z13]; done) | (rw [if_neg z1, if_neg z13]; done), rfl⟩)
  · skip
    refine hk_aload_n dX0_liable_4 rfl rfl rfl ?_
    refine cx_getf hA (by decide) rfl dX0_liable_5 rfl fl_X0_15 rfl ?_
    refine hk_iload_n dX0_liable_8 rfl rfl rfl ?_
    refine cx_iald hA dX0_liable_9 rfl rfl (by decide) (show _ < 12 by omega) ?_
    exact hk_ireturn rfl (rfl) dX0_liable_10 (⟨trivial, by unfold cs_liab; first | (rw [if_pos z1]; done) | (rw [if_neg z1, if_pos z13]; done) | (rw [if_neg z1, if_neg z13]; done), rfl⟩)
theorem ct_X5_value {v a : Nat} (hfl : l.stackTraces = false) (hA : hs_inj A) (hv : v < 4) (ha : a < 6) : hk_Ctr G l 1 yX5_value cX5_value 3 (some .int) 0 0 [.ref (A 6), .int (nI v), .int (nI a)] (hs_ov A (S) h) (cx_Q A h (True) (some (.int (S.1 27 (v * 6 + a)))) (S)) (cx_X A h (S) ((fun _ => False))) := by
  refine hk_enter (by decide) hfl (Nat.le_of_ble_eq_true rfl) rfl ?_
  refine hk_aload_n dX5_value_0 rfl rfl rfl ?_
  refine cx_getf hA (by decide) rfl dX5_value_1 rfl fl_X5_9 rfl ?_
  refine hk_iload_n dX5_value_4 rfl rfl rfl ?_
  refine hk_bipush (v := nI 6) dX5_value_5 rfl (by decide) ?_
  refine hk_imul dX5_value_7 rfl ?_
  refine cx_top (cx_nmul _ _) ?_
  refine hk_iload_n dX5_value_8 rfl rfl rfl ?_
  refine hk_iadd dX5_value_9 rfl ?_
  refine cx_top (nI_add _ _) ?_
  refine cx_iald hA dX5_value_10 rfl rfl (by decide) (show _ < 24 by omega) ?_
  exact hk_ireturn rfl (rfl) dX5_value_11 (⟨trivial, rfl, rfl⟩)
theorem ct_X5_addValue {v a : Nat} {q : Int32} (hfl : l.stackTraces = false) (hA : hs_inj A) (hv : v < 4) (ha : a < 6) : hk_Ctr G l 1 yX5_addValue cX5_addValue 4 none 0 0 [.ref (A 6), .int (nI v), .int (nI a), .int q] (hs_ov A (S) h) (cx_Q A h (True) (none) (hs_su S 27 (v * 6 + a) (S.1 27 (v * 6 + a) + q))) (cx_X A h (S) ((fun _ => False))) := by
  refine hk_enter (by decide) hfl (Nat.le_of_ble_eq_true rfl) rfl ?_
  refine hk_aload_n dX5_addValue_0 rfl rfl rfl ?_
  refine cx_getf hA (by decide) rfl dX5_addValue_1 rfl fl_X5_9 rfl ?_
  refine hk_iload_n dX5_addValue_4 rfl rfl rfl ?_
  refine hk_bipush (v := nI 6) dX5_addValue_5 rfl (by decide) ?_
  refine hk_imul dX5_addValue_7 rfl ?_
  refine cx_top (cx_nmul _ _) ?_
  refine hk_iload_n dX5_addValue_8 rfl rfl rfl ?_
  refine hk_iadd dX5_addValue_9 rfl ?_
  refine cx_top (nI_add _ _) ?_
  refine hk_dup2 dX5_addValue_10 rfl rfl rfl ?_
  refine cx_iald hA dX5_addValue_11 rfl rfl (by decide) (show _ < 24 by omega) ?_
  refine hk_iload_n dX5_addValue_12 rfl rfl rfl ?_
  refine hk_iadd dX5_addValue_13 rfl ?_
  refine cx_iast hA dX5_addValue_14 rfl rfl (by decide) (show _ < 24 by omega) ?_
  exact hk_vreturn rfl dX5_addValue_15 (⟨trivial, rfl, rfl⟩)
theorem ct_X5_borne {a : Nat} (hfl : l.stackTraces = false) (hA : hs_inj A) (ha : a < 6) : hk_Ctr G l 1 yX5_borne cX5_borne 2 (some .int) 0 0 [.ref (A 6), .int (nI a)] (hs_ov A (S) h) (cx_Q A h (True) (some (.int (S.1 28 a))) (S)) (cx_X A h (S) ((fun _ => False))) := by
  refine hk_enter (by decide) hfl (Nat.le_of_ble_eq_true rfl) rfl ?_
  refine hk_aload_n dX5_borne_0 rfl rfl rfl ?_
  refine cx_getf hA (by decide) rfl dX5_borne_1 rfl fl_X5_15 rfl ?_
  refine hk_iload_n dX5_borne_4 rfl rfl rfl ?_
  refine cx_iald hA dX5_borne_5 rfl rfl (by decide) (show _ < 6 by omega) ?_
  exact hk_ireturn rfl (rfl) dX5_borne_6 (⟨trivial, rfl, rfl⟩)
theorem ct_X5_valueOfAll {v : Nat} (hfl : l.stackTraces = false) (hA : hs_inj A) (hv : v < 4) : hk_Ctr G l 2 yX5_valueOfAll cX5_valueOfAll 4 (some .int) 0 0 [.ref (A 6), .int (nI v)] (hs_ov A (S) h) (cx_Q A h (True) (some (.int (cs_va S v 6))) (S)) (cx_X A h (S) ((fun _ => False))) := by
  refine hk_enter (by decide) hfl (Nat.le_of_ble_eq_true rfl) rfl ?_
  refine hk_iconst (v := nI 0) dX5_valueOfAll_0 rfl (by decide) ?_
  refine hk_istore_n dX5_valueOfAll_1 rfl rfl (by decide) rfl ?_
  refine hk_iconst (v := nI 0) dX5_valueOfAll_2 rfl (by decide) ?_
  refine hk_istore_n dX5_valueOfAll_3 rfl rfl (by decide) rfl ?_
  have lp4 : ∀ f j : Nat, j ≤ 6 → 6 - j < f → hk_W G l 2 yX5_valueOfAll cX5_valueOfAll 4 (some .int) [] (cx_Q A h (True) (some (.int (cs_va S v 6))) (S)) (cx_X A h (S) ((fun _ => False))) 0 0 (hs_ov A (S) h) 4 [some (.ref (A 6)), some (.int (nI v)), some (.int (cs_va S v j)), some (.int (nI j))] [] := by
    intro f
    induction f with
    | zero => intro j hj hf; exact absurd hf (by omega)
    | succ f ih =>
      intro j hj hf
      refine hk_iload_n dX5_valueOfAll_4 rfl rfl rfl ?_
      refine hk_bipush (v := nI 6) dX5_valueOfAll_5 rfl (by decide) ?_
      refine cx_icmp_ge (tgt := 25) (by omega) (by omega) dX5_valueOfAll_7 (by decide) rfl (fun z7 => ?_) (fun z7 => ?_)
      · skip
        refine hk_iload_n dX5_valueOfAll_25 rfl rfl rfl ?_
        exact hk_ireturn rfl (rfl) dX5_valueOfAll_26 (by have e : j = 6 := (by omega); subst e; exact ⟨trivial, rfl, rfl⟩)
      · skip
        refine hk_iload_n dX5_valueOfAll_10 rfl rfl rfl ?_
        refine hk_aload_n dX5_valueOfAll_11 rfl rfl rfl ?_
        refine hk_iload_n dX5_valueOfAll_12 rfl rfl rfl ?_
        refine hk_iload_n dX5_valueOfAll_13 rfl rfl rfl ?_
        refine cx_calli hA (by decide) rfl rfl rfl dX5_valueOfAll_14 rfl mv_X5_25 (ct_X5_value hfl hA (by omega) (by omega)) rfl rfl (by decide) (by decide) (Nat.le_of_ble_eq_true rfl) (fun c14 => ?_) (fun E c => c.elim)
        refine hk_iadd dX5_valueOfAll_17 rfl ?_
        refine hk_istore_n dX5_valueOfAll_18 rfl rfl (by decide) rfl ?_
        refine hk_iinc dX5_valueOfAll_19 rfl rfl (nI_1 _) (by decide) rfl ?_
        refine hk_goto (tgt := 4) dX5_valueOfAll_22 (by decide) ?_
        exact cx_cg rfl rfl (ih (j + 1) (by omega) (by omega))
  exact lp4 (6 + 1) 0 (by omega) (by omega)
theorem ct_X5_greatestRemainder  (hfl : l.stackTraces = false) (hA : hs_inj A) : hk_Ctr G l 1 yX5_greatestRemainder cX5_greatestRemainder 3 (some .int) 0 0 [.ref (A 6)] (hs_ov A (S) h) (cx_Q A h (True) (some (.int (nI (cs_gr S 5)))) (S)) (cx_X A h (S) ((fun _ => False))) := by
  refine hk_enter (by decide) hfl (Nat.le_of_ble_eq_true rfl) rfl ?_
  refine hk_iconst (v := nI 0) dX5_greatestRemainder_0 rfl (by decide) ?_
  refine hk_istore_n dX5_greatestRemainder_1 rfl rfl (by decide) rfl ?_
  refine hk_iconst (v := nI 1) dX5_greatestRemainder_2 rfl (by decide) ?_
  refine hk_istore_n dX5_greatestRemainder_3 rfl rfl (by decide) rfl ?_
  have lp4 : ∀ f j : Nat, j ≤ 5 → 5 - j < f → hk_W G l 1 yX5_greatestRemainder cX5_greatestRemainder 3 (some .int) [] (cx_Q A h (True) (some (.int (nI (cs_gr S 5)))) (S)) (cx_X A h (S) ((fun _ => False))) 0 0 (hs_ov A (S) h) 4 [some (.ref (A 6)), some (.int (nI (cs_gr S j))), some (.int (nI (j + 1)))] [] := by
    intro f
    induction f with
    | zero => intro j hj hf; exact absurd hf (by omega)
    | succ f ih =>
      intro j hj hf
      have hg := cs_gr_le S j
      refine hk_iload_n dX5_greatestRemainder_4 rfl rfl rfl ?_
      refine hk_bipush (v := nI 6) dX5_greatestRemainder_5 rfl (by decide) ?_
      refine cx_icmp_ge (tgt := 33) (by omega) (by omega) dX5_greatestRemainder_7 (by decide) rfl (fun z7 => ?_) (fun z7 => ?_)
      · skip
        refine hk_iload_n dX5_greatestRemainder_33 rfl rfl rfl ?_
        exact hk_ireturn rfl (rfl) dX5_greatestRemainder_34 (by have e : j = 5 := (by omega); subst e; exact ⟨trivial, rfl, rfl⟩)
      · skip
        refine hk_aload_n dX5_greatestRemainder_10 rfl rfl rfl ?_
        refine cx_getf hA (by decide) rfl dX5_greatestRemainder_11 rfl fl_X5_18 rfl ?_
        refine hk_iload_n dX5_greatestRemainder_14 rfl rfl rfl ?_
        refine cx_iald hA dX5_greatestRemainder_15 rfl rfl (by decide) (show _ < 6 by omega) ?_
        refine hk_aload_n dX5_greatestRemainder_16 rfl rfl rfl ?_
        refine cx_getf hA (by decide) rfl dX5_greatestRemainder_17 rfl fl_X5_18 rfl ?_
        refine hk_iload_n dX5_greatestRemainder_20 rfl rfl rfl ?_
        refine cx_iald hA dX5_greatestRemainder_21 rfl rfl (by decide) (show _ < 6 by omega) ?_
        refine hk_icmp_le (tgt := 27) dX5_greatestRemainder_22 (by decide) rfl (fun z22 => ?_) (fun z22 => ?_)
        · skip
          refine hk_iinc dX5_greatestRemainder_27 rfl rfl (nI_1 _) (by decide) rfl ?_
          refine hk_goto (tgt := 4) dX5_greatestRemainder_30 (by decide) ?_
          exact cx_cg rfl (by first | (rw [cs_gr_s, if_pos z22]; rfl) | (rw [cs_gr_s, if_neg z22]; rfl)) (ih (j + 1) (by omega) (by omega))
        · skip
          refine hk_iload_n dX5_greatestRemainder_25 rfl rfl rfl ?_
          refine hk_istore_n dX5_greatestRemainder_26 rfl rfl (by decide) rfl ?_
          refine hk_iinc dX5_greatestRemainder_27 rfl rfl (nI_1 _) (by decide) rfl ?_
          refine hk_goto (tgt := 4) dX5_greatestRemainder_30 (by decide) ?_
          exact cx_cg rfl (by first | (rw [cs_gr_s, if_pos z22]; rfl) | (rw [cs_gr_s, if_neg z22]; rfl)) (ih (j + 1) (by omega) (by omega))
  exact lp4 (5 + 1) 0 (by omega) (by omega)
theorem ct_X5_part {v L : Nat} {q : Int32} (hfl : l.stackTraces = false) (hA : hs_inj A) (hv : v < 4) (hz : ¬ cs_va S v 6 = 0) (hL : (cs_p1 v q (cs_va S v 6) S 6).2 = nI L) (hL6 : L ≤ 6) : hk_Ctr G l 3 yX5_part cX5_part 7 none 0 0 [.ref (A 6), .int (nI v), .int q] (hs_ov A (S) h) (cx_Q A h (True) (none) (cs_p2 (cs_p1 v q (cs_va S v 6) S 6).1 L)) (cx_X A h (S) ((fun _ => False))) := by
  refine hk_enter (by decide) hfl (Nat.le_of_ble_eq_true rfl) rfl ?_
  refine hk_aload_n dX5_part_0 rfl rfl rfl ?_
  refine hk_iload_n dX5_part_1 rfl rfl rfl ?_
  refine cx_calli hA (by decide) rfl rfl rfl dX5_part_2 rfl mv_X5_21 (ct_X5_valueOfAll hfl hA (by omega)) rfl rfl (by decide) (by decide) (Nat.le_of_ble_eq_true rfl) (fun c2 => ?_) (fun E c => c.elim)
  refine hk_istore_n dX5_part_5 rfl rfl (by decide) rfl ?_
  refine hk_iload_n dX5_part_6 rfl rfl rfl ?_
  refine hk_if_ne (tgt := 11) dX5_part_7 (by decide) rfl (fun z7 => ?_) (fun z7 => ?_)
  · skip
    refine hk_iload_n dX5_part_11 rfl rfl rfl ?_
    refine hk_istore dX5_part_12 rfl (by decide) rfl ?_
    refine hk_iconst (v := nI 0) dX5_part_14 rfl (by decide) ?_
    refine hk_istore dX5_part_15 rfl (by decide) rfl ?_
    have lp17 : ∀ f j : Nat, j ≤ 6 → 6 - j < f → hk_W G l 3 yX5_part cX5_part 7 none [] (cx_Q A h (True) (none) (cs_p2 (cs_p1 v q (cs_va S v 6) S 6).1 L)) (cx_X A h (S) ((fun _ => False))) 0 0 (hs_ov A ((cs_p1 v q (cs_va S v 6) S j).1) h) 17 [some (.ref (A 6)), some (.int (nI v)), some (.int q), some (.int (cs_va S v 6)), some (.int (cs_p1 v q (cs_va S v 6) S j).2), some (.int (nI j)), none] [] := by
      intro f
      induction f with
      | zero => intro j hj hf; exact absurd hf (by omega)
      | succ f ih =>
        intro j hj hf
        refine hk_iload dX5_part_17 rfl rfl ?_
        refine hk_bipush (v := nI 6) dX5_part_19 rfl (by decide) ?_
        refine cx_icmp_ge (tgt := 75) (by omega) (by omega) dX5_part_21 (by decide) rfl (fun z21 => ?_) (fun z21 => ?_)
        · skip
          have e6 : j = 6 := by omega
          subst e6
          refine hk_iconst (v := nI 0) dX5_part_75 rfl (by decide) ?_
          refine hk_istore dX5_part_76 rfl (by decide) rfl ?_
          have lp78 : ∀ f j : Nat, j ≤ L → L - j < f → hk_W G l 3 yX5_part cX5_part 7 none [] (cx_Q A h (True) (none) (cs_p2 (cs_p1 v q (cs_va S v 6) S 6).1 L)) (cx_X A h (S) ((fun _ => False))) 0 0 (hs_ov A (cs_p2 (cs_p1 v q (cs_va S v 6) S 6).1 j) h) 78 [some (.ref (A 6)), some (.int (nI v)), some (.int q), some (.int (cs_va S v 6)), some (.int (nI L)), some (.int (nI j)), none] [] := by
            intro f
            induction f with
            | zero => intro j hj hf; exact absurd hf (by omega)
            | succ f ih =>
              intro j hj hf
              refine hk_iload dX5_part_78 rfl rfl ?_
              refine hk_iload dX5_part_80 rfl rfl ?_
              refine cx_icmp_ge (tgt := 123) (by omega) (by omega) dX5_part_82 (by decide) rfl (fun z82 => ?_) (fun z82 => ?_)
              · skip
                exact hk_vreturn rfl dX5_part_123 (by have e : j = L := (by omega); subst e; exact ⟨trivial, rfl, rfl⟩)
              · skip
                refine hk_iload dX5_part_85 rfl rfl ?_
                refine hk_bipush (v := nI 6) dX5_part_87 rfl (by decide) ?_
                refine cx_icmp_ge (tgt := 123) (by omega) (by omega) dX5_part_89 (by decide) rfl (fun z89 => ?_) (fun z89 => ?_)
                · exact absurd hL6 (by omega)
                · skip
                  refine hk_aload_n dX5_part_92 rfl rfl rfl ?_
                  refine cx_calli hA (by decide) rfl rfl rfl dX5_part_93 rfl mv_X5_29 (ct_X5_greatestRemainder hfl hA) rfl rfl (by decide) (by decide) (Nat.le_of_ble_eq_true rfl) (fun c93 => ?_) (fun E c => c.elim)
                  have hg := cs_gr_le (cs_p2 (cs_p1 v q (cs_va S v 6) S 6).1 j) 5
                  refine hk_istore dX5_part_96 rfl (by decide) rfl ?_
                  refine hk_aload_n dX5_part_98 rfl rfl rfl ?_
                  refine cx_getf hA (by decide) rfl dX5_part_99 rfl fl_X5_15 rfl ?_
                  refine hk_iload dX5_part_102 rfl rfl ?_
                  refine hk_dup2 dX5_part_104 rfl rfl rfl ?_
                  refine cx_iald hA dX5_part_105 rfl rfl (by decide) (show _ < 6 by omega) ?_
                  refine hk_iconst (v := nI 1) dX5_part_106 rfl (by decide) ?_
                  refine hk_iadd dX5_part_107 rfl ?_
                  refine cx_iast hA dX5_part_108 rfl rfl (by decide) (show _ < 6 by omega) ?_
                  refine hk_aload_n dX5_part_109 rfl rfl rfl ?_
                  refine cx_getf hA (by decide) rfl dX5_part_110 rfl fl_X5_18 rfl ?_
                  refine hk_iload dX5_part_113 rfl rfl ?_
                  refine hk_iconst (v := -1) dX5_part_115 rfl (by decide) ?_
                  refine cx_iast hA dX5_part_116 rfl rfl (by decide) (show _ < 6 by omega) ?_
                  refine hk_iinc dX5_part_117 rfl rfl (nI_1 _) (by decide) rfl ?_
                  refine hk_goto (tgt := 78) dX5_part_120 (by decide) ?_
                  refine cx_fg 6 ?_
                  exact cx_cg rfl rfl (ih (j + 1) (by omega) (by omega))
          exact cx_cg rfl (by rw [hL]; rfl) (lp78 (L + 1) 0 (by omega) (by omega))
        · skip
          refine hk_iload_n dX5_part_24 rfl rfl rfl ?_
          refine hk_aload_n dX5_part_25 rfl rfl rfl ?_
          refine hk_iload_n dX5_part_26 rfl rfl rfl ?_
          refine hk_iload dX5_part_27 rfl rfl ?_
          refine cx_calli hA (by decide) rfl rfl rfl dX5_part_29 rfl mv_X5_25 (ct_X5_value hfl hA (by omega) (by omega)) rfl rfl (by decide) (by decide) (Nat.le_of_ble_eq_true rfl) (fun c29 => ?_) (fun E c => c.elim)
          refine hk_imul dX5_part_32 rfl ?_
          refine hk_istore dX5_part_33 rfl (by decide) rfl ?_
          refine hk_aload_n dX5_part_35 rfl rfl rfl ?_
          refine cx_getf hA (by decide) rfl dX5_part_36 rfl fl_X5_15 rfl ?_
          refine hk_iload dX5_part_39 rfl rfl ?_
          refine hk_iload dX5_part_41 rfl rfl ?_
          refine hk_iload_n dX5_part_43 rfl rfl rfl ?_
          refine hk_idiv dX5_part_44 rfl hz ?_
          refine cx_iast hA dX5_part_45 rfl rfl (by decide) (show _ < 6 by omega) ?_
          refine hk_aload_n dX5_part_46 rfl rfl rfl ?_
          refine cx_getf hA (by decide) rfl dX5_part_47 rfl fl_X5_18 rfl ?_
          refine hk_iload dX5_part_50 rfl rfl ?_
          refine hk_iload dX5_part_52 rfl rfl ?_
          refine hk_iload_n dX5_part_54 rfl rfl rfl ?_
          refine hk_irem dX5_part_55 rfl hz ?_
          refine cx_iast hA dX5_part_56 rfl rfl (by decide) (show _ < 6 by omega) ?_
          refine hk_iload dX5_part_57 rfl rfl ?_
          refine hk_aload_n dX5_part_59 rfl rfl rfl ?_
          refine cx_getf hA (by decide) rfl dX5_part_60 rfl fl_X5_15 rfl ?_
          refine hk_iload dX5_part_63 rfl rfl ?_
          refine cx_iald hA dX5_part_65 rfl rfl (by decide) (show _ < 6 by omega) ?_
          refine hk_isub dX5_part_66 rfl ?_
          refine hk_istore dX5_part_67 rfl (by decide) rfl ?_
          refine hk_iinc dX5_part_69 rfl rfl (nI_1 _) (by decide) rfl ?_
          refine hk_goto (tgt := 17) dX5_part_72 (by decide) ?_
          refine cx_fg 6 ?_
          exact cx_cg rfl rfl (ih (j + 1) (by omega) (by omega))
    exact lp17 (6 + 1) 0 (by omega) (by omega)
  · exact absurd z7 hz
end CXL

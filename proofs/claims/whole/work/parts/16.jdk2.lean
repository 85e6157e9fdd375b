section CK
variable {G : hk_G} {l : Launch} {h : hk_H}
theorem nI_half {n : Nat} (h : n < 2 ^ 31) : nI n >>> (nI 1 &&& 31) = nI (n / 2) := by
  have k := pk_shrN (n := n) h ((1 : Int32) &&& 31) 1 (by decide)
  rw [Nat.pow_one] at k
  exact k
theorem cx_max (a c : Nat) (ha : a < 2 ^ 31) (hc : c < 2 ^ 31) : (if nI a < nI c then nI c else nI a) = nI (max a c) := by
  by_cases e : a < c
  · rw [if_pos (nI_lt e hc), Nat.max_eq_right (by omega)]
  · rw [if_neg (nI_nlt (by omega) ha), Nat.max_eq_left (by omega)]
theorem cj_nl {o m p : Nat} (hfl : l.stackTraces = false) (ho : o ≤ 40000) (hm : m ≤ 40000) (hp : p ≤ 40000) (hm1 : 1 ≤ m) : hk_Ctr G l 2 yJ8_newLength_cabcc cJ8_newLength_cabcc 4 (some .int) 0 0 [.int (nI o), .int (nI m), .int (nI p)] h (hk_qi fun v h1 => v = nI (o + max m p) ∧ h1 = h) hk_no := by
  refine hk_enter (by decide) hfl (Nat.le_of_ble_eq_true rfl) rfl ?_
  have hmx : max m p ≤ 40000 := by omega
  have hmy : m ≤ max m p := Nat.le_max_left m p
  refine hk_iload_n dJ8_newLength_cabcc_0 rfl rfl rfl ?_
  refine hk_iload_n dJ8_newLength_cabcc_1 rfl rfl rfl ?_
  refine hk_iload_n dJ8_newLength_cabcc_2 rfl rfl rfl ?_
  refine cx_mmax dJ8_newLength_cabcc_3 rfl ms_J8_194 (by decide) (Nat.le_of_ble_eq_true rfl) ?_
  refine cx_top (cx_max m p (by omega) (by omega)) ?_
  refine hk_iadd dJ8_newLength_cabcc_6 rfl ?_
  refine cx_top (nI_add _ _) ?_
  refine hk_istore_n dJ8_newLength_cabcc_7 rfl rfl (by decide) rfl ?_
  refine hk_iconst (v := nI 0) dJ8_newLength_cabcc_8 rfl (by decide) ?_
  refine hk_iload_n dJ8_newLength_cabcc_9 rfl rfl rfl ?_
  refine cx_icmp_ge (tgt := 21) (by omega) (by omega) dJ8_newLength_cabcc_10 (by decide) rfl (fun z10 => ?_) (fun z10 => ?_)
  · exact absurd z10 (by omega)
  · skip
    refine hk_iload_n dJ8_newLength_cabcc_13 rfl rfl rfl ?_
    refine hk_ldcI (v := nI 2147483639) dJ8_newLength_cabcc_14 rfl kc_J8_200 ?_
    refine cx_icmp_gt (tgt := 21) (by omega) (by omega) dJ8_newLength_cabcc_16 (by decide) rfl (fun z16 => ?_) (fun z16 => ?_)
    · exact absurd z16 (by omega)
    · skip
      refine hk_iload_n dJ8_newLength_cabcc_19 rfl rfl rfl ?_
      exact hk_ireturn rfl (rfl) dJ8_newLength_cabcc_20 (⟨_, rfl, rfl, rfl⟩)
theorem cx_mn (a c : Nat) (ha : a < 2 ^ 31) (hc : c < 2 ^ 31) : cs_min (nI a) (nI c) = nI (min a c) := by
  unfold cs_min
  by_cases e : c < a
  · rw [if_pos (nI_lt e ha), Nat.min_eq_right (by omega)]
  · rw [if_neg (nI_nlt (by omega) hc), Nat.min_eq_left (by omega)]
theorem cj_cp3 {ed cap N : Nat} {f : Nat → Option Nat} (hfl : l.stackTraces = false) (he : h ed = some (.inl (5, cap, .inr (.inr (.inr (.inr (f))))))) (hN : N ≤ 90000) (hcap : cap < 2 ^ 31) (hob : ∀ i v, i < min cap N → f i = some v → hk_ob G h v) : hk_Ctr G l 2 yJ7_copyOf_6403c cJ7_copyOf_6403c 4 (some (.array (.object "java/lang/Object"))) 1 N [.ref ed, .int (nI N), .ref (hk_K G 1006)] h (hk_qr fun v h1 => h v = none ∧ h1 = hk_set h v (.inl (5, N, .inr (.inr (.inr (.inr (va_cpy f (fun _ => none) 0 0 (min cap N)))))))) hk_no := by
  refine hk_enter (by decide) hfl (Nat.le_of_ble_eq_true rfl) rfl ?_
  refine hk_aload_n dJ7_copyOf_6403c_0 rfl rfl rfl ?_
  refine hk_ldcM dJ7_copyOf_6403c_1 rfl kl_J7_110 ?_
  refine hk_acmp_ne (rx := some (hk_K G 1006)) (ry := some (hk_K G 1006)) (tgt := 13) dJ7_copyOf_6403c_3 (by decide) rfl (fun z => absurd rfl z) (fun _ => ?_)
  refine hk_iload_n dJ7_copyOf_6403c_6 rfl rfl rfl ?_
  refine hk_anewa dJ7_copyOf_6403c_7 rfl kl_J7_2 (nI_pos (by omega)) (nI_clamp (by omega)) (by omega) ⟨by decide, Nat.le_refl _⟩ fun q hq => ?_
  refine hk_goto (tgt := 24) dJ7_copyOf_6403c_10 (by decide) ?_
  refine hk_astore_n dJ7_copyOf_6403c_24 rfl rfl (by decide) rfl ?_
  refine hk_aload_n dJ7_copyOf_6403c_25 rfl rfl rfl ?_
  refine hk_iconst (v := nI 0) dJ7_copyOf_6403c_26 rfl (by decide) ?_
  refine hk_aload_n dJ7_copyOf_6403c_27 rfl rfl rfl ?_
  refine hk_iconst (v := nI 0) dJ7_copyOf_6403c_28 rfl (by decide) ?_
  refine hk_aload_n dJ7_copyOf_6403c_29 rfl rfl rfl ?_
  refine hk_alen (t := 5) (cnt := cap) dJ7_copyOf_6403c_30 rfl (by decide) ((hk_set_ne (fun e => by rw [e, hq] at he; cases he)).trans he) (show Int32.ofNat cap = nI cap from rfl) ?_
  refine hk_iload_n dJ7_copyOf_6403c_31 rfl rfl rfl ?_
  refine cx_mmin dJ7_copyOf_6403c_32 rfl ms_J7_304 (by decide) (Nat.le_of_ble_eq_true rfl) ?_
  refine cx_top (show cs_min (nI cap) (nI N) = nI (min cap N) from cx_mn cap N (by omega) (by omega)) ?_
  have hmn : min cap N ≤ cap := Nat.min_le_left _ _
  have hmN : min cap N ≤ N := Nat.min_le_right _ _
  have e0 : (nI 0).toNatClampNeg = 0 := rfl
  have e1 : (nI (min cap N)).toNatClampNeg = min cap N := nI_clamp (by omega)
  refine hk_acopy dJ7_copyOf_6403c_35 rfl ay_J7_150 ((hk_set_ne (fun e => by rw [e, hq] at he; cases he)).trans he) hk_set_eq (nI_pos (by decide)) (nI_pos (by decide)) (nI_pos (by omega)) (by rw [e0, e1]; omega) (by rw [e0, e1]; omega) (fun i hi v hv => hk_oa_n (hob _ v (by rw [e1] at hi; rw [e0]; omega) hv) hq) (by decide) (Nat.le_of_ble_eq_true rfl) ?_
  rw [e0, e1]
  refine hx_cg hk_set_set ?_
  refine hk_aload_n dJ7_copyOf_6403c_38 rfl rfl rfl ?_
  exact hk_areturn rfl (Or.inr ⟨_, rfl⟩) (Or.inr ⟨_, rfl⟩) dJ7_copyOf_6403c_39 (⟨_, rfl, hq, rfl⟩)
theorem cj_cp {ed cap N : Nat} {f : Nat → Option Nat} (hfl : l.stackTraces = false) (he : h ed = some (.inl (5, cap, .inr (.inr (.inr (.inr (f))))))) (hN : N ≤ 90000) (hcap : cap < 2 ^ 31) (hob : ∀ i v, i < min cap N → f i = some v → hk_ob G h v) : hk_Ctr G l 3 yJ7_copyOf_1904c cJ7_copyOf_1904c 2 (some (.array (.object "java/lang/Object"))) 1 N [.ref ed, .int (nI N)] h (hk_qr fun v h1 => h v = none ∧ h1 = hk_set h v (.inl (5, N, .inr (.inr (.inr (.inr (va_cpy f (fun _ => none) 0 0 (min cap N)))))))) hk_no := by
  refine hk_enter (by decide) hfl (Nat.le_of_ble_eq_true rfl) rfl ?_
  refine hk_aload_n dJ7_copyOf_1904c_0 rfl rfl rfl ?_
  refine hk_iload_n dJ7_copyOf_1904c_1 rfl rfl rfl ?_
  refine hk_aload_n dJ7_copyOf_1904c_2 rfl rfl rfl ?_
  refine hk_getC dJ7_copyOf_1904c_3 rfl gc_J7_86 (Or.inl ⟨_, he⟩) (by decide) (Nat.le_of_ble_eq_true rfl) ?_
  refine hk_callS dJ7_copyOf_1904c_6 rfl ms_J7_300 (cj_cp3 hfl he hN hcap hob) rfl rfl (by decide) ⟨by decide, Nat.le_refl _⟩ (Nat.le_of_ble_eq_true rfl) (hk_kr fun v h1 q => ?_) hk_nx
  obtain ⟨q1, rfl⟩ := q
  exact hk_areturn rfl (Or.inr ⟨_, rfl⟩) (Or.inr ⟨_, rfl⟩) dJ7_copyOf_1904c_9 (⟨_, rfl, q1, rfl⟩)
theorem cj_grw {a ed cap n m : Nat} {mc : Int32} {f : Nat → Option Nat} (hfl : l.stackTraces = false) (ha : h a = some (.inr (6, [.int mc, .ref ed, .int (nI n)]))) (he : h ed = some (.inl (5, cap, .inr (.inr (.inr (.inr (f))))))) (hc1 : 1 ≤ cap) (hc2 : cap ≤ 20000) (hm1 : cap < m) (hm2 : m ≤ 40000) (hob : ∀ i v, i < cap → f i = some v → hk_ob G h v) : hk_Ctr G l 4 yJx4a65c_grow_92f84 cJx4a65c_grow_92f84 4 (some (.array (.object "java/lang/Object"))) 1 (cap + max (m - cap) (cap / 2)) [.ref a, .int (nI m)] h (hk_qr fun v h1 => h v = none ∧ h1 = hk_set (hk_set h v (.inl (5, (cap + max (m - cap) (cap / 2)), .inr (.inr (.inr (.inr (va_cpy f (fun _ => none) 0 0 (min cap (cap + max (m - cap) (cap / 2)))))))))) a (.inr (6, [.int mc, .ref v, .int (nI n)]))) hk_no := by
  refine hk_enter (by decide) hfl (Nat.le_of_ble_eq_true rfl) rfl ?_
  have hmx : max (m - cap) (cap / 2) ≤ 40000 := by omega
  refine hk_aload_n dJx4a65c_grow_92f84_0 rfl rfl rfl ?_
  refine hk_getf dJx4a65c_grow_92f84_1 rfl fl_Jx4a65c_9 (ha) rfl ?_
  refine hk_alen (t := 5) (cnt := cap) dJx4a65c_grow_92f84_4 rfl (by decide) he (show Int32.ofNat cap = nI cap from rfl) ?_
  refine hk_istore_n dJx4a65c_grow_92f84_5 rfl rfl (by decide) rfl ?_
  refine hk_iload_n dJx4a65c_grow_92f84_6 rfl rfl rfl ?_
  refine hk_if_gt (tgt := 20) dJx4a65c_grow_92f84_7 (by decide) rfl (fun z7 => ?_) (fun z7 => ?_)
  · skip
    refine hk_iload_n dJx4a65c_grow_92f84_20 rfl rfl rfl ?_
    refine hk_iload_n dJx4a65c_grow_92f84_21 rfl rfl rfl ?_
    refine hk_iload_n dJx4a65c_grow_92f84_22 rfl rfl rfl ?_
    refine hk_isub dJx4a65c_grow_92f84_23 rfl ?_
    refine cx_top (cx_nsub (by omega)) ?_
    refine hk_iload_n dJx4a65c_grow_92f84_24 rfl rfl rfl ?_
    refine hk_iconst (v := nI 1) dJx4a65c_grow_92f84_25 rfl (by decide) ?_
    refine hk_ishr dJx4a65c_grow_92f84_26 rfl ?_
    refine cx_top (nI_half (by omega)) ?_
    refine hk_callS dJx4a65c_grow_92f84_27 rfl ms_Jx4a65c_73 (cj_nl hfl (o := cap) (m := m - cap) (p := cap / 2) (by omega) (by omega) (by omega) (by omega)) rfl rfl (by decide) ⟨Nat.zero_le _, Nat.zero_le _⟩ (Nat.le_of_ble_eq_true rfl) (hk_ki fun v h1 q => ?_) hk_nx
    obtain ⟨rfl, rfl⟩ := q
    refine hk_istore_n dJx4a65c_grow_92f84_30 rfl rfl (by decide) rfl ?_
    refine hk_aload_n dJx4a65c_grow_92f84_31 rfl rfl rfl ?_
    refine hk_aload_n dJx4a65c_grow_92f84_32 rfl rfl rfl ?_
    refine hk_getf dJx4a65c_grow_92f84_33 rfl fl_Jx4a65c_9 (ha) rfl ?_
    refine hk_iload_n dJx4a65c_grow_92f84_36 rfl rfl rfl ?_
    refine hk_callS dJx4a65c_grow_92f84_37 rfl ms_Jx4a65c_66 (cj_cp hfl he (by omega) (by omega) (fun i v hi => hob i v (by omega))) rfl rfl (by decide) ⟨by decide, Nat.le_refl _⟩ (Nat.le_of_ble_eq_true rfl) (hk_kr fun v h1 q => ?_) hk_nx
    obtain ⟨q1, rfl⟩ := q
    refine hk_dup_x1 dJx4a65c_grow_92f84_40 rfl rfl rfl ?_
    refine hk_putf dJx4a65c_grow_92f84_41 rfl (fw_Jx4a65c_9 rfl) ((hk_set_ne (fun e => by rw [e, q1] at ha; cases ha)).trans ha) rfl rfl (Nat.lt_of_lt_of_eq (by decide : 1 < 3) rfl) ?_
    exact hk_areturn rfl (Or.inr ⟨_, rfl⟩) (Or.inr ⟨_, rfl⟩) dJx4a65c_grow_92f84_44 (⟨_, rfl, q1, rfl⟩)
  · exact absurd (show (0 : Int32) < nI cap from nI_lt (a := 0) (by omega) (by omega)) z7
theorem cj_grw0 {a n m : Nat} {mc : Int32} (hfl : l.stackTraces = false) (ha : h a = some (.inr (6, [.int mc, .ref (hk_K G 1001), .int (nI n)]))) (hm2 : m ≤ 10) : hk_Ctr G l 4 yJx4a65c_grow_92f84 cJx4a65c_grow_92f84 4 (some (.array (.object "java/lang/Object"))) 1 10 [.ref a, .int (nI m)] h (hk_qr fun v h1 => h v = none ∧ h1 = hk_set (hk_set h v (.inl (5, 10, .inr (.inr (.inr (.inr (fun _ => none))))))) a (.inr (6, [.int mc, .ref v, .int (nI n)]))) hk_no := by
  refine hk_enter (by decide) hfl (Nat.le_of_ble_eq_true rfl) rfl ?_
  refine hk_aload_n dJx4a65c_grow_92f84_0 rfl rfl rfl ?_
  refine hk_getf dJx4a65c_grow_92f84_1 rfl fl_Jx4a65c_9 (ha) rfl ?_
  refine hk_tlen (ty := .object "java/lang/Object") (N := 0) dJx4a65c_grow_92f84_4 rfl (fun U H z => z.1.2.1) (show Int32.ofNat 0 = nI 0 from rfl) ?_
  refine hk_istore_n dJx4a65c_grow_92f84_5 rfl rfl (by decide) rfl ?_
  refine hk_iload_n dJx4a65c_grow_92f84_6 rfl rfl rfl ?_
  refine hk_if_gt (tgt := 20) dJx4a65c_grow_92f84_7 (by decide) rfl (fun z7 => ?_) (fun z7 => ?_)
  · exact absurd z7 (by decide)
  · skip
    refine hk_aload_n dJx4a65c_grow_92f84_10 rfl rfl rfl ?_
    refine hk_getf dJx4a65c_grow_92f84_11 rfl fl_Jx4a65c_9 (ha) rfl ?_
    refine hk_gets dJx4a65c_grow_92f84_14 rfl (fun U H z => z.1.1) sl_Jx4a65c_39 ?_
    refine hk_acmp_eq (rx := some (hk_K G 1001)) (ry := some (hk_K G 1001)) (tgt := 45) dJx4a65c_grow_92f84_17 (by decide) rfl (fun _ => ?_) (fun z => absurd rfl z)
    refine hk_aload_n dJx4a65c_grow_92f84_45 rfl rfl rfl ?_
    refine hk_bipush (v := nI 10) dJx4a65c_grow_92f84_46 rfl (by decide) ?_
    refine hk_iload_n dJx4a65c_grow_92f84_48 rfl rfl rfl ?_
    refine cx_mmax dJx4a65c_grow_92f84_49 rfl ms_Jx4a65c_79 (by decide) (Nat.le_of_ble_eq_true rfl) ?_
    refine cx_top ((cx_max 10 m (by omega) (by omega)).trans (show nI (max 10 m) = nI 10 by rw [Nat.max_eq_left hm2])) ?_
    refine hk_anewa (N := 10) dJx4a65c_grow_92f84_52 rfl kl_Jx4a65c_7 (by decide) (by decide) (by decide) (by decide) fun v hq => ?_
    refine hk_dup_x1 dJx4a65c_grow_92f84_55 rfl rfl rfl ?_
    refine hk_putf dJx4a65c_grow_92f84_56 rfl (fw_Jx4a65c_9 rfl) ((hk_set_ne (fun e => by rw [e, hq] at ha; cases ha)).trans ha) rfl rfl (Nat.lt_of_lt_of_eq (by decide : 1 < 3) rfl) ?_
    exact hk_areturn rfl (Or.inr ⟨_, rfl⟩) (Or.inr ⟨_, rfl⟩) dJx4a65c_grow_92f84_59 (⟨_, rfl, hq, rfl⟩)
theorem cj_gr {a ed n : Nat} {mc : Int32} {f : Nat → Option Nat} (hfl : l.stackTraces = false) (ha : h a = some (.inr (6, [.int mc, .ref ed, .int (nI n)]))) (he : h ed = some (.inl (5, n, .inr (.inr (.inr (.inr (f))))))) (hc1 : 1 ≤ n) (hc2 : n ≤ 20000) (hob : ∀ i v, i < n → f i = some v → hk_ob G h v) : hk_Ctr G l 5 yJx4a65c_grow_d5877 cJx4a65c_grow_d5877 1 (some (.array (.object "java/lang/Object"))) 1 (n + max 1 (n / 2)) [.ref a] h (hk_qr fun v h1 => h v = none ∧ h1 = hk_set (hk_set h v (.inl (5, (n + max 1 (n / 2)), .inr (.inr (.inr (.inr (va_cpy f (fun _ => none) 0 0 n))))))) a (.inr (6, [.int mc, .ref v, .int (nI n)]))) hk_no := by
  refine hk_enter (by decide) hfl (Nat.le_of_ble_eq_true rfl) rfl ?_
  have e9 : n + 1 - n = 1 := by omega
  have e8 : min n (n + max 1 (n / 2)) = n := Nat.min_eq_left (Nat.le_add_right _ _)
  have hG := cj_grw (m := n + 1) hfl ha he hc1 hc2 (by omega) (by omega) hob
  rw [e9, e8] at hG
  refine hk_aload_n dJx4a65c_grow_d5877_0 rfl rfl rfl ?_
  refine hk_aload_n dJx4a65c_grow_d5877_1 rfl rfl rfl ?_
  refine hk_getf dJx4a65c_grow_d5877_2 rfl fl_Jx4a65c_48 (ha) rfl ?_
  refine hk_iconst (v := nI 1) dJx4a65c_grow_d5877_5 rfl (by decide) ?_
  refine hk_iadd dJx4a65c_grow_d5877_6 rfl ?_
  refine cx_top (nI_add _ _) ?_
  refine hk_callV dJx4a65c_grow_d5877_7 rfl mv_Jx4a65c_69 hG rfl rfl (ha) rfl rfl (by decide) ⟨by decide, Nat.le_refl _⟩ (Nat.le_of_ble_eq_true rfl) (hk_kr fun v h1 q => ?_) hk_nx
  obtain ⟨q1, rfl⟩ := q
  exact hk_areturn rfl (Or.inr ⟨_, rfl⟩) (Or.inr ⟨_, rfl⟩) dJx4a65c_grow_d5877_10 (⟨_, rfl, q1, rfl⟩)
theorem cj_gr0 {a : Nat} {mc : Int32} (hfl : l.stackTraces = false) (ha : h a = some (.inr (6, [.int mc, .ref (hk_K G 1001), .int (nI 0)]))) : hk_Ctr G l 5 yJx4a65c_grow_d5877 cJx4a65c_grow_d5877 1 (some (.array (.object "java/lang/Object"))) 1 10 [.ref a] h (hk_qr fun v h1 => h v = none ∧ h1 = hk_set (hk_set h v (.inl (5, 10, .inr (.inr (.inr (.inr (fun _ => none))))))) a (.inr (6, [.int mc, .ref v, .int (nI 0)]))) hk_no := by
  refine hk_enter (by decide) hfl (Nat.le_of_ble_eq_true rfl) rfl ?_
  refine hk_aload_n dJx4a65c_grow_d5877_0 rfl rfl rfl ?_
  refine hk_aload_n dJx4a65c_grow_d5877_1 rfl rfl rfl ?_
  refine hk_getf dJx4a65c_grow_d5877_2 rfl fl_Jx4a65c_48 (ha) rfl ?_
  refine hk_iconst (v := nI 1) dJx4a65c_grow_d5877_5 rfl (by decide) ?_
  refine hk_iadd dJx4a65c_grow_d5877_6 rfl ?_
  refine cx_top (nI_add _ _) ?_
  refine hk_callV dJx4a65c_grow_d5877_7 rfl mv_Jx4a65c_69 (cj_grw0 (m := 0 + 1) hfl ha (by decide)) rfl rfl (ha) rfl rfl (by decide) (by decide) (Nat.le_of_ble_eq_true rfl) (hk_kr fun v h1 q => ?_) hk_nx
  obtain ⟨q1, rfl⟩ := q
  exact hk_areturn rfl (Or.inr ⟨_, rfl⟩) (Or.inr ⟨_, rfl⟩) dJx4a65c_grow_d5877_10 (⟨_, rfl, q1, rfl⟩)
theorem cj_ad3 {a ed n v0 cap : Nat} {mc : Int32} {f : Nat → Option Nat} (hfl : l.stackTraces = false) (ha : h a = some (.inr (6, [.int mc, .ref ed, .int (nI n)]))) (he : h ed = some (.inl (5, cap, .inr (.inr (.inr (.inr (f))))))) (hn : n < cap) (hcap : cap < 2 ^ 31) (hv : hk_ob G h v0) : hk_Ctr G l 1 yJx4a65c_add_72be8 cJx4a65c_add_72be8 4 none 0 0 [.ref a, .ref v0, .ref ed, .int (nI n)] h (hk_qv fun h1 => h1 = hk_set (hk_set h ed (.inl (5, cap, .inr (.inr (.inr (.inr (va_up f n (some v0)))))))) a (.inr (6, [.int mc, .ref ed, .int (nI (n + 1))]))) hk_no := by
  refine hk_enter (by decide) hfl (Nat.le_of_ble_eq_true rfl) rfl ?_
  refine hk_iload_n dJx4a65c_add_72be8_0 rfl rfl rfl ?_
  refine hk_aload_n dJx4a65c_add_72be8_1 rfl rfl rfl ?_
  refine hk_alen (t := 5) (cnt := cap) dJx4a65c_add_72be8_2 rfl (by decide) he (show Int32.ofNat cap = nI cap from rfl) ?_
  refine cx_icmp_ne (tgt := 11) (by omega) (by omega) dJx4a65c_add_72be8_3 (by decide) rfl (fun z3 => ?_) (fun z3 => ?_)
  · skip
    refine hk_aload_n dJx4a65c_add_72be8_11 rfl rfl rfl ?_
    refine hk_iload_n dJx4a65c_add_72be8_12 rfl rfl rfl ?_
    refine hk_aload_n dJx4a65c_add_72be8_13 rfl rfl rfl ?_
    refine hx_aast dJx4a65c_add_72be8_14 rfl he hn hcap hv ?_
    refine hk_aload_n dJx4a65c_add_72be8_15 rfl rfl rfl ?_
    refine hk_iload_n dJx4a65c_add_72be8_16 rfl rfl rfl ?_
    refine hk_iconst (v := nI 1) dJx4a65c_add_72be8_17 rfl (by decide) ?_
    refine hk_iadd dJx4a65c_add_72be8_18 rfl ?_
    refine cx_top (nI_add _ _) ?_
    refine hk_putf dJx4a65c_add_72be8_19 rfl (fw_Jx4a65c_48 rfl) ((hk_set_ne (hk_ne_oa ha he).symm).trans ha) rfl rfl (Nat.lt_of_lt_of_eq (by decide : 2 < 3) rfl) ?_
    exact hk_vreturn rfl dJx4a65c_add_72be8_22 (⟨rfl, rfl⟩)
  · exact absurd z3 (by omega)
theorem cj_ad3g {a ed n v0 : Nat} {mc : Int32} {f : Nat → Option Nat} (hfl : l.stackTraces = false) (ha : h a = some (.inr (6, [.int mc, .ref ed, .int (nI n)]))) (he : h ed = some (.inl (5, n, .inr (.inr (.inr (.inr (f))))))) (hc1 : 1 ≤ n) (hc2 : n ≤ 20000) (hob : ∀ i v, i < n → f i = some v → hk_ob G h v) (hv : hk_ob G h v0) : hk_Ctr G l 6 yJx4a65c_add_72be8 cJx4a65c_add_72be8 4 none 1 (n + max 1 (n / 2)) [.ref a, .ref v0, .ref ed, .int (nI n)] h (hk_qv fun h1 => ∃ e1 : Nat, h e1 = none ∧ h1 = hk_set (hk_set h e1 (.inl (5, (n + max 1 (n / 2)), .inr (.inr (.inr (.inr (va_up (va_cpy f (fun _ => none) 0 0 n) n (some v0)))))))) a (.inr (6, [.int mc, .ref e1, .int (nI (n + 1))]))) hk_no := by
  refine hk_enter (by decide) hfl (Nat.le_of_ble_eq_true rfl) rfl ?_
  refine hk_iload_n dJx4a65c_add_72be8_0 rfl rfl rfl ?_
  refine hk_aload_n dJx4a65c_add_72be8_1 rfl rfl rfl ?_
  refine hk_alen (t := 5) (cnt := n) dJx4a65c_add_72be8_2 rfl (by decide) he (show Int32.ofNat n = nI n from rfl) ?_
  refine cx_icmp_ne (tgt := 11) (by omega) (by omega) dJx4a65c_add_72be8_3 (by decide) rfl (fun z3 => ?_) (fun z3 => ?_)
  · exact absurd rfl z3
  · skip
    refine hk_aload_n dJx4a65c_add_72be8_6 rfl rfl rfl ?_
    refine hk_callV dJx4a65c_add_72be8_7 rfl mv_Jx4a65c_129 (cj_gr hfl ha he hc1 hc2 hob) rfl rfl (ha) rfl rfl (by decide) ⟨by decide, Nat.le_refl _⟩ (Nat.le_of_ble_eq_true rfl) (hk_kr fun e1 h1 q => ?_) hk_nx
    obtain ⟨q1, rfl⟩ := q
    have hea : e1 ≠ a := fun e => by rw [e, ha] at q1; cases q1
    refine hk_astore_n dJx4a65c_add_72be8_10 rfl rfl (by decide) rfl ?_
    refine hk_aload_n dJx4a65c_add_72be8_11 rfl rfl rfl ?_
    refine hk_iload_n dJx4a65c_add_72be8_12 rfl rfl rfl ?_
    refine hk_aload_n dJx4a65c_add_72be8_13 rfl rfl rfl ?_
    refine hx_aast dJx4a65c_add_72be8_14 rfl ((hk_set_ne hea).trans hk_set_eq) (by omega) (by omega) (hk_oa_o (hk_oa_n hv q1) ((hk_set_ne hea.symm).trans ha)) ?_
    refine hx_cg (hk_set_comm hea.symm) ?_
    refine hx_cg (by rw [hk_set_set]) ?_
    refine hk_aload_n dJx4a65c_add_72be8_15 rfl rfl rfl ?_
    refine hk_iload_n dJx4a65c_add_72be8_16 rfl rfl rfl ?_
    refine hk_iconst (v := nI 1) dJx4a65c_add_72be8_17 rfl (by decide) ?_
    refine hk_iadd dJx4a65c_add_72be8_18 rfl ?_
    refine cx_top (nI_add _ _) ?_
    refine hk_putf dJx4a65c_add_72be8_19 rfl (fw_Jx4a65c_48 rfl) (hk_set_eq) rfl rfl (Nat.lt_of_lt_of_eq (by decide : 2 < 3) rfl) ?_
    refine hx_cg hk_set_set ?_
    exact hk_vreturn rfl dJx4a65c_add_72be8_22 (⟨rfl, e1, q1, rfl⟩)
theorem cj_ad30 {a v0 : Nat} {mc : Int32} (hfl : l.stackTraces = false) (ha : h a = some (.inr (6, [.int mc, .ref (hk_K G 1001), .int (nI 0)]))) (hv : hk_ob G h v0) : hk_Ctr G l 6 yJx4a65c_add_72be8 cJx4a65c_add_72be8 4 none 1 10 [.ref a, .ref v0, .ref (hk_K G 1001), .int (nI 0)] h (hk_qv fun h1 => ∃ e1 : Nat, h e1 = none ∧ h1 = hk_set (hk_set h e1 (.inl (5, 10, .inr (.inr (.inr (.inr (va_up (fun _ => none) 0 (some v0)))))))) a (.inr (6, [.int mc, .ref e1, .int (nI (0 + 1))]))) hk_no := by
  refine hk_enter (by decide) hfl (Nat.le_of_ble_eq_true rfl) rfl ?_
  refine hk_iload_n dJx4a65c_add_72be8_0 rfl rfl rfl ?_
  refine hk_aload_n dJx4a65c_add_72be8_1 rfl rfl rfl ?_
  refine hk_tlen (ty := .object "java/lang/Object") (N := 0) dJx4a65c_add_72be8_2 rfl (fun U H z => z.1.2.1) (show Int32.ofNat 0 = nI 0 from rfl) ?_
  refine cx_icmp_ne (tgt := 11) (by omega) (by omega) dJx4a65c_add_72be8_3 (by decide) rfl (fun z3 => ?_) (fun z3 => ?_)
  · exact absurd rfl z3
  · skip
    refine hk_aload_n dJx4a65c_add_72be8_6 rfl rfl rfl ?_
    refine hk_callV dJx4a65c_add_72be8_7 rfl mv_Jx4a65c_129 (cj_gr0 hfl ha) rfl rfl (ha) rfl rfl (by decide) (by decide) (Nat.le_of_ble_eq_true rfl) (hk_kr fun e1 h1 q => ?_) hk_nx
    obtain ⟨q1, rfl⟩ := q
    have hea : e1 ≠ a := fun e => by rw [e, ha] at q1; cases q1
    refine hk_astore_n dJx4a65c_add_72be8_10 rfl rfl (by decide) rfl ?_
    refine hk_aload_n dJx4a65c_add_72be8_11 rfl rfl rfl ?_
    refine hk_iload_n dJx4a65c_add_72be8_12 rfl rfl rfl ?_
    refine hk_aload_n dJx4a65c_add_72be8_13 rfl rfl rfl ?_
    refine hx_aast dJx4a65c_add_72be8_14 rfl ((hk_set_ne hea).trans hk_set_eq) (by decide) (by decide) (hk_oa_o (hk_oa_n hv q1) ((hk_set_ne hea.symm).trans ha)) ?_
    refine hx_cg (hk_set_comm hea.symm) ?_
    refine hx_cg (by rw [hk_set_set]) ?_
    refine hk_aload_n dJx4a65c_add_72be8_15 rfl rfl rfl ?_
    refine hk_iload_n dJx4a65c_add_72be8_16 rfl rfl rfl ?_
    refine hk_iconst (v := nI 1) dJx4a65c_add_72be8_17 rfl (by decide) ?_
    refine hk_iadd dJx4a65c_add_72be8_18 rfl ?_
    refine cx_top (nI_add _ _) ?_
    refine hk_putf dJx4a65c_add_72be8_19 rfl (fw_Jx4a65c_48 rfl) (hk_set_eq) rfl rfl (Nat.lt_of_lt_of_eq (by decide : 2 < 3) rfl) ?_
    refine hx_cg hk_set_set ?_
    exact hk_vreturn rfl dJx4a65c_add_72be8_22 (⟨rfl, e1, q1, rfl⟩)
-- a list: its object, its row (or none yet)
def hk_al (G : hk_G) (h : hk_H) (a : Nat) (mc : Int32) (ed n cap : Nat) (f : Nat → Option Nat) : Prop := h a = some (.inr (6, [.int mc, .ref ed, .int (nI n)])) ∧ n ≤ cap ∧ cap ≤ 20000 ∧ ((h ed = some (.inl (5, cap, .inr (.inr (.inr (.inr f))))) ∧ 1 ≤ cap) ∨ (ed = hk_K G 1001 ∧ cap = 0))
def hk_grown (h : hk_H) (a : Nat) (mc : Int32) (ed n cap : Nat) (f : Nat → Option Nat) (v0 : Nat) (h1 : hk_H) : Prop := ∃ (e1 cap1 : Nat) (f1 : Nat → Option Nat), h1 = hk_set (hk_set h e1 (.inl (5, cap1, .inr (.inr (.inr (.inr f1)))))) a (.inr (6, [.int (mc + nI 1), .ref e1, .int (nI (n + 1))])) ∧ ((e1 = ed ∧ 1 ≤ cap ∧ cap1 = cap) ∨ (h e1 = none ∧ cap = n ∧ (cap = 0 → cap1 = 10))) ∧ n + 1 ≤ cap1 ∧ cap1 ≤ cap + cap / 2 + 10 ∧ (∀ i, i < n → f1 i = f i) ∧ f1 n = some v0
theorem cj_add1 {a ed n v0 cap : Nat} {mc : Int32} {f : Nat → Option Nat} (hfl : l.stackTraces = false) (ha : h a = some (.inr (6, [.int mc, .ref ed, .int (nI n)]))) (he : h ed = some (.inl (5, cap, .inr (.inr (.inr (.inr (f))))))) (hn : n < cap) (hcap : cap ≤ 20000) (hv : hk_ob G h v0) : hk_Ctr G l 7 yJx4a65c_add_9ea2d cJx4a65c_add_9ea2d 2 (some .boolean) 1 (n + n / 2 + 10) [.ref a, .ref v0] h (hk_qi fun v h1 => v = nI 1 ∧ hk_grown h a mc ed n cap f v0 h1) hk_no := by
  refine hk_enter (by decide) hfl (Nat.le_of_ble_eq_true rfl) rfl ?_
  refine hk_aload_n dJx4a65c_add_9ea2d_0 rfl rfl rfl ?_
  refine hk_dup dJx4a65c_add_9ea2d_1 rfl rfl ?_
  refine hk_getf dJx4a65c_add_9ea2d_2 rfl fl_Jx4a65c_63 (ha) rfl ?_
  refine hk_iconst (v := nI 1) dJx4a65c_add_9ea2d_5 rfl (by decide) ?_
  refine hk_iadd dJx4a65c_add_9ea2d_6 rfl ?_
  refine hk_putf dJx4a65c_add_9ea2d_7 rfl (fw_Jx4a65c_63 rfl) ha rfl rfl (Nat.lt_of_lt_of_eq (by decide : 0 < 3) rfl) ?_
  have hv2 := hk_oa_o (fs' := [.int (mc + nI 1), .ref ed, .int (nI n)]) hv ha
  refine hk_aload_n dJx4a65c_add_9ea2d_10 rfl rfl rfl ?_
  refine hk_aload_n dJx4a65c_add_9ea2d_11 rfl rfl rfl ?_
  refine hk_aload_n dJx4a65c_add_9ea2d_12 rfl rfl rfl ?_
  refine hk_getf dJx4a65c_add_9ea2d_13 rfl fl_Jx4a65c_9 hk_set_eq rfl ?_
  refine hk_aload_n dJx4a65c_add_9ea2d_16 rfl rfl rfl ?_
  refine hk_getf dJx4a65c_add_9ea2d_17 rfl fl_Jx4a65c_48 hk_set_eq rfl ?_
  refine hk_callV dJx4a65c_add_9ea2d_20 rfl mv_Jx4a65c_131 (cj_ad3 hfl hk_set_eq ((hk_set_ne (hk_ne_oa ha he)).trans he) hn (by omega) hv2) rfl rfl hk_set_eq rfl rfl (by decide) ⟨Nat.zero_le _, Nat.zero_le _⟩ (Nat.le_of_ble_eq_true rfl) (hk_kv fun h1 q => ?_) hk_nx
  subst q
  refine hk_iconst (v := nI 1) dJx4a65c_add_9ea2d_23 rfl (by decide) ?_
  exact hk_ireturn rfl (by decide) dJx4a65c_add_9ea2d_24 (⟨_, rfl, rfl, ed, cap, va_up f n (some v0), (by rw [hk_set_comm (hk_ne_oa ha he).symm, hk_set_set]), Or.inl ⟨rfl, by omega, rfl⟩, by omega, by omega, fun i hi => if_neg (by omega), if_pos rfl⟩)
theorem cj_add2 {a ed n v0 : Nat} {mc : Int32} {f : Nat → Option Nat} {cap : Nat} (hfl : l.stackTraces = false) (ha : h a = some (.inr (6, [.int mc, .ref ed, .int (nI n)]))) (he : h ed = some (.inl (5, n, .inr (.inr (.inr (.inr (f))))))) (hcn : cap = n) (hc1 : 1 ≤ n) (hc2 : n ≤ 20000) (hob : ∀ i v, i < n → f i = some v → hk_ob G h v) (hv : hk_ob G h v0) : hk_Ctr G l 7 yJx4a65c_add_9ea2d cJx4a65c_add_9ea2d 2 (some .boolean) 1 (n + n / 2 + 10) [.ref a, .ref v0] h (hk_qi fun v h1 => v = nI 1 ∧ hk_grown h a mc ed n cap f v0 h1) hk_no := by
  refine hk_enter (by decide) hfl (Nat.le_of_ble_eq_true rfl) rfl ?_
  refine hk_aload_n dJx4a65c_add_9ea2d_0 rfl rfl rfl ?_
  refine hk_dup dJx4a65c_add_9ea2d_1 rfl rfl ?_
  refine hk_getf dJx4a65c_add_9ea2d_2 rfl fl_Jx4a65c_63 (ha) rfl ?_
  refine hk_iconst (v := nI 1) dJx4a65c_add_9ea2d_5 rfl (by decide) ?_
  refine hk_iadd dJx4a65c_add_9ea2d_6 rfl ?_
  refine hk_putf dJx4a65c_add_9ea2d_7 rfl (fw_Jx4a65c_63 rfl) ha rfl rfl (Nat.lt_of_lt_of_eq (by decide : 0 < 3) rfl) ?_
  have hv2 := hk_oa_o (fs' := [.int (mc + nI 1), .ref ed, .int (nI n)]) hv ha
  refine hk_aload_n dJx4a65c_add_9ea2d_10 rfl rfl rfl ?_
  refine hk_aload_n dJx4a65c_add_9ea2d_11 rfl rfl rfl ?_
  refine hk_aload_n dJx4a65c_add_9ea2d_12 rfl rfl rfl ?_
  refine hk_getf dJx4a65c_add_9ea2d_13 rfl fl_Jx4a65c_9 hk_set_eq rfl ?_
  refine hk_aload_n dJx4a65c_add_9ea2d_16 rfl rfl rfl ?_
  refine hk_getf dJx4a65c_add_9ea2d_17 rfl fl_Jx4a65c_48 hk_set_eq rfl ?_
  refine hk_callV dJx4a65c_add_9ea2d_20 rfl mv_Jx4a65c_131 (cj_ad3g hfl hk_set_eq ((hk_set_ne (hk_ne_oa ha he)).trans he) hc1 hc2 (fun i v hi hv => hk_oa_o (hob i v hi hv) ha) hv2) rfl rfl hk_set_eq rfl rfl (by decide) ⟨by decide, by omega⟩ (Nat.le_of_ble_eq_true rfl) (hk_kv fun h1 q => ?_) hk_nx
  obtain ⟨e1, q1, rfl⟩ := q; have hae : a ≠ e1 := fun e => by rw [← e, hk_set_eq] at q1; cases q1
  refine hk_iconst (v := nI 1) dJx4a65c_add_9ea2d_23 rfl (by decide) ?_
  exact hk_ireturn rfl (by decide) dJx4a65c_add_9ea2d_24 (⟨_, rfl, rfl, e1, n + max 1 (n / 2), va_up (va_cpy f (fun _ => none) 0 0 n) n (some v0), (by rw [hk_set_comm hae.symm, hk_set_set]; exact hk_set_comm hae), Or.inr ⟨by rw [hk_set_ne (fun e => by rw [e, hk_set_eq] at q1; cases q1)] at q1; exact q1, hcn, fun z => absurd z (by omega)⟩, by omega, by omega, fun i hi => by unfold va_up; rw [if_neg (by omega)]; unfold va_cpy; rw [if_pos (by omega)]; congr 1; omega, if_pos rfl⟩)
theorem cj_add3 {a ed n v0 : Nat} {mc : Int32} {f : Nat → Option Nat} {cap : Nat} (hfl : l.stackTraces = false) (ha : h a = some (.inr (6, [.int mc, .ref (hk_K G 1001), .int (nI 0)]))) (hcn : cap = 0) (hn0 : n = 0) (hv : hk_ob G h v0) : hk_Ctr G l 7 yJx4a65c_add_9ea2d cJx4a65c_add_9ea2d 2 (some .boolean) 1 (n + n / 2 + 10) [.ref a, .ref v0] h (hk_qi fun v h1 => v = nI 1 ∧ hk_grown h a mc ed n cap f v0 h1) hk_no := by
  refine hk_enter (by decide) hfl (Nat.le_of_ble_eq_true rfl) rfl ?_
  subst hn0
  refine hk_aload_n dJx4a65c_add_9ea2d_0 rfl rfl rfl ?_
  refine hk_dup dJx4a65c_add_9ea2d_1 rfl rfl ?_
  refine hk_getf dJx4a65c_add_9ea2d_2 rfl fl_Jx4a65c_63 (ha) rfl ?_
  refine hk_iconst (v := nI 1) dJx4a65c_add_9ea2d_5 rfl (by decide) ?_
  refine hk_iadd dJx4a65c_add_9ea2d_6 rfl ?_
  refine hk_putf dJx4a65c_add_9ea2d_7 rfl (fw_Jx4a65c_63 rfl) ha rfl rfl (Nat.lt_of_lt_of_eq (by decide : 0 < 3) rfl) ?_
  have hv2 := hk_oa_o (fs' := [.int (mc + nI 1), .ref (hk_K G 1001), .int (nI 0)]) hv ha
  refine hk_aload_n dJx4a65c_add_9ea2d_10 rfl rfl rfl ?_
  refine hk_aload_n dJx4a65c_add_9ea2d_11 rfl rfl rfl ?_
  refine hk_aload_n dJx4a65c_add_9ea2d_12 rfl rfl rfl ?_
  refine hk_getf dJx4a65c_add_9ea2d_13 rfl fl_Jx4a65c_9 hk_set_eq rfl ?_
  refine hk_aload_n dJx4a65c_add_9ea2d_16 rfl rfl rfl ?_
  refine hk_getf dJx4a65c_add_9ea2d_17 rfl fl_Jx4a65c_48 hk_set_eq rfl ?_
  refine hk_callV dJx4a65c_add_9ea2d_20 rfl mv_Jx4a65c_131 (cj_ad30 hfl hk_set_eq hv2) rfl rfl hk_set_eq rfl rfl (by decide) ⟨by decide, by omega⟩ (Nat.le_of_ble_eq_true rfl) (hk_kv fun h1 q => ?_) hk_nx
  obtain ⟨e1, q1, rfl⟩ := q; have hae : a ≠ e1 := fun e => by rw [← e, hk_set_eq] at q1; cases q1
  refine hk_iconst (v := nI 1) dJx4a65c_add_9ea2d_23 rfl (by decide) ?_
  exact hk_ireturn rfl (by decide) dJx4a65c_add_9ea2d_24 (⟨_, rfl, rfl, e1, 10, va_up (fun _ => none) 0 (some v0), (by rw [hk_set_comm hae.symm, hk_set_set]; exact hk_set_comm hae), Or.inr ⟨by rw [hk_set_ne (fun e => by rw [e, hk_set_eq] at q1; cases q1)] at q1; exact q1, hcn, fun _ => rfl⟩, by omega, by omega, fun i hi => absurd hi (by omega), if_pos rfl⟩)
theorem cj_add {a ed n v0 cap : Nat} {mc : Int32} {f : Nat → Option Nat} (hfl : l.stackTraces = false) (ha : hk_al G h a mc ed n cap f) (hob : ∀ i v, i < n → f i = some v → hk_ob G h v) (hv : hk_ob G h v0) : hk_Ctr G l 7 yJx4a65c_add_9ea2d cJx4a65c_add_9ea2d 2 (some .boolean) 1 (n + n / 2 + 10) [.ref a, .ref v0] h (hk_qi fun v h1 => v = nI 1 ∧ hk_grown h a mc ed n cap f v0 h1) hk_no := by
  obtain ⟨h1, h2, h3, ⟨h4, h5⟩ | ⟨h4, h5⟩⟩ := ha
  · by_cases e : n < cap
    · exact cj_add1 hfl h1 h4 e h3 hv
    · have e2 : cap = n := by omega
      subst e2
      exact cj_add2 hfl h1 h4 rfl h5 h3 hob hv
  · have e2 : n = 0 := by omega
    subst e2 h4
    exact cj_add3 (n := 0) hfl h1 h5 rfl hv
theorem cj_rc {a n i : Nat} {x y : Value} (hfl : l.stackTraces = false) (ha : h a = some (.inr (6, [x, y, .int (nI n)]))) (hi : i ≤ n) (hn : n < 2 ^ 31) : hk_Ctr G l 1 yJx4a65c_rangeCheckForAdd_d00df cJx4a65c_rangeCheckForAdd_d00df 2 none 0 0 [.ref a, .int (nI i)] h (hk_qv fun h1 => h1 = h) hk_no := by
  refine hk_enter (by decide) hfl (Nat.le_of_ble_eq_true rfl) rfl ?_
  refine hk_iload_n dJx4a65c_rangeCheckForAdd_d00df_0 rfl rfl rfl ?_
  refine hk_aload_n dJx4a65c_rangeCheckForAdd_d00df_1 rfl rfl rfl ?_
  refine hk_getf dJx4a65c_rangeCheckForAdd_d00df_2 rfl fl_Jx4a65c_48 (ha) rfl ?_
  refine cx_icmp_gt (tgt := 12) (by omega) (by omega) dJx4a65c_rangeCheckForAdd_d00df_5 (by decide) rfl (fun z5 => ?_) (fun z5 => ?_)
  · exact absurd z5 (by omega)
  · skip
    refine hk_iload_n dJx4a65c_rangeCheckForAdd_d00df_8 rfl rfl rfl ?_
    refine hk_if_ge (tgt := 25) dJx4a65c_rangeCheckForAdd_d00df_9 (by decide) rfl (fun z9 => ?_) (fun z9 => ?_)
    · skip
      exact hk_vreturn rfl dJx4a65c_rangeCheckForAdd_d00df_25 (⟨rfl, rfl⟩)
    · exact absurd (show (0 : Int32) ≤ nI i from nI_pos' (by omega)) z9
theorem cj_adi {a ed n v0 cap : Nat} {mc : Int32} {f : Nat → Option Nat} (hfl : l.stackTraces = false) (ha : h a = some (.inr (6, [.int mc, .ref ed, .int (nI n)]))) (he : h ed = some (.inl (5, cap, .inr (.inr (.inr (.inr (f))))))) (hn : n < cap) (hcap : cap ≤ 20000) (hob : ∀ i v, i < n → f i = some v → hk_ob G h v) (hv : hk_ob G h v0) : hk_Ctr G l 7 yJx4a65c_add_7a177 cJx4a65c_add_7a177 5 none 0 0 [.ref a, .int (nI 0), .ref v0] h (hk_qv fun h1 => h1 = hk_set (hk_set h ed (.inl (5, cap, .inr (.inr (.inr (.inr (va_up (va_cpy f f 0 1 n) 0 (some v0)))))))) a (.inr (6, [.int (mc + nI 1), .ref ed, .int (nI (n + 1))]))) hk_no := by
  refine hk_enter (by decide) hfl (Nat.le_of_ble_eq_true rfl) rfl ?_
  refine hk_aload_n dJx4a65c_add_7a177_0 rfl rfl rfl ?_
  refine hk_iload_n dJx4a65c_add_7a177_1 rfl rfl rfl ?_
  refine hk_callV dJx4a65c_add_7a177_2 rfl mv_Jx4a65c_135 (cj_rc hfl ha (Nat.zero_le _) (by omega)) rfl rfl (ha) rfl rfl (by decide) ⟨Nat.zero_le _, Nat.zero_le _⟩ (Nat.le_of_ble_eq_true rfl) (hk_kv fun h1 q => ?_) hk_nx
  subst q
  refine hk_aload_n dJx4a65c_add_7a177_5 rfl rfl rfl ?_
  refine hk_dup dJx4a65c_add_7a177_6 rfl rfl ?_
  refine hk_getf dJx4a65c_add_7a177_7 rfl fl_Jx4a65c_63 (ha) rfl ?_
  refine hk_iconst (v := nI 1) dJx4a65c_add_7a177_10 rfl (by decide) ?_
  refine hk_iadd dJx4a65c_add_7a177_11 rfl ?_
  refine hk_putf dJx4a65c_add_7a177_12 rfl (fw_Jx4a65c_63 rfl) ha rfl rfl (Nat.lt_of_lt_of_eq (by decide : 0 < 3) rfl) ?_
  have he2 := (hk_set_ne (x := .inr (6, [.int (mc + nI 1), .ref ed, .int (nI n)])) (hk_ne_oa ha he)).trans he
  have hne := hk_ne_oa ha he
  refine hk_aload_n dJx4a65c_add_7a177_15 rfl rfl rfl ?_
  refine hk_getf dJx4a65c_add_7a177_16 rfl fl_Jx4a65c_48 hk_set_eq rfl ?_
  refine hk_dup dJx4a65c_add_7a177_19 rfl rfl ?_
  refine hk_istore_n dJx4a65c_add_7a177_20 rfl rfl (by decide) rfl ?_
  refine hk_aload_n dJx4a65c_add_7a177_21 rfl rfl rfl ?_
  refine hk_getf dJx4a65c_add_7a177_22 rfl fl_Jx4a65c_9 hk_set_eq rfl ?_
  refine hk_dup dJx4a65c_add_7a177_25 rfl rfl ?_
  refine hk_astore dJx4a65c_add_7a177_26 rfl (by decide) rfl ?_
  refine hk_alen (t := 5) (cnt := cap) dJx4a65c_add_7a177_28 rfl (by decide) he2 (show Int32.ofNat cap = nI cap from rfl) ?_
  refine cx_icmp_ne (tgt := 38) (by omega) (by omega) dJx4a65c_add_7a177_29 (by decide) rfl (fun z29 => ?_) (fun z29 => ?_)
  · skip
    refine hk_aload dJx4a65c_add_7a177_38 rfl rfl ?_
    refine hk_iload_n dJx4a65c_add_7a177_40 rfl rfl rfl ?_
    refine hk_aload dJx4a65c_add_7a177_41 rfl rfl ?_
    refine hk_iload_n dJx4a65c_add_7a177_43 rfl rfl rfl ?_
    refine hk_iconst (v := nI 1) dJx4a65c_add_7a177_44 rfl (by decide) ?_
    refine hk_iadd dJx4a65c_add_7a177_45 rfl ?_
    refine cx_top (nI_add _ _) ?_
    refine hk_iload_n dJx4a65c_add_7a177_46 rfl rfl rfl ?_
    refine hk_iload_n dJx4a65c_add_7a177_47 rfl rfl rfl ?_
    refine hk_isub dJx4a65c_add_7a177_48 rfl ?_
    refine cx_top (cx_nsub (by omega)) ?_
    have e0 : (nI 0).toNatClampNeg = 0 := rfl
    have e1 : (nI (0 + 1)).toNatClampNeg = 1 := rfl
    have e2 : (nI (n - 0)).toNatClampNeg = n := nI_clamp (by omega)
    refine hk_acopy dJx4a65c_add_7a177_49 rfl ay_Jx4a65c_112 he2 he2 (nI_pos (by decide)) (nI_pos (by decide)) (nI_pos (by omega)) (by rw [e0, e2]; omega) (by rw [e1, e2]; omega) (fun i hi v hv => hk_oa_o (hob i v (by rw [e2] at hi; exact hi) (by rw [e0, Nat.zero_add] at hv; exact hv)) ha) (by decide) (Nat.le_of_ble_eq_true rfl) ?_
    rw [e0, e1, e2]
    refine hk_aload dJx4a65c_add_7a177_52 rfl rfl ?_
    refine hk_iload_n dJx4a65c_add_7a177_54 rfl rfl rfl ?_
    refine hk_aload_n dJx4a65c_add_7a177_55 rfl rfl rfl ?_
    refine hx_aast dJx4a65c_add_7a177_56 rfl hk_set_eq (by omega) (by omega) (hk_oa_r (hk_oa_o hv ha) he2) ?_
    refine hx_cg hk_set_set ?_
    refine hk_aload_n dJx4a65c_add_7a177_57 rfl rfl rfl ?_
    refine hk_iload_n dJx4a65c_add_7a177_58 rfl rfl rfl ?_
    refine hk_iconst (v := nI 1) dJx4a65c_add_7a177_59 rfl (by decide) ?_
    refine hk_iadd dJx4a65c_add_7a177_60 rfl ?_
    refine cx_top (nI_add _ _) ?_
    refine hk_putf dJx4a65c_add_7a177_61 rfl (fw_Jx4a65c_48 rfl) ((hk_set_ne hne.symm).trans hk_set_eq) rfl rfl (Nat.lt_of_lt_of_eq (by decide : 2 < 3) rfl) ?_
    refine hx_cg (hk_set_comm hne) ?_
    skip
    exact hk_vreturn rfl dJx4a65c_add_7a177_64 (⟨rfl, by show hk_set (hk_set (hk_set _ _ _) _ _) _ _ = _; rw [hk_set_set]; exact hk_set_comm hne.symm⟩)
  · exact absurd z29 (by omega)
theorem cj_adi0 {a v0 : Nat} {mc : Int32} (hfl : l.stackTraces = false) (ha : h a = some (.inr (6, [.int mc, .ref (hk_K G 1001), .int (nI 0)]))) (hv : hk_ob G h v0) : hk_Ctr G l 7 yJx4a65c_add_7a177 cJx4a65c_add_7a177 5 none 1 10 [.ref a, .int (nI 0), .ref v0] h (hk_qv fun h1 => ∃ e1 : Nat, h e1 = none ∧ h1 = hk_set (hk_set h e1 (.inl (5, 10, .inr (.inr (.inr (.inr (va_up (fun _ => none) 0 (some v0)))))))) a (.inr (6, [.int (mc + nI 1), .ref e1, .int (nI (0 + 1))]))) hk_no := by
  refine hk_enter (by decide) hfl (Nat.le_of_ble_eq_true rfl) rfl ?_
  refine hk_aload_n dJx4a65c_add_7a177_0 rfl rfl rfl ?_
  refine hk_iload_n dJx4a65c_add_7a177_1 rfl rfl rfl ?_
  refine hk_callV dJx4a65c_add_7a177_2 rfl mv_Jx4a65c_135 (cj_rc hfl ha (Nat.zero_le _) (by decide)) rfl rfl (ha) rfl rfl (by decide) ⟨Nat.zero_le _, Nat.zero_le _⟩ (Nat.le_of_ble_eq_true rfl) (hk_kv fun h1 q => ?_) hk_nx
  subst q
  refine hk_aload_n dJx4a65c_add_7a177_5 rfl rfl rfl ?_
  refine hk_dup dJx4a65c_add_7a177_6 rfl rfl ?_
  refine hk_getf dJx4a65c_add_7a177_7 rfl fl_Jx4a65c_63 (ha) rfl ?_
  refine hk_iconst (v := nI 1) dJx4a65c_add_7a177_10 rfl (by decide) ?_
  refine hk_iadd dJx4a65c_add_7a177_11 rfl ?_
  refine hk_putf dJx4a65c_add_7a177_12 rfl (fw_Jx4a65c_63 rfl) ha rfl rfl (Nat.lt_of_lt_of_eq (by decide : 0 < 3) rfl) ?_
  have hv2 := hk_oa_o (fs' := [.int (mc + nI 1), .ref (hk_K G 1001), .int (nI 0)]) hv ha
  refine hk_aload_n dJx4a65c_add_7a177_15 rfl rfl rfl ?_
  refine hk_getf dJx4a65c_add_7a177_16 rfl fl_Jx4a65c_48 hk_set_eq rfl ?_
  refine hk_dup dJx4a65c_add_7a177_19 rfl rfl ?_
  refine hk_istore_n dJx4a65c_add_7a177_20 rfl rfl (by decide) rfl ?_
  refine hk_aload_n dJx4a65c_add_7a177_21 rfl rfl rfl ?_
  refine hk_getf dJx4a65c_add_7a177_22 rfl fl_Jx4a65c_9 hk_set_eq rfl ?_
  refine hk_dup dJx4a65c_add_7a177_25 rfl rfl ?_
  refine hk_astore dJx4a65c_add_7a177_26 rfl (by decide) rfl ?_
  refine hk_tlen (ty := .object "java/lang/Object") (N := 0) dJx4a65c_add_7a177_28 rfl (fun U H z => z.1.2.1) (show Int32.ofNat 0 = nI 0 from rfl) ?_
  refine cx_icmp_ne (tgt := 38) (by omega) (by omega) dJx4a65c_add_7a177_29 (by decide) rfl (fun z29 => ?_) (fun z29 => ?_)
  · exact absurd rfl z29
  · skip
    refine hk_aload_n dJx4a65c_add_7a177_32 rfl rfl rfl ?_
    refine hk_callV dJx4a65c_add_7a177_33 rfl mv_Jx4a65c_129 (cj_gr0 hfl hk_set_eq) rfl rfl hk_set_eq rfl rfl (by decide) (by decide) (Nat.le_of_ble_eq_true rfl) (hk_kr fun e1 h1 q => ?_) hk_nx
    obtain ⟨q1, rfl⟩ := q
    have hae : a ≠ e1 := fun e => by rw [← e, hk_set_eq] at q1; cases q1
    have hv3 := hk_oa_n (x := .inl (5, 10, .inr (.inr (.inr (.inr (fun _ => none)))))) hv2 q1
    refine hx_cg (hk_set_comm hae.symm) ?_
    refine hx_cg (congrArg (fun z => hk_set z e1 _) hk_set_set) ?_
    rw [hk_set_ne hae.symm] at q1
    refine hk_astore dJx4a65c_add_7a177_36 rfl (by decide) rfl ?_
    refine hk_aload dJx4a65c_add_7a177_38 rfl rfl ?_
    refine hk_iload_n dJx4a65c_add_7a177_40 rfl rfl rfl ?_
    refine hk_aload dJx4a65c_add_7a177_41 rfl rfl ?_
    refine hk_iload_n dJx4a65c_add_7a177_43 rfl rfl rfl ?_
    refine hk_iconst (v := nI 1) dJx4a65c_add_7a177_44 rfl (by decide) ?_
    refine hk_iadd dJx4a65c_add_7a177_45 rfl ?_
    refine cx_top (nI_add _ _) ?_
    refine hk_iload_n dJx4a65c_add_7a177_46 rfl rfl rfl ?_
    refine hk_iload_n dJx4a65c_add_7a177_47 rfl rfl rfl ?_
    refine hk_isub dJx4a65c_add_7a177_48 rfl ?_
    refine cx_top (cx_nsub (by omega)) ?_
    refine hk_acopy dJx4a65c_add_7a177_49 rfl ay_Jx4a65c_112 hk_set_eq hk_set_eq (nI_pos (by decide)) (nI_pos (by decide)) (nI_pos (by decide)) (by decide) (by decide) (fun i hi => absurd hi (Nat.not_lt_zero _)) (by decide) (Nat.le_of_ble_eq_true rfl) ?_
    refine hx_cg hk_set_set ?_
    refine hk_aload dJx4a65c_add_7a177_52 rfl rfl ?_
    refine hk_iload_n dJx4a65c_add_7a177_54 rfl rfl rfl ?_
    refine hk_aload_n dJx4a65c_add_7a177_55 rfl rfl rfl ?_
    have e9 : va_up (va_cpy (fun _ => none) (fun _ => none) (nI 0).toNatClampNeg (nI (0 + 1)).toNatClampNeg (nI (0 - 0)).toNatClampNeg) 0 (some v0) = va_up (fun _ => none) 0 (some v0) := by funext j; unfold va_up va_cpy; simp
    refine hx_aast dJx4a65c_add_7a177_56 rfl hk_set_eq (by decide) (by decide) (hk_oa_n (hk_oa_o (fs' := [.int (mc + nI 1), .ref e1, .int (nI 0)]) hv ha) (by rw [hk_set_ne hae.symm]; exact q1)) ?_
    refine hx_cg hk_set_set ?_
    rw [e9]
    refine hk_aload_n dJx4a65c_add_7a177_57 rfl rfl rfl ?_
    refine hk_iload_n dJx4a65c_add_7a177_58 rfl rfl rfl ?_
    refine hk_iconst (v := nI 1) dJx4a65c_add_7a177_59 rfl (by decide) ?_
    refine hk_iadd dJx4a65c_add_7a177_60 rfl ?_
    refine cx_top (nI_add _ _) ?_
    refine hk_putf dJx4a65c_add_7a177_61 rfl (fw_Jx4a65c_48 rfl) ((hk_set_ne hae).trans hk_set_eq) rfl rfl (Nat.lt_of_lt_of_eq (by decide : 2 < 3) rfl) ?_
    exact hk_vreturn rfl dJx4a65c_add_7a177_64 (⟨rfl, e1, q1, by show hk_set (hk_set (hk_set _ _ _) _ _) _ _ = _; rw [hk_set_comm hae, hk_set_set]; rfl⟩)
theorem cj_ta {a ed n cap : Nat} {mc : Int32} {f : Nat → Option Nat} (hfl : l.stackTraces = false) (ha : h a = some (.inr (6, [.int mc, .ref ed, .int (nI n)]))) (he : h ed = some (.inl (5, cap, .inr (.inr (.inr (.inr (f))))))) (hn : n ≤ cap) (hcap : cap ≤ 20000) (hob : ∀ i v, i < n → f i = some v → hk_ob G h v) : hk_Ctr G l 4 yJx4a65c_toArray_d5877 cJx4a65c_toArray_d5877 1 (some (.array (.object "java/lang/Object"))) 1 n [.ref a] h (hk_qr fun v h1 => h v = none ∧ h1 = hk_set h v (.inl (5, n, .inr (.inr (.inr (.inr (va_cpy f (fun _ => none) 0 0 n))))))) hk_no := by
  refine hk_enter (by decide) hfl (Nat.le_of_ble_eq_true rfl) rfl ?_
  have hG := cj_cp (N := n) hfl he (by omega) (by omega) (fun i v hi => hob i v (by omega))
  rw [Nat.min_eq_right hn] at hG
  refine hk_aload_n dJx4a65c_toArray_d5877_0 rfl rfl rfl ?_
  refine hk_getf dJx4a65c_toArray_d5877_1 rfl fl_Jx4a65c_9 (ha) rfl ?_
  refine hk_aload_n dJx4a65c_toArray_d5877_4 rfl rfl rfl ?_
  refine hk_getf dJx4a65c_toArray_d5877_5 rfl fl_Jx4a65c_48 (ha) rfl ?_
  refine hk_callS dJx4a65c_toArray_d5877_8 rfl ms_Jx4a65c_66 hG rfl rfl (by decide) ⟨by decide, Nat.le_refl _⟩ (Nat.le_of_ble_eq_true rfl) (hk_kr fun v h1 q => ?_) hk_nx
  obtain ⟨q1, rfl⟩ := q
  exact hk_areturn rfl (Or.inr ⟨_, rfl⟩) (Or.inr ⟨_, rfl⟩) dJx4a65c_toArray_d5877_11 (⟨_, rfl, q1, rfl⟩)
theorem cj_cp30  (hfl : l.stackTraces = false) : hk_Ctr G l 2 yJ7_copyOf_6403c cJ7_copyOf_6403c 4 (some (.array (.object "java/lang/Object"))) 1 0 [.ref (hk_K G 1001), .int (nI 0), .ref (hk_K G 1006)] h (hk_qr fun v h1 => h v = none ∧ h1 = hk_set h v (.inl (5, 0, .inr (.inr (.inr (.inr (fun _ => none))))))) hk_no := by
  refine hk_enter (by decide) hfl (Nat.le_of_ble_eq_true rfl) rfl ?_
  refine hk_aload_n dJ7_copyOf_6403c_0 rfl rfl rfl ?_
  refine hk_ldcM dJ7_copyOf_6403c_1 rfl kl_J7_110 ?_
  refine hk_acmp_ne (rx := some (hk_K G 1006)) (ry := some (hk_K G 1006)) (tgt := 13) dJ7_copyOf_6403c_3 (by decide) rfl (fun z => absurd rfl z) (fun _ => ?_)
  refine hk_iload_n dJ7_copyOf_6403c_6 rfl rfl rfl ?_
  refine hk_anewa (N := 0) dJ7_copyOf_6403c_7 rfl kl_J7_2 (by decide) (by decide) (by decide) ⟨by decide, Nat.le_refl _⟩ fun q hq => ?_
  refine hk_goto (tgt := 24) dJ7_copyOf_6403c_10 (by decide) ?_
  refine hk_astore_n dJ7_copyOf_6403c_24 rfl rfl (by decide) rfl ?_
  refine hk_aload_n dJ7_copyOf_6403c_25 rfl rfl rfl ?_
  refine hk_iconst (v := nI 0) dJ7_copyOf_6403c_26 rfl (by decide) ?_
  refine hk_aload_n dJ7_copyOf_6403c_27 rfl rfl rfl ?_
  refine hk_iconst (v := nI 0) dJ7_copyOf_6403c_28 rfl (by decide) ?_
  refine hk_aload_n dJ7_copyOf_6403c_29 rfl rfl rfl ?_
  refine hk_tlen (ty := .object "java/lang/Object") (N := 0) dJ7_copyOf_6403c_30 rfl (fun U H z => z.1.2.1) (show Int32.ofNat 0 = nI 0 from rfl) ?_
  refine hk_iload_n dJ7_copyOf_6403c_31 rfl rfl rfl ?_
  refine cx_mmin dJ7_copyOf_6403c_32 rfl ms_J7_304 (by decide) (Nat.le_of_ble_eq_true rfl) ?_
  refine hk_acopy0 dJ7_copyOf_6403c_35 rfl ay_J7_150 hk_set_eq rfl rfl (by decide) (by decide) (Nat.le_of_ble_eq_true rfl) ?_
  refine hk_aload_n dJ7_copyOf_6403c_38 rfl rfl rfl ?_
  exact hk_areturn rfl (Or.inr ⟨_, rfl⟩) (Or.inr ⟨_, rfl⟩) dJ7_copyOf_6403c_39 (⟨_, rfl, hq, rfl⟩)
theorem cj_cp0  (hfl : l.stackTraces = false) : hk_Ctr G l 3 yJ7_copyOf_1904c cJ7_copyOf_1904c 2 (some (.array (.object "java/lang/Object"))) 1 0 [.ref (hk_K G 1001), .int (nI 0)] h (hk_qr fun v h1 => h v = none ∧ h1 = hk_set h v (.inl (5, 0, .inr (.inr (.inr (.inr (fun _ => none))))))) hk_no := by
  refine hk_enter (by decide) hfl (Nat.le_of_ble_eq_true rfl) rfl ?_
  refine hk_aload_n dJ7_copyOf_1904c_0 rfl rfl rfl ?_
  refine hk_iload_n dJ7_copyOf_1904c_1 rfl rfl rfl ?_
  refine hk_aload_n dJ7_copyOf_1904c_2 rfl rfl rfl ?_
  refine hk_getC dJ7_copyOf_1904c_3 rfl gc_J7_86 (Or.inr rfl) (by decide) (Nat.le_of_ble_eq_true rfl) ?_
  refine hk_callS dJ7_copyOf_1904c_6 rfl ms_J7_300 (cj_cp30 hfl) rfl rfl (by decide) ⟨by decide, Nat.le_refl _⟩ (Nat.le_of_ble_eq_true rfl) (hk_kr fun v h1 q => ?_) hk_nx
  obtain ⟨q1, rfl⟩ := q
  exact hk_areturn rfl (Or.inr ⟨_, rfl⟩) (Or.inr ⟨_, rfl⟩) dJ7_copyOf_1904c_9 (⟨_, rfl, q1, rfl⟩)
theorem cj_ta0 {a : Nat} {mc : Int32} (hfl : l.stackTraces = false) (ha : h a = some (.inr (6, [.int mc, .ref (hk_K G 1001), .int (nI 0)]))) : hk_Ctr G l 4 yJx4a65c_toArray_d5877 cJx4a65c_toArray_d5877 1 (some (.array (.object "java/lang/Object"))) 1 0 [.ref a] h (hk_qr fun v h1 => h v = none ∧ h1 = hk_set h v (.inl (5, 0, .inr (.inr (.inr (.inr (fun _ => none))))))) hk_no := by
  refine hk_enter (by decide) hfl (Nat.le_of_ble_eq_true rfl) rfl ?_
  refine hk_aload_n dJx4a65c_toArray_d5877_0 rfl rfl rfl ?_
  refine hk_getf dJx4a65c_toArray_d5877_1 rfl fl_Jx4a65c_9 (ha) rfl ?_
  refine hk_aload_n dJx4a65c_toArray_d5877_4 rfl rfl rfl ?_
  refine hk_getf dJx4a65c_toArray_d5877_5 rfl fl_Jx4a65c_48 (ha) rfl ?_
  refine hk_callS dJx4a65c_toArray_d5877_8 rfl ms_Jx4a65c_66 (cj_cp0 hfl) rfl rfl (by decide) ⟨by decide, Nat.le_refl _⟩ (Nat.le_of_ble_eq_true rfl) (hk_kr fun v h1 q => ?_) hk_nx
  obtain ⟨q1, rfl⟩ := q
  exact hk_areturn rfl (Or.inr ⟨_, rfl⟩) (Or.inr ⟨_, rfl⟩) dJx4a65c_toArray_d5877_11 (⟨_, rfl, q1, rfl⟩)
end CK

section CL
variable {G : hk_G} {l : Launch} {h : hk_H}
theorem cj_aa {a ed n cap c ed2 n2 cap2 : Nat} {mc mc2 : Int32} {f f2 : Nat → Option Nat} (hfl : l.stackTraces = false) (ha : h a = some (.inr (6, [.int mc, .ref ed, .int (nI n)]))) (he : h ed = some (.inl (5, cap, .inr (.inr (.inr (.inr (f))))))) (hc : h c = some (.inr (6, [.int mc2, .ref ed2, .int (nI n2)]))) (he2 : h ed2 = some (.inl (5, cap2, .inr (.inr (.inr (.inr (f2))))))) (hn1 : 1 ≤ n2) (hn2 : n2 ≤ cap2) (hcap2 : cap2 ≤ 20000) (hn : n + n2 ≤ cap) (hcap : cap ≤ 20000) (hob : ∀ i v, i < n2 → f2 i = some v → hk_ob G h v) : hk_Ctr G l 7 yJx4a65c_addAll_f0b43 cJx4a65c_addAll_f0b43 6 (some .boolean) 1 n2 [.ref a, .ref c] h (hk_qi fun v h1 => v = nI 1 ∧ ∃ q : Nat, h q = none ∧ h1 = hk_set (hk_set (hk_set h q (.inl (5, n2, .inr (.inr (.inr (.inr (va_cpy f2 (fun _ => none) 0 0 n2))))))) ed (.inl (5, cap, .inr (.inr (.inr (.inr (va_cpy (va_cpy f2 (fun _ => none) 0 0 n2) f 0 n n2))))))) a (.inr (6, [.int (mc + nI 1), .ref ed, .int (nI (n + n2))]))) hk_no := by
  refine hk_enter (by decide) hfl (Nat.le_of_ble_eq_true rfl) rfl ?_
  refine hk_aload_n dJx4a65c_addAll_f0b43_0 rfl rfl rfl ?_
  refine hk_callF dJx4a65c_addAll_f0b43_1 rfl mf_Jx4a65c_42 (cj_ta hfl hc he2 hn2 hcap2 hob) rfl rfl hc rfl rfl (by decide) ⟨by decide, Nat.le_refl _⟩ (Nat.le_of_ble_eq_true rfl) (hk_kr fun q h1 z => ?_) hk_nx
  obtain ⟨q1, rfl⟩ := z
  have qa : q ≠ a := fun e => by rw [e, ha] at q1; cases q1
  have qe : q ≠ ed := fun e => by rw [e, he] at q1; cases q1
  have hea : ed ≠ a := hk_ne_oa ha he
  have ha1 := (hk_set_ne (x := .inl (5, n2, .inr (.inr (.inr (.inr (va_cpy f2 (fun _ => none) 0 0 n2)))))) qa.symm).trans ha
  have he1 := (hk_set_ne (x := .inl (5, n2, .inr (.inr (.inr (.inr (va_cpy f2 (fun _ => none) 0 0 n2)))))) qe.symm).trans he
  have hq1 : hk_set h q (.inl (5, n2, .inr (.inr (.inr (.inr (va_cpy f2 (fun _ => none) 0 0 n2)))))) q = some (.inl (5, n2, .inr (.inr (.inr (.inr (va_cpy f2 (fun _ => none) 0 0 n2)))))) := hk_set_eq
  refine hk_astore_n dJx4a65c_addAll_f0b43_6 rfl rfl (by decide) rfl ?_
  refine hk_aload_n dJx4a65c_addAll_f0b43_7 rfl rfl rfl ?_
  refine hk_dup dJx4a65c_addAll_f0b43_8 rfl rfl ?_
  refine hk_getf dJx4a65c_addAll_f0b43_9 rfl fl_Jx4a65c_63 ha1 rfl ?_
  refine hk_iconst (v := nI 1) dJx4a65c_addAll_f0b43_12 rfl (by decide) ?_
  refine hk_iadd dJx4a65c_addAll_f0b43_13 rfl ?_
  refine hk_putf dJx4a65c_addAll_f0b43_14 rfl (fw_Jx4a65c_63 rfl) (ha1) rfl rfl (Nat.lt_of_lt_of_eq (by decide : 0 < 3) rfl) ?_
  have hq2 := (hk_set_ne (x := .inr (6, [.int (mc + nI 1), .ref ed, .int (nI n)])) qa).trans hq1
  have he3 := (hk_set_ne (x := .inr (6, [.int (mc + nI 1), .ref ed, .int (nI n)])) hea).trans he1
  refine hk_aload_n dJx4a65c_addAll_f0b43_17 rfl rfl rfl ?_
  refine hk_alen (t := 5) (cnt := n2) dJx4a65c_addAll_f0b43_18 rfl (by decide) hq2 (show Int32.ofNat n2 = nI n2 from rfl) ?_
  refine hk_istore_n dJx4a65c_addAll_f0b43_19 rfl rfl (by decide) rfl ?_
  refine hk_iload_n dJx4a65c_addAll_f0b43_20 rfl rfl rfl ?_
  refine cx_ifn_ne (tgt := 26) (by omega) dJx4a65c_addAll_f0b43_21 (by decide) rfl (fun z21 => ?_) (fun z21 => ?_)
  · skip
    refine hk_iload_n dJx4a65c_addAll_f0b43_26 rfl rfl rfl ?_
    refine hk_aload_n dJx4a65c_addAll_f0b43_27 rfl rfl rfl ?_
    refine hk_getf dJx4a65c_addAll_f0b43_28 rfl fl_Jx4a65c_9 hk_set_eq rfl ?_
    refine hk_dup dJx4a65c_addAll_f0b43_31 rfl rfl ?_
    refine hk_astore dJx4a65c_addAll_f0b43_32 rfl (by decide) rfl ?_
    refine hk_alen (t := 5) (cnt := cap) dJx4a65c_addAll_f0b43_34 rfl (by decide) he3 (show Int32.ofNat cap = nI cap from rfl) ?_
    refine hk_aload_n dJx4a65c_addAll_f0b43_35 rfl rfl rfl ?_
    refine hk_getf dJx4a65c_addAll_f0b43_36 rfl fl_Jx4a65c_48 hk_set_eq rfl ?_
    refine hk_dup dJx4a65c_addAll_f0b43_39 rfl rfl ?_
    refine hk_istore dJx4a65c_addAll_f0b43_40 rfl (by decide) rfl ?_
    refine hk_isub dJx4a65c_addAll_f0b43_42 rfl ?_
    refine cx_top (cx_nsub (by omega)) ?_
    refine cx_icmp_le (tgt := 56) (by omega) (by omega) dJx4a65c_addAll_f0b43_43 (by decide) rfl (fun z43 => ?_) (fun z43 => ?_)
    · skip
      refine hk_aload_n dJx4a65c_addAll_f0b43_56 rfl rfl rfl ?_
      refine hk_iconst (v := nI 0) dJx4a65c_addAll_f0b43_57 rfl (by decide) ?_
      refine hk_aload dJx4a65c_addAll_f0b43_58 rfl rfl ?_
      refine hk_iload dJx4a65c_addAll_f0b43_60 rfl rfl ?_
      refine hk_iload_n dJx4a65c_addAll_f0b43_62 rfl rfl rfl ?_
      have e0 : (nI 0).toNatClampNeg = 0 := rfl
      have e1 : (nI n).toNatClampNeg = n := nI_clamp (by omega)
      have e2 : (nI n2).toNatClampNeg = n2 := nI_clamp (by omega)
      refine hk_acopy dJx4a65c_addAll_f0b43_63 rfl ay_Jx4a65c_112 hq2 he3 (nI_pos (by decide)) (nI_pos (by omega)) (nI_pos (by omega)) (by rw [e0, e2]; omega) (by rw [e1, e2]; omega) (fun i hi v hv => ?_) (by decide) (Nat.le_of_ble_eq_true rfl) ?_
      · rw [e0, Nat.zero_add] at hv
        rw [e2] at hi
        unfold va_cpy at hv
        rw [if_pos (by omega)] at hv
        exact hk_oa_o (hk_oa_n (hob (0 + (i - 0)) v (by omega) hv) q1) ha1
      rw [e0, e1, e2]
      refine hk_aload_n dJx4a65c_addAll_f0b43_66 rfl rfl rfl ?_
      refine hk_iload dJx4a65c_addAll_f0b43_67 rfl rfl ?_
      refine hk_iload_n dJx4a65c_addAll_f0b43_69 rfl rfl rfl ?_
      refine hk_iadd dJx4a65c_addAll_f0b43_70 rfl ?_
      refine cx_top (nI_add _ _) ?_
      refine hk_putf dJx4a65c_addAll_f0b43_71 rfl (fw_Jx4a65c_48 rfl) ((hk_set_ne hea.symm).trans hk_set_eq) rfl rfl (Nat.lt_of_lt_of_eq (by decide : 2 < 3) rfl) ?_
      refine hk_iconst (v := nI 1) dJx4a65c_addAll_f0b43_74 rfl (by decide) ?_
      exact hk_ireturn rfl (by decide) dJx4a65c_addAll_f0b43_75 (⟨_, rfl, rfl, q, q1, by rw [hk_set_comm hea.symm, hk_set_set]; rfl⟩)
    · exact absurd z43 (by omega)
  · exact absurd z21 (by omega)
theorem cj_aa0 {a n c : Nat} {mc mc2 : Int32} {y0 : Value} (hfl : l.stackTraces = false) (ha : h a = some (.inr (6, [.int mc, y0, .int (nI n)]))) (hc : h c = some (.inr (6, [.int mc2, .ref (hk_K G 1001), .int (nI 0)]))) : hk_Ctr G l 7 yJx4a65c_addAll_f0b43 cJx4a65c_addAll_f0b43 6 (some .boolean) 1 0 [.ref a, .ref c] h (hk_qi fun v h1 => v = nI 0 ∧ ∃ q : Nat, h q = none ∧ h1 = hk_set (hk_set h q (.inl (5, 0, .inr (.inr (.inr (.inr (fun _ => none))))))) a (.inr (6, [.int (mc + nI 1), y0, .int (nI n)]))) hk_no := by
  refine hk_enter (by decide) hfl (Nat.le_of_ble_eq_true rfl) rfl ?_
  refine hk_aload_n dJx4a65c_addAll_f0b43_0 rfl rfl rfl ?_
  refine hk_callF dJx4a65c_addAll_f0b43_1 rfl mf_Jx4a65c_42 (cj_ta0 hfl hc) rfl rfl hc rfl rfl (by decide) ⟨by decide, Nat.le_refl _⟩ (Nat.le_of_ble_eq_true rfl) (hk_kr fun q h1 z => ?_) hk_nx
  obtain ⟨q1, rfl⟩ := z
  have qa : q ≠ a := fun e => by rw [e, ha] at q1; cases q1
  have ha1 := (hk_set_ne (x := .inl (5, 0, .inr (.inr (.inr (.inr (fun _ => none)))))) qa.symm).trans ha
  have hq1 : hk_set h q (.inl (5, 0, .inr (.inr (.inr (.inr (fun _ => none)))))) q = some (.inl (5, 0, .inr (.inr (.inr (.inr (fun _ => none)))))) := hk_set_eq
  refine hk_astore_n dJx4a65c_addAll_f0b43_6 rfl rfl (by decide) rfl ?_
  refine hk_aload_n dJx4a65c_addAll_f0b43_7 rfl rfl rfl ?_
  refine hk_dup dJx4a65c_addAll_f0b43_8 rfl rfl ?_
  refine hk_getf dJx4a65c_addAll_f0b43_9 rfl fl_Jx4a65c_63 ha1 rfl ?_
  refine hk_iconst (v := nI 1) dJx4a65c_addAll_f0b43_12 rfl (by decide) ?_
  refine hk_iadd dJx4a65c_addAll_f0b43_13 rfl ?_
  refine hk_putf dJx4a65c_addAll_f0b43_14 rfl (fw_Jx4a65c_63 rfl) (ha1) rfl rfl (Nat.lt_of_lt_of_eq (by decide : 0 < 3) rfl) ?_
  have hq2 := (hk_set_ne (x := .inr (6, [.int (mc + nI 1), y0, .int (nI n)])) qa).trans hq1
  refine hk_aload_n dJx4a65c_addAll_f0b43_17 rfl rfl rfl ?_
  refine hk_alen (t := 5) (cnt := 0) dJx4a65c_addAll_f0b43_18 rfl (by decide) hq2 (show Int32.ofNat 0 = nI 0 from rfl) ?_
  refine hk_istore_n dJx4a65c_addAll_f0b43_19 rfl rfl (by decide) rfl ?_
  refine hk_iload_n dJx4a65c_addAll_f0b43_20 rfl rfl rfl ?_
  refine cx_ifn_ne (tgt := 26) (by omega) dJx4a65c_addAll_f0b43_21 (by decide) rfl (fun z21 => ?_) (fun z21 => ?_)
  · exact absurd rfl z21
  · skip
    refine hk_iconst (v := nI 0) dJx4a65c_addAll_f0b43_24 rfl (by decide) ?_
    exact hk_ireturn rfl (by decide) dJx4a65c_addAll_f0b43_25 (⟨_, rfl, rfl, q, q1, rfl⟩)
theorem cj_cv {c : Nat} (hfl : l.stackTraces = false) (hc : c < 128) : hk_Ctr G l 1 yJ11_valueOf_f0083 cJ11_valueOf_f0083 1 (some (.object "java/lang/Character")) 0 0 [.int (nI c)] h (hk_qr fun v h1 => v = hk_K G (2000 + c) ∧ h1 = h) hk_no := by
  refine hk_enter (by decide) hfl (Nat.le_of_ble_eq_true rfl) rfl ?_
  refine hk_iload_n dJ11_valueOf_f0083_0 rfl rfl rfl ?_
  refine hk_bipush (v := nI 127) dJ11_valueOf_f0083_1 rfl (by decide) ?_
  refine cx_icmp_gt (tgt := 12) (by omega) (by omega) dJ11_valueOf_f0083_3 (by decide) rfl (fun z3 => ?_) (fun z3 => ?_)
  · exact absurd z3 (by omega)
  · skip
    refine hk_gets dJ11_valueOf_f0083_6 rfl (fun U H z => z.2.1.1) sl_J11_47 ?_
    refine hk_iload_n dJ11_valueOf_f0083_9 rfl rfl rfl ?_
    refine hk_tald dJ11_valueOf_f0083_10 rfl (fun U H z => z.2.1.2.1) (vp_in_nI hc (by decide)) (show _ = Value.ref (hk_K G (2000 + c)) from by rw [nI_clamp (by omega)]) ?_
    exact hk_areturn rfl (Or.inl ⟨_, rfl⟩) (Or.inr ⟨_, rfl⟩) dJ11_valueOf_f0083_11 (⟨_, rfl, rfl, rfl⟩)
theorem nar_ch {c : Nat} (hc : c < 65536) : narrow .char (.int (nI c)) = .int (nI c) := by
  have h := vp_nar_char (nI c)
  have e : (nI c).toUInt32.toUInt16.toUInt32.toInt32 = nI c := by
    apply Int32.toBitVec_inj.mp
    have e1 : (nI c).toBitVec = BitVec.ofNat 32 c := rfl
    show ((nI c).toBitVec.setWidth 16).setWidth 32 = (nI c).toBitVec
    rw [e1]
    apply BitVec.eq_of_toNat_eq
    simp only [BitVec.toNat_setWidth, BitVec.toNat_ofNat]
    omega
  rw [e] at h
  cases hn : narrow .char (.int (nI c)) with
  | int z =>
    unfold vp_nar at h
    rw [hn] at h
    simp only at h
    rw [h]
  | _ => exact absurd hn (by unfold narrow; simp)
theorem cj_cc {c : Nat} (hfl : l.stackTraces = false) (hc : c < 128) : hk_Ctr G l 1 yJ11_charValue_ee9a4 cJ11_charValue_ee9a4 1 (some .char) 0 0 [.ref (hk_K G (2000 + c))] h (hk_qi fun v h1 => v = nI c ∧ h1 = h) hk_no := by
  refine hk_enter (by decide) hfl (Nat.le_of_ble_eq_true rfl) rfl ?_
  refine hk_aload_n dJ11_charValue_ee9a4_0 rfl rfl rfl ?_
  refine hk_jget dJ11_charValue_ee9a4_1 rfl (fun U H z => (z.2.1.2.2 c hc).2) sl_J11_19 ?_
  exact hk_ireturn rfl (nar_ch (by omega)) dJ11_charValue_ee9a4_4 (⟨_, rfl, rfl, rfl⟩)
theorem cj_iv {c : Nat} (hfl : l.stackTraces = false) (hc : c < 128) : hk_Ctr G l 1 yJ6_valueOf_2dffe cJ6_valueOf_2dffe 1 (some (.object "java/lang/Integer")) 0 0 [.int (nI c)] h (hk_qr fun v h1 => v = hk_K G (3000 + (c + 128)) ∧ h1 = h) hk_no := by
  refine hk_enter (by decide) hfl (Nat.le_of_ble_eq_true rfl) rfl ?_
  refine hk_iload_n dJ6_valueOf_2dffe_0 rfl rfl rfl ?_
  refine hk_bipush (v := -128) dJ6_valueOf_2dffe_1 rfl (by decide) ?_
  refine hk_icmp_lt (tgt := 23) dJ6_valueOf_2dffe_3 (by decide) rfl (fun z3 => ?_) (fun z3 => ?_)
  · exact absurd z3 (fun q => absurd (Int32.lt_trans q (by decide : (-128 : Int32) < 0)) (nI_pos (by omega)))
  · skip
    refine hk_iload_n dJ6_valueOf_2dffe_6 rfl rfl rfl ?_
    refine hk_gets dJ6_valueOf_2dffe_7 rfl (fun U H z => z.2.2.1.1) sl_J6_191 ?_
    refine cx_icmp_gt (c := 127) (tgt := 23) (by omega) (by decide) dJ6_valueOf_2dffe_10 (by decide) rfl (fun z => absurd z (by omega)) (fun _ => ?_)
    refine hk_gets dJ6_valueOf_2dffe_13 rfl (fun U H z => z.2.2.1.2.1) sl_J6_195 ?_
    refine hk_iload_n dJ6_valueOf_2dffe_16 rfl rfl rfl ?_
    refine hk_sipush (v := nI 128) dJ6_valueOf_2dffe_17 rfl (by decide) ?_
    refine hk_iadd dJ6_valueOf_2dffe_20 rfl ?_
    refine cx_top (nI_add _ _) ?_
    refine hk_tald dJ6_valueOf_2dffe_21 rfl (fun U H z => z.2.2.1.2.2.1) (vp_in_nI (by omega) (by decide)) (show _ = Value.ref (hk_K G (3000 + (c + 128))) from by rw [nI_clamp (by omega)]) ?_
    exact hk_areturn rfl (Or.inl ⟨_, rfl⟩) (Or.inr ⟨_, rfl⟩) dJ6_valueOf_2dffe_22 (⟨_, rfl, rfl, rfl⟩)
theorem cj_ic {c : Nat} (hfl : l.stackTraces = false) (hc : c < 128) : hk_Ctr G l 1 yJ6_intValue_8abf5 cJ6_intValue_8abf5 1 (some .int) 0 0 [.ref (hk_K G (3000 + (c + 128)))] h (hk_qi fun v h1 => v = nI c ∧ h1 = h) hk_no := by
  refine hk_enter (by decide) hfl (Nat.le_of_ble_eq_true rfl) rfl ?_
  refine hk_aload_n dJ6_intValue_8abf5_0 rfl rfl rfl ?_
  refine hk_jget dJ6_intValue_8abf5_1 rfl (fun U H z => (z.2.2.1.2.2.2 (c + 128) (by omega)).2) sl_J6_205 ?_
  refine cx_top (show nI (c + 128) - 128 = nI c from (cx_nsub (c := 128) (by omega)).trans (by rw [Nat.add_sub_cancel])) ?_
  exact hk_ireturn rfl (rfl) dJ6_intValue_8abf5_4 (⟨_, rfl, rfl, rfl⟩)
def cs_ce (v : Int32) : Bool := if v < 0 then false else (if nI 255 < v then false else true)
def cs_bt (j : Nat) : Int32 := if j = 0 then 103 else 115
def cs_ib (c : Int32) : Int32 := if cs_bt 0 = c then nI 0 else (if cs_bt 1 = c then nI 1 else -1)
def cs_ix (v : Int32) : Int32 := if v = nI 103 then nI 0 else (if v = nI 115 then nI 1 else -1)
theorem cs_ix_eq (v : Int32) : (if cs_ce v = true then cs_ib v.toInt8.toInt32 else -1) = cs_ix v := by
  by_cases h0 : v < 0
  · have e : cs_ce v = false := by unfold cs_ce; rw [if_pos h0]
    rw [e, if_neg (by decide)]
    unfold cs_ix
    rw [if_neg (fun q => by rw [q] at h0; exact absurd h0 (by decide)), if_neg (fun q => by rw [q] at h0; exact absurd h0 (by decide))]
  · obtain ⟨a, ha, rfl⟩ := nI_of h0
    by_cases h1 : 255 < a
    · have e : cs_ce (nI a) = false := by unfold cs_ce; rw [if_neg h0, if_pos (nI_lt h1 ha)]
      rw [e, if_neg (by decide)]
      unfold cs_ix
      rw [if_neg (fun q => by have := (nI_eq ha (by decide)).mp q; omega), if_neg (fun q => by have := (nI_eq ha (by decide)).mp q; omega)]
    · have e : cs_ce (nI a) = true := by unfold cs_ce; rw [if_neg h0, if_neg (nI_nlt (by omega) (by decide))]
      rw [e, if_pos rfl]
      have hd : ∀ b : Fin 256, cs_ib (nI b.val).toInt8.toInt32 = cs_ix (nI b.val) := by decide +kernel
      exact hd ⟨a, by omega⟩
theorem cj_il  (hfl : l.stackTraces = false) : hk_Ctr G l 1 yJ0_isLatin1_aae02 cJ0_isLatin1_aae02 1 (some .boolean) 0 0 [.ref (hk_K G 1004)] h (hk_qi fun v h1 => v = nI 1 ∧ h1 = h) hk_no := by
  refine hk_enter (by decide) hfl (Nat.le_of_ble_eq_true rfl) rfl ?_
  refine hk_gets dJ0_isLatin1_aae02_0 rfl (fun U H z => z.2.2.2.1.1) sl_J0_38 ?_
  refine hk_if_eq (tgt := 17) dJ0_isLatin1_aae02_3 (by decide) rfl (fun z3 => ?_) (fun z3 => ?_)
  · exact absurd z3 (by decide)
  · skip
    refine hk_aload_n dJ0_isLatin1_aae02_6 rfl rfl rfl ?_
    refine hk_jget dJ0_isLatin1_aae02_7 rfl (fun U H z => z.2.2.2.1.2.2.2.1) sl_J0_15 ?_
    refine hk_if_ne (tgt := 17) dJ0_isLatin1_aae02_10 (by decide) rfl (fun z10 => ?_) (fun z10 => ?_)
    · exact absurd rfl z10
    · skip
      refine hk_iconst (v := nI 1) dJ0_isLatin1_aae02_13 rfl (by decide) ?_
      refine hk_goto (tgt := 18) dJ0_isLatin1_aae02_14 (by decide) ?_
      exact hk_ireturn rfl (rfl) dJ0_isLatin1_aae02_18 (⟨_, rfl, rfl, rfl⟩)
theorem cj_co  (hfl : l.stackTraces = false) : hk_Ctr G l 1 yJ0_coder_7d493 cJ0_coder_7d493 1 (some .byte) 0 0 [.ref (hk_K G 1004)] h (hk_qi fun v h1 => v = 0 ∧ h1 = h) hk_no := by
  refine hk_enter (by decide) hfl (Nat.le_of_ble_eq_true rfl) rfl ?_
  refine hk_gets dJ0_coder_7d493_0 rfl (fun U H z => z.2.2.2.1.1) sl_J0_38 ?_
  refine hk_if_eq (tgt := 13) dJ0_coder_7d493_3 (by decide) rfl (fun z3 => ?_) (fun z3 => ?_)
  · exact absurd z3 (by decide)
  · skip
    refine hk_aload_n dJ0_coder_7d493_6 rfl rfl rfl ?_
    refine hk_jget dJ0_coder_7d493_7 rfl (fun U H z => z.2.2.2.1.2.2.2.1) sl_J0_15 ?_
    refine hk_goto (tgt := 14) dJ0_coder_7d493_10 (by decide) ?_
    exact hk_ireturn rfl (rfl) dJ0_coder_7d493_14 (⟨_, rfl, rfl, rfl⟩)
theorem cj_len  (hfl : l.stackTraces = false) : hk_Ctr G l 2 yJ0_length_8abf5 cJ0_length_8abf5 1 (some .int) 0 0 [.ref (hk_K G 1004)] h (hk_qi fun v h1 => v = nI 2 ∧ h1 = h) hk_no := by
  refine hk_enter (by decide) hfl (Nat.le_of_ble_eq_true rfl) rfl ?_
  refine hk_aload_n dJ0_length_8abf5_0 rfl rfl rfl ?_
  refine hk_jget dJ0_length_8abf5_1 rfl (fun U H z => z.2.2.2.1.2.2.2.2.1) sl_J0_9 ?_
  refine hk_tlen (ty := .byte) (N := 2) dJ0_length_8abf5_4 rfl (fun U H z => z.2.2.2.1.2.2.2.2.2) (show Int32.ofNat 2 = nI 2 from rfl) ?_
  refine hk_aload_n dJ0_length_8abf5_5 rfl rfl rfl ?_
  refine hk_callJ dJ0_length_8abf5_6 rfl mv_J0_335 (cj_co hfl) rfl rfl (fun U H z => z.2.2.2.1.2.2.1) (by decide) ⟨Nat.zero_le _, Nat.zero_le _⟩ (Nat.le_of_ble_eq_true rfl) (hk_ki fun v h1 q => ?_) hk_nx
  obtain ⟨rfl, rfl⟩ := q
  refine hk_ishr dJ0_length_8abf5_9 rfl ?_
  refine cx_top (show _ = nI 2 from by decide) ?_
  exact hk_ireturn rfl (rfl) dJ0_length_8abf5_10 (⟨_, rfl, rfl, rfl⟩)
theorem cj_ce {x : Int32} (hfl : l.stackTraces = false) : hk_Ctr G l 1 yJ1_canEncode_9a6ad cJ1_canEncode_9a6ad 1 (some .boolean) 0 0 [.int x] h (hk_qi fun v h1 => v = cx_b (cs_ce x) ∧ h1 = h) hk_no := by
  refine hk_enter (by decide) hfl (Nat.le_of_ble_eq_true rfl) rfl ?_
  refine hk_iload_n dJ1_canEncode_9a6ad_0 rfl rfl rfl ?_
  refine hk_if_lt (tgt := 15) dJ1_canEncode_9a6ad_1 (by decide) rfl (fun z1 => ?_) (fun z1 => ?_)
  · skip
    refine hk_iconst (v := nI 0) dJ1_canEncode_9a6ad_15 rfl (by decide) ?_
    exact hk_ireturn rfl (rfl) dJ1_canEncode_9a6ad_16 (⟨_, rfl, by unfold cs_ce; first | (rw [if_pos z1]; rfl) | (rw [if_neg z1, if_pos z8]; rfl) | (rw [if_neg z1, if_neg z8]; rfl), rfl⟩)
  · skip
    refine hk_iload_n dJ1_canEncode_9a6ad_4 rfl rfl rfl ?_
    refine hk_sipush (v := nI 255) dJ1_canEncode_9a6ad_5 rfl (by decide) ?_
    refine hk_icmp_gt (tgt := 15) dJ1_canEncode_9a6ad_8 (by decide) rfl (fun z8 => ?_) (fun z8 => ?_)
    · skip
      refine hk_iconst (v := nI 0) dJ1_canEncode_9a6ad_15 rfl (by decide) ?_
      exact hk_ireturn rfl (rfl) dJ1_canEncode_9a6ad_16 (⟨_, rfl, by unfold cs_ce; first | (rw [if_pos z1]; rfl) | (rw [if_neg z1, if_pos z8]; rfl) | (rw [if_neg z1, if_neg z8]; rfl), rfl⟩)
    · skip
      refine hk_iconst (v := nI 1) dJ1_canEncode_9a6ad_11 rfl (by decide) ?_
      refine hk_goto (tgt := 16) dJ1_canEncode_9a6ad_12 (by decide) ?_
      exact hk_ireturn rfl (rfl) dJ1_canEncode_9a6ad_16 (⟨_, rfl, by unfold cs_ce; first | (rw [if_pos z1]; rfl) | (rw [if_neg z1, if_pos z8]; rfl) | (rw [if_neg z1, if_neg z8]; rfl), rfl⟩)
theorem cj_ioc {x : Int32} (hfl : l.stackTraces = false) : hk_Ctr G l 1 yJ1_indexOfChar_4cfef cJ1_indexOfChar_4cfef 6 (some .int) 0 0 [.ref (hk_K G 1005), .int x, .int (nI 0), .int (nI 2)] h (hk_qi fun v h1 => v = cs_ib x.toInt8.toInt32 ∧ h1 = h) hk_no := by
  refine hk_enter (by decide) hfl (Nat.le_of_ble_eq_true rfl) rfl ?_
  refine hk_iload_n dJ1_indexOfChar_4cfef_0 rfl rfl rfl ?_
  refine hk_i2b dJ1_indexOfChar_4cfef_1 rfl rfl ?_
  refine hk_istore dJ1_indexOfChar_4cfef_2 rfl (by decide) rfl ?_
  refine hk_iload_n dJ1_indexOfChar_4cfef_4 rfl rfl rfl ?_
  refine hk_istore dJ1_indexOfChar_4cfef_5 rfl (by decide) rfl ?_
  have lp7 : ∀ f j : Nat, j ≤ 2 → 2 - j < f → (∀ i, i < j → ¬ cs_bt i = x.toInt8.toInt32) → hk_W G l 1 yJ1_indexOfChar_4cfef cJ1_indexOfChar_4cfef 6 (some .int) [] (hk_qi fun v h1 => v = cs_ib x.toInt8.toInt32 ∧ h1 = h) hk_no 0 0 h 7 [some (.ref (hk_K G 1005)), some (.int x), some (.int (nI 0)), some (.int (nI 2)), some (.int x.toInt8.toInt32), some (.int (nI j))] [] := by
    intro f
    induction f with
    | zero => intro j hj hf; exact absurd hf (by omega)
    | succ f ih =>
      intro j hj hf hw
      refine hk_iload dJ1_indexOfChar_4cfef_7 rfl rfl ?_
      refine hk_iload_n dJ1_indexOfChar_4cfef_9 rfl rfl rfl ?_
      refine cx_icmp_ge (tgt := 31) (by omega) (by omega) dJ1_indexOfChar_4cfef_10 (by decide) rfl (fun z10 => ?_) (fun z10 => ?_)
      · skip
        refine hk_iconst (v := -1) dJ1_indexOfChar_4cfef_31 rfl (by decide) ?_
        exact hk_ireturn rfl (rfl) dJ1_indexOfChar_4cfef_32 (⟨_, rfl, by unfold cs_ib; rw [if_neg (hw 0 (by omega)), if_neg (hw 1 (by omega))], rfl⟩)
      · skip
        refine hk_aload_n dJ1_indexOfChar_4cfef_13 rfl rfl rfl ?_
        refine hk_iload dJ1_indexOfChar_4cfef_14 rfl rfl ?_
        refine hk_tbald (v := .int (cs_bt j)) dJ1_indexOfChar_4cfef_16 rfl (fun U H z => z.2.2.2.1.2.2.2.2.2) (vp_in_nI (by omega) (by decide)) (by rw [nI_clamp (by omega)]; rfl) ?_
        refine hk_iload dJ1_indexOfChar_4cfef_17 rfl rfl ?_
        refine hk_icmp_ne (tgt := 25) dJ1_indexOfChar_4cfef_19 (by decide) rfl (fun z19 => ?_) (fun z19 => ?_)
        · skip
          refine hk_iinc dJ1_indexOfChar_4cfef_25 rfl rfl (nI_1 _) (by decide) rfl ?_
          refine hk_goto (tgt := 7) dJ1_indexOfChar_4cfef_28 (by decide) ?_
          exact ih (j + 1) (by omega) (by omega) (fun i hi => by by_cases e : i = j; (rw [e]; exact z19); exact hw i (by omega))
        · skip
          refine hk_iload dJ1_indexOfChar_4cfef_22 rfl rfl ?_
          exact hk_ireturn rfl (rfl) dJ1_indexOfChar_4cfef_24 (⟨_, rfl, by unfold cs_ib; rcases (show j = 0 ∨ j = 1 by omega) with e | e; (subst e; rw [if_pos z19]); (subst e; rw [if_neg (hw 0 (by omega)), if_pos z19]), rfl⟩)
  exact lp7 3 0 (by omega) (by omega) (fun i hi => absurd hi (by omega))
theorem cj_io1 {x : Int32} (hfl : l.stackTraces = false) : hk_Ctr G l 2 yJ1_indexOf_4cfef cJ1_indexOf_4cfef 4 (some .int) 0 0 [.ref (hk_K G 1005), .int x, .int (nI 0), .int (nI 2)] h (hk_qi fun v h1 => v = cs_ix x ∧ h1 = h) hk_no := by
  refine hk_enter (by decide) hfl (Nat.le_of_ble_eq_true rfl) rfl ?_
  refine hk_iload_n dJ1_indexOf_4cfef_0 rfl rfl rfl ?_
  refine hk_callS dJ1_indexOf_4cfef_1 rfl ms_J1_88 (cj_ce hfl) rfl rfl (by decide) ⟨Nat.zero_le _, Nat.zero_le _⟩ (Nat.le_of_ble_eq_true rfl) (hk_ki fun v h1 q => ?_) hk_nx
  obtain ⟨rfl, rfl⟩ := q
  refine cx_ifb_ne (tgt := 9) dJ1_indexOf_4cfef_4 (by decide) rfl (fun z4 => ?_) (fun z4 => ?_)
  · skip
    refine hk_iload_n dJ1_indexOf_4cfef_9 rfl rfl rfl ?_
    refine hk_iconst (v := nI 0) dJ1_indexOf_4cfef_10 rfl (by decide) ?_
    refine cx_mmax dJ1_indexOf_4cfef_11 rfl ms_J1_92 (by decide) (Nat.le_of_ble_eq_true rfl) ?_
    refine cx_top (show _ = nI 0 from by decide) ?_
    refine hk_istore_n dJ1_indexOf_4cfef_14 rfl rfl (by decide) rfl ?_
    refine hk_iload_n dJ1_indexOf_4cfef_15 rfl rfl rfl ?_
    refine hk_aload_n dJ1_indexOf_4cfef_16 rfl rfl rfl ?_
    refine hk_tlen (ty := .byte) (N := 2) dJ1_indexOf_4cfef_17 rfl (fun U H z => z.2.2.2.1.2.2.2.2.2) (show Int32.ofNat 2 = nI 2 from rfl) ?_
    refine cx_mmin dJ1_indexOf_4cfef_18 rfl ms_J1_38 (by decide) (Nat.le_of_ble_eq_true rfl) ?_
    refine cx_top (show cs_min (nI 2) (nI 2) = nI 2 from by decide) ?_
    refine hk_istore_n dJ1_indexOf_4cfef_21 rfl rfl (by decide) rfl ?_
    refine hk_iload_n dJ1_indexOf_4cfef_22 rfl rfl rfl ?_
    refine hk_iload_n dJ1_indexOf_4cfef_23 rfl rfl rfl ?_
    refine cx_icmp_lt (tgt := 29) (by omega) (by omega) dJ1_indexOf_4cfef_24 (by decide) rfl (fun z24 => ?_) (fun z24 => ?_)
    · skip
      refine hk_aload_n dJ1_indexOf_4cfef_29 rfl rfl rfl ?_
      refine hk_iload_n dJ1_indexOf_4cfef_30 rfl rfl rfl ?_
      refine hk_iload_n dJ1_indexOf_4cfef_31 rfl rfl rfl ?_
      refine hk_iload_n dJ1_indexOf_4cfef_32 rfl rfl rfl ?_
      refine hk_callS dJ1_indexOf_4cfef_33 rfl ms_J1_95 (cj_ioc hfl) rfl rfl (by decide) ⟨Nat.zero_le _, Nat.zero_le _⟩ (Nat.le_of_ble_eq_true rfl) (hk_ki fun v h1 q => ?_) hk_nx
      obtain ⟨rfl, rfl⟩ := q
      exact hk_ireturn rfl (rfl) dJ1_indexOf_4cfef_36 (⟨_, rfl, by rw [← cs_ix_eq, z4]; rfl, rfl⟩)
    · exact absurd (by decide) z24
  · skip
    refine hk_iconst (v := -1) dJ1_indexOf_4cfef_7 rfl (by decide) ?_
    exact hk_ireturn rfl (rfl) dJ1_indexOf_4cfef_8 (⟨_, rfl, by rw [← cs_ix_eq, z4]; rfl, rfl⟩)
theorem cj_io2 {x : Int32} (hfl : l.stackTraces = false) : hk_Ctr G l 3 yJ0_indexOf_7cf53 cJ0_indexOf_7cf53 3 (some .int) 0 0 [.ref (hk_K G 1004), .int x, .int (nI 0)] h (hk_qi fun v h1 => v = cs_ix x ∧ h1 = h) hk_no := by
  refine hk_enter (by decide) hfl (Nat.le_of_ble_eq_true rfl) rfl ?_
  refine hk_aload_n dJ0_indexOf_7cf53_0 rfl rfl rfl ?_
  refine hk_callJ dJ0_indexOf_7cf53_1 rfl mv_J0_492 (cj_il hfl) rfl rfl (fun U H z => z.2.2.2.1.2.2.1) (by decide) ⟨Nat.zero_le _, Nat.zero_le _⟩ (Nat.le_of_ble_eq_true rfl) (hk_ki fun v h1 q => ?_) hk_nx
  obtain ⟨rfl, rfl⟩ := q
  refine cx_ifn_eq (tgt := 23) (by omega) dJ0_indexOf_7cf53_4 (by decide) rfl (fun z4 => ?_) (fun z4 => ?_)
  · exact absurd z4 (by decide)
  · skip
    refine hk_aload_n dJ0_indexOf_7cf53_7 rfl rfl rfl ?_
    refine hk_jget dJ0_indexOf_7cf53_8 rfl (fun U H z => z.2.2.2.1.2.2.2.2.1) sl_J0_9 ?_
    refine hk_iload_n dJ0_indexOf_7cf53_11 rfl rfl rfl ?_
    refine hk_iload_n dJ0_indexOf_7cf53_12 rfl rfl rfl ?_
    refine hk_aload_n dJ0_indexOf_7cf53_13 rfl rfl rfl ?_
    refine hk_callJ dJ0_indexOf_7cf53_14 rfl mv_J0_505 (cj_len hfl) rfl rfl (fun U H z => z.2.2.2.1.2.2.1) (by decide) ⟨Nat.zero_le _, Nat.zero_le _⟩ (Nat.le_of_ble_eq_true rfl) (hk_ki fun v h1 q => ?_) hk_nx
    obtain ⟨rfl, rfl⟩ := q
    refine hk_callS dJ0_indexOf_7cf53_17 rfl ms_J0_637 (cj_io1 hfl) rfl rfl (by decide) ⟨Nat.zero_le _, Nat.zero_le _⟩ (Nat.le_of_ble_eq_true rfl) (hk_ki fun v h1 q => ?_) hk_nx
    obtain ⟨rfl, rfl⟩ := q
    refine hk_goto (tgt := 36) dJ0_indexOf_7cf53_20 (by decide) ?_
    exact hk_ireturn rfl (rfl) dJ0_indexOf_7cf53_36 (⟨_, rfl, rfl, rfl⟩)
theorem cj_io {x : Int32} (hfl : l.stackTraces = false) : hk_Ctr G l 4 yJ0_indexOf_0f7a4 cJ0_indexOf_0f7a4 2 (some .int) 0 0 [.ref (hk_K G 1004), .int x] h (hk_qi fun v h1 => v = cs_ix x ∧ h1 = h) hk_no := by
  refine hk_enter (by decide) hfl (Nat.le_of_ble_eq_true rfl) rfl ?_
  refine hk_aload_n dJ0_indexOf_0f7a4_0 rfl rfl rfl ?_
  refine hk_iload_n dJ0_indexOf_0f7a4_1 rfl rfl rfl ?_
  refine hk_iconst (v := nI 0) dJ0_indexOf_0f7a4_2 rfl (by decide) ?_
  refine hk_callJ dJ0_indexOf_0f7a4_3 rfl mv_J0_633 (cj_io2 hfl) rfl rfl (fun U H z => z.2.2.2.1.2.2.1) (by decide) ⟨Nat.zero_le _, Nat.zero_le _⟩ (Nat.le_of_ble_eq_true rfl) (hk_ki fun v h1 q => ?_) hk_nx
  obtain ⟨rfl, rfl⟩ := q
  exact hk_ireturn rfl (rfl) dJ0_indexOf_0f7a4_6 (⟨_, rfl, rfl, rfl⟩)
end CL

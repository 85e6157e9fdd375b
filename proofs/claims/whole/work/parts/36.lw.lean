section CLW
variable {G : hk_G} {l : Launch} {S : hs_S} {A : Nat → Nat} {h : hk_H}
theorem cl_addHouse {c nc nb : Nat} {v : Int32} (hfl : l.stackTraces = false) (hA : hs_inj A) (hI : cx_I S c nc nb) (hv : narrow .char (.int v) = .int v) {o : Nat} {f : Nat → Int64} (ho : h o = some (.inl (2, 1, .inr (.inl f)))) (hoA : ∀ i, i < 30 → A i ≠ o) : hl_Ctr G l 9 yL_addHouse cL_addHouse 4 (some .int) [(0, 9, 12, 13), (0, 9, 15, 15)] 12 72 [.ref (A 0), .int v, .ref o] (hs_ov A S h) (hk_qi fun rv9 h9 => hl_QL A S h o (cd_addHouse c v) (ml_tr [2, 3] (cd_addHouse c v)) (cs_open S c v) (((nI c)).toInt64) rv9 h9) hk_no := by
  have hin : hl_in [2, 3] (cd_addHouse c v) := by
    unfold cd_addHouse
    repeat (first | exact in_H (by decide) | exact in_M (by decide) | exact in_R (by decide) | exact in_O (by decide) | exact in_S (by decide) _ | exact in_0 | exact in_m (by decide) | apply in_sq | (first | unfold cd_a | unfold cd_n | unfold cd_ore | unfold cd_le | unfold cd_clw | unfold cd_W | unfold cd_L | unfold cd_C | unfold cd_K | unfold cd_D | unfold cd_B | unfold cd_dn | unfold cd_sh | unfold cd_U) | apply in_if)
  refine hl_enter (by decide) hfl (Nat.le_of_ble_eq_true rfl) rfl ?_
  refine hk_aload_n dL_addHouse_0 rfl rfl rfl ?_
  refine hk_iconst (v := nI 0) dL_addHouse_1 rfl (by decide) ?_
  refine hk_aload_n dL_addHouse_2 rfl rfl rfl ?_
  refine hk_iload_n dL_addHouse_3 rfl rfl rfl ?_
  refine hl_cl hA rfl dL_addHouse_4 rfl mv_L_7 (ct_X6_addHouse (h := h) hfl hA hI hv) rfl rfl (by decide) ⟨Nat.le_refl _, Nat.le_refl _⟩ (Nat.le_of_ble_eq_true rfl) (fun hz => ?_) (fun E hx => ?_)
  · skip
    refine hk_i2l dL_addHouse_7 rfl ?_
    refine hk_last dL_addHouse_8 rfl (by rw [hs_ov_ne hoA]; exact ho) (vp_in_nI (by decide) (by decide)) ?_
    rw [hl_ovs hA hoA]
    refine hk_goto (tgt := 18) dL_addHouse_9 (by decide) ?_
    refine hk_iconst (v := nI 0) dL_addHouse_18 rfl (by decide) ?_
    exact hk_ireturn rfl (by rfl) dL_addHouse_19 ⟨_, rfl, Or.inl ⟨hz, rfl, _, if_pos (by decide), rfl⟩⟩
  · skip
    obtain ⟨hne, rfl⟩ := hx
    rcases hin with e | e
    · exact absurd e hne
    simp only [List.mem_cons, List.not_mem_nil, or_false] at e
    rcases e with e | e
    · skip
      rw [e]
      refine hl_catch (E := "java/lang/IllegalArgumentException") (nm := "java/lang/IllegalArgumentException") rfl [] (0, 9, 12, 13) [(0, 9, 15, 15)] rfl (fun z hz => absurd hz List.not_mem_nil) (by decide) (by decide) kx_13 kc_13 (fun q => ?_)
      refine hk_astore_n dL_addHouse_12 rfl rfl (by decide) rfl ?_
      refine hk_iconst (v := nI 1) dL_addHouse_13 rfl (by decide) ?_
      exact hk_ireturn rfl (by rfl) dL_addHouse_14 ⟨_, rfl, Or.inr ⟨by decide, rfl, rfl⟩⟩
    · skip
      rw [e]
      refine hl_catch (E := "java/lang/IllegalStateException") (nm := "java/lang/IllegalStateException") rfl [(0, 9, 12, 13)] (0, 9, 15, 15) [] rfl (fun z hz => by simp only [List.mem_cons, List.not_mem_nil, or_false] at hz; subst hz <;> first | exact ⟨by decide, _, kx_13, by decide +kernel⟩) (by decide) (by decide) kx_15 kc_15 (fun q => ?_)
      refine hk_astore_n dL_addHouse_15 rfl rfl (by decide) rfl ?_
      refine hk_iconst (v := nI 2) dL_addHouse_16 rfl (by decide) ?_
      exact hk_ireturn rfl (by rfl) dL_addHouse_17 ⟨_, rfl, Or.inr ⟨by decide, rfl, rfl⟩⟩
theorem cl_kindOf {c nc nb : Nat} {v : Int32} (hfl : l.stackTraces = false) (hA : hs_inj A) (hI : cx_I S c nc nb) {o : Nat} {f : Nat → Int64} (ho : h o = some (.inl (2, 1, .inr (.inl f)))) (hoA : ∀ i, i < 30 → A i ≠ o) : hl_Ctr G l 9 yL_kindOf cL_kindOf 4 (some .int) [(0, 9, 12, 21)] 12 72 [.ref (A 0), .int v, .ref o] (hs_ov A S h) (hk_qi fun rv9 h9 => hl_QL A S h o (cd_H c v) (ml_tr [1] (cd_H c v)) (S) (((cs_kindOf S (vN v))).toInt64) rv9 h9) hk_no := by
  have hin : hl_in [1] (cd_H c v) := by
    repeat (first | exact in_H (by decide) | exact in_M (by decide) | exact in_R (by decide) | exact in_O (by decide) | exact in_S (by decide) _ | exact in_0 | exact in_m (by decide) | apply in_sq | (first | unfold cd_a | unfold cd_n | unfold cd_ore | unfold cd_le | unfold cd_clw | unfold cd_W | unfold cd_L | unfold cd_C | unfold cd_K | unfold cd_D | unfold cd_B | unfold cd_dn | unfold cd_sh | unfold cd_U) | apply in_if)
  refine hl_enter (by decide) hfl (Nat.le_of_ble_eq_true rfl) rfl ?_
  refine hk_aload_n dL_kindOf_0 rfl rfl rfl ?_
  refine hk_iconst (v := nI 0) dL_kindOf_1 rfl (by decide) ?_
  refine hk_aload_n dL_kindOf_2 rfl rfl rfl ?_
  refine hk_iload_n dL_kindOf_3 rfl rfl rfl ?_
  refine hl_cl hA rfl dL_kindOf_4 rfl mv_L_17 (ct_X6_kindOf (h := h) hfl hA hI) rfl rfl (by decide) ⟨Nat.le_refl _, Nat.le_refl _⟩ (Nat.le_of_ble_eq_true rfl) (fun hz => ?_) (fun E hx => ?_)
  · skip
    refine hk_i2l dL_kindOf_7 rfl ?_
    refine hk_last dL_kindOf_8 rfl (by rw [hs_ov_ne hoA]; exact ho) (vp_in_nI (by decide) (by decide)) ?_
    rw [hl_ovs hA hoA]
    refine hk_goto (tgt := 15) dL_kindOf_9 (by decide) ?_
    refine hk_iconst (v := nI 0) dL_kindOf_15 rfl (by decide) ?_
    exact hk_ireturn rfl (by rfl) dL_kindOf_16 ⟨_, rfl, Or.inl ⟨hz, rfl, _, if_pos (by decide), rfl⟩⟩
  · skip
    obtain ⟨hne, rfl⟩ := hx
    rcases hin with e | e
    · exact absurd e hne
    simp only [List.mem_cons, List.not_mem_nil, or_false] at e
    rw [e]
    refine hl_catch (E := "java/lang/IndexOutOfBoundsException") (nm := "java/lang/IndexOutOfBoundsException") rfl [] (0, 9, 12, 21) [] rfl (fun z hz => absurd hz List.not_mem_nil) (by decide) (by decide) kx_21 kc_21 (fun q => ?_)
    refine hk_astore_n dL_kindOf_12 rfl rfl (by decide) rfl ?_
    refine hk_iconst (v := nI 1) dL_kindOf_13 rfl (by decide) ?_
    exact hk_ireturn rfl (by rfl) dL_kindOf_14 ⟨_, rfl, Or.inr ⟨by decide, rfl, rfl⟩⟩
theorem cl_dig {c nc nb : Nat} {v mt q : Int32} (hfl : l.stackTraces = false) (hA : hs_inj A) (hI : cx_I S c nc nb) {o : Nat} {f : Nat → Int64} (ho : h o = some (.inl (2, 1, .inr (.inl f)))) (hoA : ∀ i, i < 30 → A i ≠ o) : hl_Ctr G l 9 yL_dig cL_dig 6 (some .int) [(0, 12, 15, 21), (0, 12, 19, 13), (0, 12, 23, 15)] 12 72 [.ref (A 0), .int v, .int mt, .int q, .ref o] (hs_ov A S h) (hk_qi fun rv9 h9 => hl_QL A S h o (cd_dig S c v mt q) (ml_tr [1, 2, 3] (cd_dig S c v mt q)) (cs_dig S v mt q) ((((cs_dig S v mt q).1 12 (vN v * 2 + cs_m mt))).toInt64) rv9 h9) hk_no := by
  have hin : hl_in [1, 2, 3] (cd_dig S c v mt q) := by
    unfold cd_dig
    repeat (first | exact in_H (by decide) | exact in_M (by decide) | exact in_R (by decide) | exact in_O (by decide) | exact in_S (by decide) _ | exact in_0 | exact in_m (by decide) | apply in_sq | (first | unfold cd_a | unfold cd_n | unfold cd_ore | unfold cd_le | unfold cd_clw | unfold cd_W | unfold cd_L | unfold cd_C | unfold cd_K | unfold cd_D | unfold cd_B | unfold cd_dn | unfold cd_sh | unfold cd_U) | apply in_if)
  refine hl_enter (by decide) hfl (Nat.le_of_ble_eq_true rfl) rfl ?_
  refine hk_aload dL_dig_0 rfl rfl ?_
  refine hk_iconst (v := nI 0) dL_dig_2 rfl (by decide) ?_
  refine hk_aload_n dL_dig_3 rfl rfl rfl ?_
  refine hk_iload_n dL_dig_4 rfl rfl rfl ?_
  refine hk_iload_n dL_dig_5 rfl rfl rfl ?_
  refine hk_iload_n dL_dig_6 rfl rfl rfl ?_
  refine hl_cl hA rfl dL_dig_7 rfl mv_L_23 (ct_X6_dig (h := h) hfl hA hI) rfl rfl (by decide) ⟨Nat.le_refl _, Nat.le_refl _⟩ (Nat.le_of_ble_eq_true rfl) (fun hz => ?_) (fun E hx => ?_)
  · skip
    refine hk_i2l dL_dig_10 rfl ?_
    refine hk_last dL_dig_11 rfl (by rw [hs_ov_ne hoA]; exact ho) (vp_in_nI (by decide) (by decide)) ?_
    rw [hl_ovs hA hoA]
    refine hk_goto (tgt := 27) dL_dig_12 (by decide) ?_
    refine hk_iconst (v := nI 0) dL_dig_27 rfl (by decide) ?_
    exact hk_ireturn rfl (by rfl) dL_dig_28 ⟨_, rfl, Or.inl ⟨hz, rfl, _, if_pos (by decide), rfl⟩⟩
  · skip
    obtain ⟨hne, rfl⟩ := hx
    rcases hin with e | e
    · exact absurd e hne
    simp only [List.mem_cons, List.not_mem_nil, or_false] at e
    rcases e with e | e | e
    · skip
      rw [e]
      refine hl_catch (E := "java/lang/IndexOutOfBoundsException") (nm := "java/lang/IndexOutOfBoundsException") rfl [] (0, 12, 15, 21) [(0, 12, 19, 13), (0, 12, 23, 15)] rfl (fun z hz => absurd hz List.not_mem_nil) (by decide) (by decide) kx_21 kc_21 (fun q => ?_)
      refine hk_astore dL_dig_15 rfl (by decide) rfl ?_
      refine hk_iconst (v := nI 1) dL_dig_17 rfl (by decide) ?_
      exact hk_ireturn rfl (by rfl) dL_dig_18 ⟨_, rfl, Or.inr ⟨by decide, rfl, rfl⟩⟩
    · skip
      rw [e]
      refine hl_catch (E := "java/lang/IllegalArgumentException") (nm := "java/lang/IllegalArgumentException") rfl [(0, 12, 15, 21)] (0, 12, 19, 13) [(0, 12, 23, 15)] rfl (fun z hz => by simp only [List.mem_cons, List.not_mem_nil, or_false] at hz; subst hz <;> first | exact ⟨by decide, _, kx_21, by decide +kernel⟩) (by decide) (by decide) kx_13 kc_13 (fun q => ?_)
      refine hk_astore dL_dig_19 rfl (by decide) rfl ?_
      refine hk_iconst (v := nI 2) dL_dig_21 rfl (by decide) ?_
      exact hk_ireturn rfl (by rfl) dL_dig_22 ⟨_, rfl, Or.inr ⟨by decide, rfl, rfl⟩⟩
    · skip
      rw [e]
      refine hl_catch (E := "java/lang/IllegalStateException") (nm := "java/lang/IllegalStateException") rfl [(0, 12, 15, 21), (0, 12, 19, 13)] (0, 12, 23, 15) [] rfl (fun z hz => by simp only [List.mem_cons, List.not_mem_nil, or_false] at hz; rcases hz with rfl | rfl <;> first | exact ⟨by decide, _, kx_21, by decide +kernel⟩ | exact ⟨by decide, _, kx_13, by decide +kernel⟩) (by decide) (by decide) kx_15 kc_15 (fun q => ?_)
      refine hk_astore dL_dig_23 rfl (by decide) rfl ?_
      refine hk_iconst (v := nI 3) dL_dig_25 rfl (by decide) ?_
      exact hk_ireturn rfl (by rfl) dL_dig_26 ⟨_, rfl, Or.inr ⟨by decide, rfl, rfl⟩⟩
theorem cl_decree {c nc nb : Nat} {mt v q : Int32} (hfl : l.stackTraces = false) (hA : hs_inj A) (hI : cx_I S c nc nb) {o : Nat} {f : Nat → Int64} (ho : h o = some (.inl (2, 1, .inr (.inl f)))) (hoA : ∀ i, i < 30 → A i ≠ o) : hl_Ctr G l 9 yL_decree cL_decree 6 (some .int) [(0, 12, 15, 13)] 12 72 [.ref (A 0), .int mt, .int v, .int q, .ref o] (hs_ov A S h) (hk_qi fun rv9 h9 => hl_QL A S h o (cd_decree mt v q) (ml_tr [2] (cd_decree mt v q)) (cs_decree S mt v q) (((nI 100 * S.1 9 (cs_m mt) + S.1 10 (cs_m mt))).toInt64) rv9 h9) hk_no := by
  have hin : hl_in [2] (cd_decree mt v q) := by
    unfold cd_decree
    repeat (first | exact in_H (by decide) | exact in_M (by decide) | exact in_R (by decide) | exact in_O (by decide) | exact in_S (by decide) _ | exact in_0 | exact in_m (by decide) | apply in_sq | (first | unfold cd_a | unfold cd_n | unfold cd_ore | unfold cd_le | unfold cd_clw | unfold cd_W | unfold cd_L | unfold cd_C | unfold cd_K | unfold cd_D | unfold cd_B | unfold cd_dn | unfold cd_sh | unfold cd_U) | apply in_if)
  refine hl_enter (by decide) hfl (Nat.le_of_ble_eq_true rfl) rfl ?_
  refine hk_aload dL_decree_0 rfl rfl ?_
  refine hk_iconst (v := nI 0) dL_decree_2 rfl (by decide) ?_
  refine hk_aload_n dL_decree_3 rfl rfl rfl ?_
  refine hk_iload_n dL_decree_4 rfl rfl rfl ?_
  refine hk_iload_n dL_decree_5 rfl rfl rfl ?_
  refine hk_iload_n dL_decree_6 rfl rfl rfl ?_
  refine hl_cl hA rfl dL_decree_7 rfl mv_L_27 (ct_X6_decree (h := h) hfl hA hI) rfl rfl (by decide) ⟨Nat.le_refl _, Nat.le_refl _⟩ (Nat.le_of_ble_eq_true rfl) (fun hz => ?_) (fun E hx => ?_)
  · skip
    refine hk_i2l dL_decree_10 rfl ?_
    refine hk_last dL_decree_11 rfl (by rw [hs_ov_ne hoA]; exact ho) (vp_in_nI (by decide) (by decide)) ?_
    rw [hl_ovs hA hoA]
    refine hk_goto (tgt := 19) dL_decree_12 (by decide) ?_
    refine hk_iconst (v := nI 0) dL_decree_19 rfl (by decide) ?_
    exact hk_ireturn rfl (by rfl) dL_decree_20 ⟨_, rfl, Or.inl ⟨hz, rfl, _, if_pos (by decide), rfl⟩⟩
  · skip
    obtain ⟨hne, rfl⟩ := hx
    rcases hin with e | e
    · exact absurd e hne
    simp only [List.mem_cons, List.not_mem_nil, or_false] at e
    rw [e]
    refine hl_catch (E := "java/lang/IllegalArgumentException") (nm := "java/lang/IllegalArgumentException") rfl [] (0, 12, 15, 13) [] rfl (fun z hz => absurd hz List.not_mem_nil) (by decide) (by decide) kx_13 kc_13 (fun q => ?_)
    refine hk_astore dL_decree_15 rfl (by decide) rfl ?_
    refine hk_iconst (v := nI 1) dL_decree_17 rfl (by decide) ?_
    exact hk_ireturn rfl (by rfl) dL_decree_18 ⟨_, rfl, Or.inr ⟨by decide, rfl, rfl⟩⟩
theorem cl_mint {c nc nb : Nat} {v mt q : Int32} (hfl : l.stackTraces = false) (hA : hs_inj A) (hI : cx_I S c nc nb) {o : Nat} {f : Nat → Int64} (ho : h o = some (.inl (2, 1, .inr (.inl f)))) (hoA : ∀ i, i < 30 → A i ≠ o) : hl_Ctr G l 9 yL_mint cL_mint 6 (some .int) [(0, 12, 15, 21), (0, 12, 19, 13), (0, 12, 23, 15), (0, 12, 27, 34)] 12 72 [.ref (A 0), .int v, .int mt, .int q, .ref o] (hs_ov A S h) (hk_qi fun rv9 h9 => hl_QL A S h o (cd_mint S c nc v mt q) (ml_tr [1, 2, 3, 4] (cd_mint S c nc v mt q)) (cs_mint S nc v mt q) (((nI nc)).toInt64) rv9 h9) hk_no := by
  have hin : hl_in [1, 2, 3, 4] (cd_mint S c nc v mt q) := by
    unfold cd_mint
    repeat (first | exact in_H (by decide) | exact in_M (by decide) | exact in_R (by decide) | exact in_O (by decide) | exact in_S (by decide) _ | exact in_0 | exact in_m (by decide) | apply in_sq | (first | unfold cd_a | unfold cd_n | unfold cd_ore | unfold cd_le | unfold cd_clw | unfold cd_W | unfold cd_L | unfold cd_C | unfold cd_K | unfold cd_D | unfold cd_B | unfold cd_dn | unfold cd_sh | unfold cd_U) | apply in_if)
  refine hl_enter (by decide) hfl (Nat.le_of_ble_eq_true rfl) rfl ?_
  refine hk_aload dL_mint_0 rfl rfl ?_
  refine hk_iconst (v := nI 0) dL_mint_2 rfl (by decide) ?_
  refine hk_aload_n dL_mint_3 rfl rfl rfl ?_
  refine hk_iload_n dL_mint_4 rfl rfl rfl ?_
  refine hk_iload_n dL_mint_5 rfl rfl rfl ?_
  refine hk_iload_n dL_mint_6 rfl rfl rfl ?_
  refine hl_cl hA rfl dL_mint_7 rfl mv_L_31 (ct_X6_mint (h := h) hfl hA hI) rfl rfl (by decide) ⟨Nat.le_refl _, Nat.le_refl _⟩ (Nat.le_of_ble_eq_true rfl) (fun hz => ?_) (fun E hx => ?_)
  · skip
    refine hk_i2l dL_mint_10 rfl ?_
    refine hk_last dL_mint_11 rfl (by rw [hs_ov_ne hoA]; exact ho) (vp_in_nI (by decide) (by decide)) ?_
    rw [hl_ovs hA hoA]
    refine hk_goto (tgt := 31) dL_mint_12 (by decide) ?_
    refine hk_iconst (v := nI 0) dL_mint_31 rfl (by decide) ?_
    exact hk_ireturn rfl (by rfl) dL_mint_32 ⟨_, rfl, Or.inl ⟨hz, rfl, _, if_pos (by decide), rfl⟩⟩
  · skip
    obtain ⟨hne, rfl⟩ := hx
    rcases hin with e | e
    · exact absurd e hne
    simp only [List.mem_cons, List.not_mem_nil, or_false] at e
    rcases e with e | e | e | e
    · skip
      rw [e]
      refine hl_catch (E := "java/lang/IndexOutOfBoundsException") (nm := "java/lang/IndexOutOfBoundsException") rfl [] (0, 12, 15, 21) [(0, 12, 19, 13), (0, 12, 23, 15), (0, 12, 27, 34)] rfl (fun z hz => absurd hz List.not_mem_nil) (by decide) (by decide) kx_21 kc_21 (fun q => ?_)
      refine hk_astore dL_mint_15 rfl (by decide) rfl ?_
      refine hk_iconst (v := nI 1) dL_mint_17 rfl (by decide) ?_
      exact hk_ireturn rfl (by rfl) dL_mint_18 ⟨_, rfl, Or.inr ⟨by decide, rfl, rfl⟩⟩
    · skip
      rw [e]
      refine hl_catch (E := "java/lang/IllegalArgumentException") (nm := "java/lang/IllegalArgumentException") rfl [(0, 12, 15, 21)] (0, 12, 19, 13) [(0, 12, 23, 15), (0, 12, 27, 34)] rfl (fun z hz => by simp only [List.mem_cons, List.not_mem_nil, or_false] at hz; subst hz <;> first | exact ⟨by decide, _, kx_21, by decide +kernel⟩) (by decide) (by decide) kx_13 kc_13 (fun q => ?_)
      refine hk_astore dL_mint_19 rfl (by decide) rfl ?_
      refine hk_iconst (v := nI 2) dL_mint_21 rfl (by decide) ?_
      exact hk_ireturn rfl (by rfl) dL_mint_22 ⟨_, rfl, Or.inr ⟨by decide, rfl, rfl⟩⟩
    · skip
      rw [e]
      refine hl_catch (E := "java/lang/IllegalStateException") (nm := "java/lang/IllegalStateException") rfl [(0, 12, 15, 21), (0, 12, 19, 13)] (0, 12, 23, 15) [(0, 12, 27, 34)] rfl (fun z hz => by simp only [List.mem_cons, List.not_mem_nil, or_false] at hz; rcases hz with rfl | rfl <;> first | exact ⟨by decide, _, kx_21, by decide +kernel⟩ | exact ⟨by decide, _, kx_13, by decide +kernel⟩) (by decide) (by decide) kx_15 kc_15 (fun q => ?_)
      refine hk_astore dL_mint_23 rfl (by decide) rfl ?_
      refine hk_iconst (v := nI 3) dL_mint_25 rfl (by decide) ?_
      exact hk_ireturn rfl (by rfl) dL_mint_26 ⟨_, rfl, Or.inr ⟨by decide, rfl, rfl⟩⟩
    · skip
      rw [e]
      refine hl_catch (E := "java/lang/UnsupportedOperationException") (nm := "java/lang/UnsupportedOperationException") rfl [(0, 12, 15, 21), (0, 12, 19, 13), (0, 12, 23, 15)] (0, 12, 27, 34) [] rfl (fun z hz => by simp only [List.mem_cons, List.not_mem_nil, or_false] at hz; rcases hz with rfl | rfl | rfl <;> first | exact ⟨by decide, _, kx_21, by decide +kernel⟩ | exact ⟨by decide, _, kx_13, by decide +kernel⟩ | exact ⟨by decide, _, kx_15, by decide +kernel⟩) (by decide) (by decide) kx_34 kc_34 (fun q => ?_)
      refine hk_astore dL_mint_27 rfl (by decide) rfl ?_
      refine hk_iconst (v := nI 4) dL_mint_29 rfl (by decide) ?_
      exact hk_ireturn rfl (by rfl) dL_mint_30 ⟨_, rfl, Or.inr ⟨by decide, rfl, rfl⟩⟩
theorem cl_clip {c nc nb : Nat} {v q : Int32} (hfl : l.stackTraces = false) (hA : hs_inj A) (hI : cx_I S c nc nb) {o : Nat} {f : Nat → Int64} (ho : h o = some (.inl (2, 1, .inr (.inl f)))) (hoA : ∀ i, i < 30 → A i ≠ o) : hl_Ctr G l 9 yL_clip cL_clip 5 (some .int) [(0, 10, 13, 21), (0, 10, 17, 13), (0, 10, 21, 34)] 12 72 [.ref (A 0), .int v, .int q, .ref o] (hs_ov A S h) (hk_qi fun rv9 h9 => hl_QL A S h o (cd_clip S nc v q) (ml_tr [1, 2, 4] (cd_clip S nc v q)) (cs_clip S v q) ((((cs_clip S v q).1 14 (vN v))).toInt64) rv9 h9) hk_no := by
  have hin : hl_in [1, 2, 4] (cd_clip S nc v q) := by
    unfold cd_clip
    repeat (first | exact in_H (by decide) | exact in_M (by decide) | exact in_R (by decide) | exact in_O (by decide) | exact in_S (by decide) _ | exact in_0 | exact in_m (by decide) | apply in_sq | (first | unfold cd_a | unfold cd_n | unfold cd_ore | unfold cd_le | unfold cd_clw | unfold cd_W | unfold cd_L | unfold cd_C | unfold cd_K | unfold cd_D | unfold cd_B | unfold cd_dn | unfold cd_sh | unfold cd_U) | apply in_if)
  refine hl_enter (by decide) hfl (Nat.le_of_ble_eq_true rfl) rfl ?_
  refine hk_aload_n dL_clip_0 rfl rfl rfl ?_
  refine hk_iconst (v := nI 0) dL_clip_1 rfl (by decide) ?_
  refine hk_aload_n dL_clip_2 rfl rfl rfl ?_
  refine hk_iload_n dL_clip_3 rfl rfl rfl ?_
  refine hk_iload_n dL_clip_4 rfl rfl rfl ?_
  refine hl_cl hA rfl dL_clip_5 rfl mv_L_36 (ct_X6_clip (h := h) hfl hA hI) rfl rfl (by decide) ⟨Nat.le_refl _, Nat.le_refl _⟩ (Nat.le_of_ble_eq_true rfl) (fun hz => ?_) (fun E hx => ?_)
  · skip
    refine hk_i2l dL_clip_8 rfl ?_
    refine hk_last dL_clip_9 rfl (by rw [hs_ov_ne hoA]; exact ho) (vp_in_nI (by decide) (by decide)) ?_
    rw [hl_ovs hA hoA]
    refine hk_goto (tgt := 25) dL_clip_10 (by decide) ?_
    refine hk_iconst (v := nI 0) dL_clip_25 rfl (by decide) ?_
    exact hk_ireturn rfl (by rfl) dL_clip_26 ⟨_, rfl, Or.inl ⟨hz, rfl, _, if_pos (by decide), rfl⟩⟩
  · skip
    obtain ⟨hne, rfl⟩ := hx
    rcases hin with e | e
    · exact absurd e hne
    simp only [List.mem_cons, List.not_mem_nil, or_false] at e
    rcases e with e | e | e
    · skip
      rw [e]
      refine hl_catch (E := "java/lang/IndexOutOfBoundsException") (nm := "java/lang/IndexOutOfBoundsException") rfl [] (0, 10, 13, 21) [(0, 10, 17, 13), (0, 10, 21, 34)] rfl (fun z hz => absurd hz List.not_mem_nil) (by decide) (by decide) kx_21 kc_21 (fun q => ?_)
      refine hk_astore dL_clip_13 rfl (by decide) rfl ?_
      refine hk_iconst (v := nI 1) dL_clip_15 rfl (by decide) ?_
      exact hk_ireturn rfl (by rfl) dL_clip_16 ⟨_, rfl, Or.inr ⟨by decide, rfl, rfl⟩⟩
    · skip
      rw [e]
      refine hl_catch (E := "java/lang/IllegalArgumentException") (nm := "java/lang/IllegalArgumentException") rfl [(0, 10, 13, 21)] (0, 10, 17, 13) [(0, 10, 21, 34)] rfl (fun z hz => by simp only [List.mem_cons, List.not_mem_nil, or_false] at hz; subst hz <;> first | exact ⟨by decide, _, kx_21, by decide +kernel⟩) (by decide) (by decide) kx_13 kc_13 (fun q => ?_)
      refine hk_astore dL_clip_17 rfl (by decide) rfl ?_
      refine hk_iconst (v := nI 2) dL_clip_19 rfl (by decide) ?_
      exact hk_ireturn rfl (by rfl) dL_clip_20 ⟨_, rfl, Or.inr ⟨by decide, rfl, rfl⟩⟩
    · skip
      rw [e]
      refine hl_catch (E := "java/lang/UnsupportedOperationException") (nm := "java/lang/UnsupportedOperationException") rfl [(0, 10, 13, 21), (0, 10, 17, 13)] (0, 10, 21, 34) [] rfl (fun z hz => by simp only [List.mem_cons, List.not_mem_nil, or_false] at hz; rcases hz with rfl | rfl <;> first | exact ⟨by decide, _, kx_21, by decide +kernel⟩ | exact ⟨by decide, _, kx_13, by decide +kernel⟩) (by decide) (by decide) kx_34 kc_34 (fun q => ?_)
      refine hk_astore dL_clip_21 rfl (by decide) rfl ?_
      refine hk_iconst (v := nI 3) dL_clip_23 rfl (by decide) ?_
      exact hk_ireturn rfl (by rfl) dL_clip_24 ⟨_, rfl, Or.inr ⟨by decide, rfl, rfl⟩⟩
theorem cl_hoard {c nc nb : Nat} {v q : Int32} (hfl : l.stackTraces = false) (hA : hs_inj A) (hI : cx_I S c nc nb) (hbv : narrow .boolean (.int q) = .int q) {o : Nat} {f : Nat → Int64} (ho : h o = some (.inl (2, 1, .inr (.inl f)))) (hoA : ∀ i, i < 30 → A i ≠ o) : hl_Ctr G l 9 yL_hoard cL_hoard 5 (some .int) [(0, 17, 20, 21), (0, 17, 24, 34)] 12 72 [.ref (A 0), .int v, .int q, .ref o] (hs_ov A S h) (hk_qi fun rv9 h9 => hl_QL A S h o (cd_hoard S nc v) (ml_tr [1, 4] (cd_hoard S nc v)) (hs_su S 17 (vN v) q) ((if (S.1 17 (vN v)) = 0 then (0 : Int64) else 1)) rv9 h9) hk_no := by
  have hin : hl_in [1, 4] (cd_hoard S nc v) := by
    unfold cd_hoard
    repeat (first | exact in_H (by decide) | exact in_M (by decide) | exact in_R (by decide) | exact in_O (by decide) | exact in_S (by decide) _ | exact in_0 | exact in_m (by decide) | apply in_sq | (first | unfold cd_a | unfold cd_n | unfold cd_ore | unfold cd_le | unfold cd_clw | unfold cd_W | unfold cd_L | unfold cd_C | unfold cd_K | unfold cd_D | unfold cd_B | unfold cd_dn | unfold cd_sh | unfold cd_U) | apply in_if)
  refine hl_enter (by decide) hfl (Nat.le_of_ble_eq_true rfl) rfl ?_
  refine hk_aload_n dL_hoard_0 rfl rfl rfl ?_
  refine hk_iconst (v := nI 0) dL_hoard_1 rfl (by decide) ?_
  refine hk_aload_n dL_hoard_2 rfl rfl rfl ?_
  refine hk_iload_n dL_hoard_3 rfl rfl rfl ?_
  refine hk_iload_n dL_hoard_4 rfl rfl rfl ?_
  refine hl_cl hA rfl dL_hoard_5 rfl mv_L_40 (ct_X6_hoard (h := h) hfl hA hI hbv) rfl rfl (by decide) ⟨Nat.le_refl _, Nat.le_refl _⟩ (Nat.le_of_ble_eq_true rfl) (fun hz => ?_) (fun E hx => ?_)
  · skip
    refine hk_if_eq (tgt := 15) dL_hoard_8 (by decide) rfl (fun z => ?_) (fun z => ?_)
    · skip
      refine hk_lconst (v := 0) dL_hoard_15 rfl (by decide) ?_
      refine hk_last dL_hoard_16 rfl (by rw [hs_ov_ne hoA]; exact ho) (vp_in_nI (by decide) (by decide)) ?_
      rw [hl_ovs hA hoA]
      refine hk_goto (tgt := 28) dL_hoard_17 (by decide) ?_
      refine hk_iconst (v := nI 0) dL_hoard_28 rfl (by decide) ?_
      exact hk_ireturn rfl (by rfl) dL_hoard_29 ⟨_, rfl, Or.inl ⟨hz, rfl, _, by rw [if_pos z]; exact if_pos (by decide), rfl⟩⟩
    · skip
      refine hk_lconst (v := 1) dL_hoard_11 rfl (by decide) ?_
      refine hk_goto (tgt := 16) dL_hoard_12 (by decide) ?_
      refine hk_last dL_hoard_16 rfl (by rw [hs_ov_ne hoA]; exact ho) (vp_in_nI (by decide) (by decide)) ?_
      rw [hl_ovs hA hoA]
      refine hk_goto (tgt := 28) dL_hoard_17 (by decide) ?_
      refine hk_iconst (v := nI 0) dL_hoard_28 rfl (by decide) ?_
      exact hk_ireturn rfl (by rfl) dL_hoard_29 ⟨_, rfl, Or.inl ⟨hz, rfl, _, by rw [if_neg z]; exact if_pos (by decide), rfl⟩⟩
  · skip
    obtain ⟨hne, rfl⟩ := hx
    rcases hin with e | e
    · exact absurd e hne
    simp only [List.mem_cons, List.not_mem_nil, or_false] at e
    rcases e with e | e
    · skip
      rw [e]
      refine hl_catch (E := "java/lang/IndexOutOfBoundsException") (nm := "java/lang/IndexOutOfBoundsException") rfl [] (0, 17, 20, 21) [(0, 17, 24, 34)] rfl (fun z hz => absurd hz List.not_mem_nil) (by decide) (by decide) kx_21 kc_21 (fun q => ?_)
      refine hk_astore dL_hoard_20 rfl (by decide) rfl ?_
      refine hk_iconst (v := nI 1) dL_hoard_22 rfl (by decide) ?_
      exact hk_ireturn rfl (by rfl) dL_hoard_23 ⟨_, rfl, Or.inr ⟨by decide, rfl, rfl⟩⟩
    · skip
      rw [e]
      refine hl_catch (E := "java/lang/UnsupportedOperationException") (nm := "java/lang/UnsupportedOperationException") rfl [(0, 17, 20, 21)] (0, 17, 24, 34) [] rfl (fun z hz => by simp only [List.mem_cons, List.not_mem_nil, or_false] at hz; subst hz <;> first | exact ⟨by decide, _, kx_21, by decide +kernel⟩) (by decide) (by decide) kx_34 kc_34 (fun q => ?_)
      refine hk_astore dL_hoard_24 rfl (by decide) rfl ?_
      refine hk_iconst (v := nI 2) dL_hoard_26 rfl (by decide) ?_
      exact hk_ireturn rfl (by rfl) dL_hoard_27 ⟨_, rfl, Or.inr ⟨by decide, rfl, rfl⟩⟩
theorem cl_recoin {c nc nb : Nat} {v mt : Int32} (hfl : l.stackTraces = false) (hA : hs_inj A) (hI : cx_I S c nc nb) {o : Nat} {f : Nat → Int64} (ho : h o = some (.inl (2, 1, .inr (.inl f)))) (hoA : ∀ i, i < 30 → A i ≠ o) : hl_Ctr G l 9 yL_recoin cL_recoin 5 (some .int) [(0, 10, 13, 21), (0, 10, 17, 13), (0, 10, 21, 15)] 12 72 [.ref (A 0), .int v, .int mt, .ref o] (hs_ov A S h) (hk_qi fun rv9 h9 => hl_QL A S h o (cd_recoin S c v mt) (ml_tr [1, 2, 3] (cd_recoin S c v mt)) ((cs_recoin S nc v mt).1) (((nI (cs_recoin S nc v mt).2)).toInt64) rv9 h9) hk_no := by
  have hin : hl_in [1, 2, 3] (cd_recoin S c v mt) := by
    unfold cd_recoin
    repeat (first | exact in_H (by decide) | exact in_M (by decide) | exact in_R (by decide) | exact in_O (by decide) | exact in_S (by decide) _ | exact in_0 | exact in_m (by decide) | apply in_sq | (first | unfold cd_a | unfold cd_n | unfold cd_ore | unfold cd_le | unfold cd_clw | unfold cd_W | unfold cd_L | unfold cd_C | unfold cd_K | unfold cd_D | unfold cd_B | unfold cd_dn | unfold cd_sh | unfold cd_U) | apply in_if)
  refine hl_enter (by decide) hfl (Nat.le_of_ble_eq_true rfl) rfl ?_
  refine hk_aload_n dL_recoin_0 rfl rfl rfl ?_
  refine hk_iconst (v := nI 0) dL_recoin_1 rfl (by decide) ?_
  refine hk_aload_n dL_recoin_2 rfl rfl rfl ?_
  refine hk_iload_n dL_recoin_3 rfl rfl rfl ?_
  refine hk_iload_n dL_recoin_4 rfl rfl rfl ?_
  refine hl_cl hA rfl dL_recoin_5 rfl mv_L_44 (ct_X6_recoin (h := h) hfl hA hI) rfl rfl (by decide) ⟨Nat.le_refl _, Nat.le_refl _⟩ (Nat.le_of_ble_eq_true rfl) (fun hz => ?_) (fun E hx => ?_)
  · skip
    refine hk_i2l dL_recoin_8 rfl ?_
    refine hk_last dL_recoin_9 rfl (by rw [hs_ov_ne hoA]; exact ho) (vp_in_nI (by decide) (by decide)) ?_
    rw [hl_ovs hA hoA]
    refine hk_goto (tgt := 25) dL_recoin_10 (by decide) ?_
    refine hk_iconst (v := nI 0) dL_recoin_25 rfl (by decide) ?_
    exact hk_ireturn rfl (by rfl) dL_recoin_26 ⟨_, rfl, Or.inl ⟨hz, rfl, _, if_pos (by decide), rfl⟩⟩
  · skip
    obtain ⟨hne, rfl⟩ := hx
    rcases hin with e | e
    · exact absurd e hne
    simp only [List.mem_cons, List.not_mem_nil, or_false] at e
    rcases e with e | e | e
    · skip
      rw [e]
      refine hl_catch (E := "java/lang/IndexOutOfBoundsException") (nm := "java/lang/IndexOutOfBoundsException") rfl [] (0, 10, 13, 21) [(0, 10, 17, 13), (0, 10, 21, 15)] rfl (fun z hz => absurd hz List.not_mem_nil) (by decide) (by decide) kx_21 kc_21 (fun q => ?_)
      refine hk_astore dL_recoin_13 rfl (by decide) rfl ?_
      refine hk_iconst (v := nI 1) dL_recoin_15 rfl (by decide) ?_
      exact hk_ireturn rfl (by rfl) dL_recoin_16 ⟨_, rfl, Or.inr ⟨by decide, rfl, rfl⟩⟩
    · skip
      rw [e]
      refine hl_catch (E := "java/lang/IllegalArgumentException") (nm := "java/lang/IllegalArgumentException") rfl [(0, 10, 13, 21)] (0, 10, 17, 13) [(0, 10, 21, 15)] rfl (fun z hz => by simp only [List.mem_cons, List.not_mem_nil, or_false] at hz; subst hz <;> first | exact ⟨by decide, _, kx_21, by decide +kernel⟩) (by decide) (by decide) kx_13 kc_13 (fun q => ?_)
      refine hk_astore dL_recoin_17 rfl (by decide) rfl ?_
      refine hk_iconst (v := nI 2) dL_recoin_19 rfl (by decide) ?_
      exact hk_ireturn rfl (by rfl) dL_recoin_20 ⟨_, rfl, Or.inr ⟨by decide, rfl, rfl⟩⟩
    · skip
      rw [e]
      refine hl_catch (E := "java/lang/IllegalStateException") (nm := "java/lang/IllegalStateException") rfl [(0, 10, 13, 21), (0, 10, 17, 13)] (0, 10, 21, 15) [] rfl (fun z hz => by simp only [List.mem_cons, List.not_mem_nil, or_false] at hz; rcases hz with rfl | rfl <;> first | exact ⟨by decide, _, kx_21, by decide +kernel⟩ | exact ⟨by decide, _, kx_13, by decide +kernel⟩) (by decide) (by decide) kx_15 kc_15 (fun q => ?_)
      refine hk_astore dL_recoin_21 rfl (by decide) rfl ?_
      refine hk_iconst (v := nI 3) dL_recoin_23 rfl (by decide) ?_
      exact hk_ireturn rfl (by rfl) dL_recoin_24 ⟨_, rfl, Or.inr ⟨by decide, rfl, rfl⟩⟩
theorem cl_pay {c nc nb : Nat} {v t mt q : Int32} (hfl : l.stackTraces = false) (hA : hs_inj A) (hI : cx_I S c nc nb) {o : Nat} {f : Nat → Int64} (ho : h o = some (.inl (2, 1, .inr (.inl f)))) (hoA : ∀ i, i < 30 → A i ≠ o) : hl_Ctr G l 9 yL_pay cL_pay 7 (some .int) [(0, 14, 17, 21), (0, 14, 21, 13), (0, 14, 25, 15), (0, 14, 29, 34)] 12 72 [.ref (A 0), .int v, .int t, .int mt, .int q, .ref o] (hs_ov A S h) (hk_qi fun rv9 h9 => hl_QL A S h o (cd_pay S c nc v t mt q) (ml_tr [1, 2, 3, 4] (cd_pay S c nc v t mt q)) ((cs_pay S nc v t mt q).1) ((((cs_pay S nc v t mt q).2)).toInt64) rv9 h9) hk_no := by
  have hin : hl_in [1, 2, 3, 4] (cd_pay S c nc v t mt q) := by
    unfold cd_pay
    repeat (first | exact in_H (by decide) | exact in_M (by decide) | exact in_R (by decide) | exact in_O (by decide) | exact in_S (by decide) _ | exact in_0 | exact in_m (by decide) | apply in_sq | (first | unfold cd_a | unfold cd_n | unfold cd_ore | unfold cd_le | unfold cd_clw | unfold cd_W | unfold cd_L | unfold cd_C | unfold cd_K | unfold cd_D | unfold cd_B | unfold cd_dn | unfold cd_sh | unfold cd_U) | apply in_if)
  refine hl_enter (by decide) hfl (Nat.le_of_ble_eq_true rfl) rfl ?_
  refine hk_aload dL_pay_0 rfl rfl ?_
  refine hk_iconst (v := nI 0) dL_pay_2 rfl (by decide) ?_
  refine hk_aload_n dL_pay_3 rfl rfl rfl ?_
  refine hk_iload_n dL_pay_4 rfl rfl rfl ?_
  refine hk_iload_n dL_pay_5 rfl rfl rfl ?_
  refine hk_iload_n dL_pay_6 rfl rfl rfl ?_
  refine hk_iload dL_pay_7 rfl rfl ?_
  refine hl_cl hA rfl dL_pay_9 rfl mv_L_48 (ct_X6_pay (h := h) hfl hA hI) rfl rfl (by decide) ⟨Nat.le_refl _, Nat.le_refl _⟩ (Nat.le_of_ble_eq_true rfl) (fun hz => ?_) (fun E hx => ?_)
  · skip
    refine hk_i2l dL_pay_12 rfl ?_
    refine hk_last dL_pay_13 rfl (by rw [hs_ov_ne hoA]; exact ho) (vp_in_nI (by decide) (by decide)) ?_
    rw [hl_ovs hA hoA]
    refine hk_goto (tgt := 33) dL_pay_14 (by decide) ?_
    refine hk_iconst (v := nI 0) dL_pay_33 rfl (by decide) ?_
    exact hk_ireturn rfl (by rfl) dL_pay_34 ⟨_, rfl, Or.inl ⟨hz, rfl, _, if_pos (by decide), rfl⟩⟩
  · skip
    obtain ⟨hne, rfl⟩ := hx
    rcases hin with e | e
    · exact absurd e hne
    simp only [List.mem_cons, List.not_mem_nil, or_false] at e
    rcases e with e | e | e | e
    · skip
      rw [e]
      refine hl_catch (E := "java/lang/IndexOutOfBoundsException") (nm := "java/lang/IndexOutOfBoundsException") rfl [] (0, 14, 17, 21) [(0, 14, 21, 13), (0, 14, 25, 15), (0, 14, 29, 34)] rfl (fun z hz => absurd hz List.not_mem_nil) (by decide) (by decide) kx_21 kc_21 (fun q => ?_)
      refine hk_astore dL_pay_17 rfl (by decide) rfl ?_
      refine hk_iconst (v := nI 1) dL_pay_19 rfl (by decide) ?_
      exact hk_ireturn rfl (by rfl) dL_pay_20 ⟨_, rfl, Or.inr ⟨by decide, rfl, rfl⟩⟩
    · skip
      rw [e]
      refine hl_catch (E := "java/lang/IllegalArgumentException") (nm := "java/lang/IllegalArgumentException") rfl [(0, 14, 17, 21)] (0, 14, 21, 13) [(0, 14, 25, 15), (0, 14, 29, 34)] rfl (fun z hz => by simp only [List.mem_cons, List.not_mem_nil, or_false] at hz; subst hz <;> first | exact ⟨by decide, _, kx_21, by decide +kernel⟩) (by decide) (by decide) kx_13 kc_13 (fun q => ?_)
      refine hk_astore dL_pay_21 rfl (by decide) rfl ?_
      refine hk_iconst (v := nI 2) dL_pay_23 rfl (by decide) ?_
      exact hk_ireturn rfl (by rfl) dL_pay_24 ⟨_, rfl, Or.inr ⟨by decide, rfl, rfl⟩⟩
    · skip
      rw [e]
      refine hl_catch (E := "java/lang/IllegalStateException") (nm := "java/lang/IllegalStateException") rfl [(0, 14, 17, 21), (0, 14, 21, 13)] (0, 14, 25, 15) [(0, 14, 29, 34)] rfl (fun z hz => by simp only [List.mem_cons, List.not_mem_nil, or_false] at hz; rcases hz with rfl | rfl <;> first | exact ⟨by decide, _, kx_21, by decide +kernel⟩ | exact ⟨by decide, _, kx_13, by decide +kernel⟩) (by decide) (by decide) kx_15 kc_15 (fun q => ?_)
      refine hk_astore dL_pay_25 rfl (by decide) rfl ?_
      refine hk_iconst (v := nI 3) dL_pay_27 rfl (by decide) ?_
      exact hk_ireturn rfl (by rfl) dL_pay_28 ⟨_, rfl, Or.inr ⟨by decide, rfl, rfl⟩⟩
    · skip
      rw [e]
      refine hl_catch (E := "java/lang/UnsupportedOperationException") (nm := "java/lang/UnsupportedOperationException") rfl [(0, 14, 17, 21), (0, 14, 21, 13), (0, 14, 25, 15)] (0, 14, 29, 34) [] rfl (fun z hz => by simp only [List.mem_cons, List.not_mem_nil, or_false] at hz; rcases hz with rfl | rfl | rfl <;> first | exact ⟨by decide, _, kx_21, by decide +kernel⟩ | exact ⟨by decide, _, kx_13, by decide +kernel⟩ | exact ⟨by decide, _, kx_15, by decide +kernel⟩) (by decide) (by decide) kx_34 kc_34 (fun q => ?_)
      refine hk_astore dL_pay_29 rfl (by decide) rfl ?_
      refine hk_iconst (v := nI 4) dL_pay_31 rfl (by decide) ?_
      exact hk_ireturn rfl (by rfl) dL_pay_32 ⟨_, rfl, Or.inr ⟨by decide, rfl, rfl⟩⟩
theorem cl_deposit {c nc nb : Nat} {v t mt q : Int32} (hfl : l.stackTraces = false) (hA : hs_inj A) (hI : cx_I S c nc nb) {o : Nat} {f : Nat → Int64} (ho : h o = some (.inl (2, 1, .inr (.inl f)))) (hoA : ∀ i, i < 30 → A i ≠ o) : hl_Ctr G l 9 yL_deposit cL_deposit 7 (some .int) [(0, 14, 17, 21), (0, 14, 21, 13), (0, 14, 25, 15), (0, 14, 29, 34)] 12 72 [.ref (A 0), .int v, .int t, .int mt, .int q, .ref o] (hs_ov A S h) (hk_qi fun rv9 h9 => hl_QL A S h o (cd_deposit S c nc v t mt q) (ml_tr [1, 2, 3, 4] (cd_deposit S c nc v t mt q)) (cs_deposit S nc v t mt q) ((((cs_deposit S nc v t mt q).1 19 (vN v * 6 + vN t))).toInt64) rv9 h9) hk_no := by
  have hin : hl_in [1, 2, 3, 4] (cd_deposit S c nc v t mt q) := by
    unfold cd_deposit
    repeat (first | exact in_H (by decide) | exact in_M (by decide) | exact in_R (by decide) | exact in_O (by decide) | exact in_S (by decide) _ | exact in_0 | exact in_m (by decide) | apply in_sq | (first | unfold cd_a | unfold cd_n | unfold cd_ore | unfold cd_le | unfold cd_clw | unfold cd_W | unfold cd_L | unfold cd_C | unfold cd_K | unfold cd_D | unfold cd_B | unfold cd_dn | unfold cd_sh | unfold cd_U) | apply in_if)
  refine hl_enter (by decide) hfl (Nat.le_of_ble_eq_true rfl) rfl ?_
  refine hk_aload dL_deposit_0 rfl rfl ?_
  refine hk_iconst (v := nI 0) dL_deposit_2 rfl (by decide) ?_
  refine hk_aload_n dL_deposit_3 rfl rfl rfl ?_
  refine hk_iload_n dL_deposit_4 rfl rfl rfl ?_
  refine hk_iload_n dL_deposit_5 rfl rfl rfl ?_
  refine hk_iload_n dL_deposit_6 rfl rfl rfl ?_
  refine hk_iload dL_deposit_7 rfl rfl ?_
  refine hl_cl hA rfl dL_deposit_9 rfl mv_L_52 (ct_X6_deposit (h := h) hfl hA hI) rfl rfl (by decide) ⟨Nat.le_refl _, Nat.le_refl _⟩ (Nat.le_of_ble_eq_true rfl) (fun hz => ?_) (fun E hx => ?_)
  · skip
    refine hk_i2l dL_deposit_12 rfl ?_
    refine hk_last dL_deposit_13 rfl (by rw [hs_ov_ne hoA]; exact ho) (vp_in_nI (by decide) (by decide)) ?_
    rw [hl_ovs hA hoA]
    refine hk_goto (tgt := 33) dL_deposit_14 (by decide) ?_
    refine hk_iconst (v := nI 0) dL_deposit_33 rfl (by decide) ?_
    exact hk_ireturn rfl (by rfl) dL_deposit_34 ⟨_, rfl, Or.inl ⟨hz, rfl, _, if_pos (by decide), rfl⟩⟩
  · skip
    obtain ⟨hne, rfl⟩ := hx
    rcases hin with e | e
    · exact absurd e hne
    simp only [List.mem_cons, List.not_mem_nil, or_false] at e
    rcases e with e | e | e | e
    · skip
      rw [e]
      refine hl_catch (E := "java/lang/IndexOutOfBoundsException") (nm := "java/lang/IndexOutOfBoundsException") rfl [] (0, 14, 17, 21) [(0, 14, 21, 13), (0, 14, 25, 15), (0, 14, 29, 34)] rfl (fun z hz => absurd hz List.not_mem_nil) (by decide) (by decide) kx_21 kc_21 (fun q => ?_)
      refine hk_astore dL_deposit_17 rfl (by decide) rfl ?_
      refine hk_iconst (v := nI 1) dL_deposit_19 rfl (by decide) ?_
      exact hk_ireturn rfl (by rfl) dL_deposit_20 ⟨_, rfl, Or.inr ⟨by decide, rfl, rfl⟩⟩
    · skip
      rw [e]
      refine hl_catch (E := "java/lang/IllegalArgumentException") (nm := "java/lang/IllegalArgumentException") rfl [(0, 14, 17, 21)] (0, 14, 21, 13) [(0, 14, 25, 15), (0, 14, 29, 34)] rfl (fun z hz => by simp only [List.mem_cons, List.not_mem_nil, or_false] at hz; subst hz <;> first | exact ⟨by decide, _, kx_21, by decide +kernel⟩) (by decide) (by decide) kx_13 kc_13 (fun q => ?_)
      refine hk_astore dL_deposit_21 rfl (by decide) rfl ?_
      refine hk_iconst (v := nI 2) dL_deposit_23 rfl (by decide) ?_
      exact hk_ireturn rfl (by rfl) dL_deposit_24 ⟨_, rfl, Or.inr ⟨by decide, rfl, rfl⟩⟩
    · skip
      rw [e]
      refine hl_catch (E := "java/lang/IllegalStateException") (nm := "java/lang/IllegalStateException") rfl [(0, 14, 17, 21), (0, 14, 21, 13)] (0, 14, 25, 15) [(0, 14, 29, 34)] rfl (fun z hz => by simp only [List.mem_cons, List.not_mem_nil, or_false] at hz; rcases hz with rfl | rfl <;> first | exact ⟨by decide, _, kx_21, by decide +kernel⟩ | exact ⟨by decide, _, kx_13, by decide +kernel⟩) (by decide) (by decide) kx_15 kc_15 (fun q => ?_)
      refine hk_astore dL_deposit_25 rfl (by decide) rfl ?_
      refine hk_iconst (v := nI 3) dL_deposit_27 rfl (by decide) ?_
      exact hk_ireturn rfl (by rfl) dL_deposit_28 ⟨_, rfl, Or.inr ⟨by decide, rfl, rfl⟩⟩
    · skip
      rw [e]
      refine hl_catch (E := "java/lang/UnsupportedOperationException") (nm := "java/lang/UnsupportedOperationException") rfl [(0, 14, 17, 21), (0, 14, 21, 13), (0, 14, 25, 15)] (0, 14, 29, 34) [] rfl (fun z hz => by simp only [List.mem_cons, List.not_mem_nil, or_false] at hz; rcases hz with rfl | rfl | rfl <;> first | exact ⟨by decide, _, kx_21, by decide +kernel⟩ | exact ⟨by decide, _, kx_13, by decide +kernel⟩ | exact ⟨by decide, _, kx_15, by decide +kernel⟩) (by decide) (by decide) kx_34 kc_34 (fun q => ?_)
      refine hk_astore dL_deposit_29 rfl (by decide) rfl ?_
      refine hk_iconst (v := nI 4) dL_deposit_31 rfl (by decide) ?_
      exact hk_ireturn rfl (by rfl) dL_deposit_32 ⟨_, rfl, Or.inr ⟨by decide, rfl, rfl⟩⟩
theorem cl_withdraw {c nc nb : Nat} {v t mt q : Int32} (hfl : l.stackTraces = false) (hA : hs_inj A) (hI : cx_I S c nc nb) {o : Nat} {f : Nat → Int64} (ho : h o = some (.inl (2, 1, .inr (.inl f)))) (hoA : ∀ i, i < 30 → A i ≠ o) : hl_Ctr G l 9 yL_withdraw cL_withdraw 7 (some .int) [(0, 14, 17, 21), (0, 14, 21, 13), (0, 14, 25, 15), (0, 14, 29, 34)] 12 72 [.ref (A 0), .int v, .int t, .int mt, .int q, .ref o] (hs_ov A S h) (hk_qi fun rv9 h9 => hl_QL A S h o (cd_withdraw S c v t mt q) (ml_tr [1, 2, 3, 4] (cd_withdraw S c v t mt q)) ((cs_withdraw S nc v t mt q).1) ((((cs_withdraw S nc v t mt q).2)).toInt64) rv9 h9) hk_no := by
  have hin : hl_in [1, 2, 3, 4] (cd_withdraw S c v t mt q) := by
    unfold cd_withdraw
    repeat (first | exact in_H (by decide) | exact in_M (by decide) | exact in_R (by decide) | exact in_O (by decide) | exact in_S (by decide) _ | exact in_0 | exact in_m (by decide) | apply in_sq | (first | unfold cd_a | unfold cd_n | unfold cd_ore | unfold cd_le | unfold cd_clw | unfold cd_W | unfold cd_L | unfold cd_C | unfold cd_K | unfold cd_D | unfold cd_B | unfold cd_dn | unfold cd_sh | unfold cd_U) | apply in_if)
  refine hl_enter (by decide) hfl (Nat.le_of_ble_eq_true rfl) rfl ?_
  refine hk_aload dL_withdraw_0 rfl rfl ?_
  refine hk_iconst (v := nI 0) dL_withdraw_2 rfl (by decide) ?_
  refine hk_aload_n dL_withdraw_3 rfl rfl rfl ?_
  refine hk_iload_n dL_withdraw_4 rfl rfl rfl ?_
  refine hk_iload_n dL_withdraw_5 rfl rfl rfl ?_
  refine hk_iload_n dL_withdraw_6 rfl rfl rfl ?_
  refine hk_iload dL_withdraw_7 rfl rfl ?_
  refine hl_cl hA rfl dL_withdraw_9 rfl mv_L_55 (ct_X6_withdraw (h := h) hfl hA hI) rfl rfl (by decide) ⟨Nat.le_refl _, Nat.le_refl _⟩ (Nat.le_of_ble_eq_true rfl) (fun hz => ?_) (fun E hx => ?_)
  · skip
    refine hk_i2l dL_withdraw_12 rfl ?_
    refine hk_last dL_withdraw_13 rfl (by rw [hs_ov_ne hoA]; exact ho) (vp_in_nI (by decide) (by decide)) ?_
    rw [hl_ovs hA hoA]
    refine hk_goto (tgt := 33) dL_withdraw_14 (by decide) ?_
    refine hk_iconst (v := nI 0) dL_withdraw_33 rfl (by decide) ?_
    exact hk_ireturn rfl (by rfl) dL_withdraw_34 ⟨_, rfl, Or.inl ⟨hz, rfl, _, if_pos (by decide), rfl⟩⟩
  · skip
    obtain ⟨hne, rfl⟩ := hx
    rcases hin with e | e
    · exact absurd e hne
    simp only [List.mem_cons, List.not_mem_nil, or_false] at e
    rcases e with e | e | e | e
    · skip
      rw [e]
      refine hl_catch (E := "java/lang/IndexOutOfBoundsException") (nm := "java/lang/IndexOutOfBoundsException") rfl [] (0, 14, 17, 21) [(0, 14, 21, 13), (0, 14, 25, 15), (0, 14, 29, 34)] rfl (fun z hz => absurd hz List.not_mem_nil) (by decide) (by decide) kx_21 kc_21 (fun q => ?_)
      refine hk_astore dL_withdraw_17 rfl (by decide) rfl ?_
      refine hk_iconst (v := nI 1) dL_withdraw_19 rfl (by decide) ?_
      exact hk_ireturn rfl (by rfl) dL_withdraw_20 ⟨_, rfl, Or.inr ⟨by decide, rfl, rfl⟩⟩
    · skip
      rw [e]
      refine hl_catch (E := "java/lang/IllegalArgumentException") (nm := "java/lang/IllegalArgumentException") rfl [(0, 14, 17, 21)] (0, 14, 21, 13) [(0, 14, 25, 15), (0, 14, 29, 34)] rfl (fun z hz => by simp only [List.mem_cons, List.not_mem_nil, or_false] at hz; subst hz <;> first | exact ⟨by decide, _, kx_21, by decide +kernel⟩) (by decide) (by decide) kx_13 kc_13 (fun q => ?_)
      refine hk_astore dL_withdraw_21 rfl (by decide) rfl ?_
      refine hk_iconst (v := nI 2) dL_withdraw_23 rfl (by decide) ?_
      exact hk_ireturn rfl (by rfl) dL_withdraw_24 ⟨_, rfl, Or.inr ⟨by decide, rfl, rfl⟩⟩
    · skip
      rw [e]
      refine hl_catch (E := "java/lang/IllegalStateException") (nm := "java/lang/IllegalStateException") rfl [(0, 14, 17, 21), (0, 14, 21, 13)] (0, 14, 25, 15) [(0, 14, 29, 34)] rfl (fun z hz => by simp only [List.mem_cons, List.not_mem_nil, or_false] at hz; rcases hz with rfl | rfl <;> first | exact ⟨by decide, _, kx_21, by decide +kernel⟩ | exact ⟨by decide, _, kx_13, by decide +kernel⟩) (by decide) (by decide) kx_15 kc_15 (fun q => ?_)
      refine hk_astore dL_withdraw_25 rfl (by decide) rfl ?_
      refine hk_iconst (v := nI 3) dL_withdraw_27 rfl (by decide) ?_
      exact hk_ireturn rfl (by rfl) dL_withdraw_28 ⟨_, rfl, Or.inr ⟨by decide, rfl, rfl⟩⟩
    · skip
      rw [e]
      refine hl_catch (E := "java/lang/UnsupportedOperationException") (nm := "java/lang/UnsupportedOperationException") rfl [(0, 14, 17, 21), (0, 14, 21, 13), (0, 14, 25, 15)] (0, 14, 29, 34) [] rfl (fun z hz => by simp only [List.mem_cons, List.not_mem_nil, or_false] at hz; rcases hz with rfl | rfl | rfl <;> first | exact ⟨by decide, _, kx_21, by decide +kernel⟩ | exact ⟨by decide, _, kx_13, by decide +kernel⟩ | exact ⟨by decide, _, kx_15, by decide +kernel⟩) (by decide) (by decide) kx_34 kc_34 (fun q => ?_)
      refine hk_astore dL_withdraw_29 rfl (by decide) rfl ?_
      refine hk_iconst (v := nI 4) dL_withdraw_31 rfl (by decide) ?_
      exact hk_ireturn rfl (by rfl) dL_withdraw_32 ⟨_, rfl, Or.inr ⟨by decide, rfl, rfl⟩⟩
theorem cl_lend {c nc nb : Nat} {q v x : Int32} (hfl : l.stackTraces = false) (hA : hs_inj A) (hI : cx_I S c nc nb) {o : Nat} {f : Nat → Int64} (ho : h o = some (.inl (2, 1, .inr (.inl f)))) (hoA : ∀ i, i < 30 → A i ≠ o) : hl_Ctr G l 9 yL_lend cL_lend 6 (some .int) [(0, 12, 15, 21), (0, 12, 19, 13), (0, 12, 23, 15)] 12 72 [.ref (A 0), .int q, .int v, .int x, .ref o] (hs_ov A S h) (hk_qi fun rv9 h9 => hl_QL A S h o (cd_lend S c q v x) (ml_tr [1, 2, 3] (cd_lend S c q v x)) (cs_lend S q v x) ((((cs_lend S q v x).1 19 (vN v * 6 + vN q))).toInt64) rv9 h9) hk_no := by
  have hin : hl_in [1, 2, 3] (cd_lend S c q v x) := by
    unfold cd_lend
    repeat (first | exact in_H (by decide) | exact in_M (by decide) | exact in_R (by decide) | exact in_O (by decide) | exact in_S (by decide) _ | exact in_0 | exact in_m (by decide) | apply in_sq | (first | unfold cd_a | unfold cd_n | unfold cd_ore | unfold cd_le | unfold cd_clw | unfold cd_W | unfold cd_L | unfold cd_C | unfold cd_K | unfold cd_D | unfold cd_B | unfold cd_dn | unfold cd_sh | unfold cd_U) | apply in_if)
  refine hl_enter (by decide) hfl (Nat.le_of_ble_eq_true rfl) rfl ?_
  refine hk_aload dL_lend_0 rfl rfl ?_
  refine hk_iconst (v := nI 0) dL_lend_2 rfl (by decide) ?_
  refine hk_aload_n dL_lend_3 rfl rfl rfl ?_
  refine hk_iload_n dL_lend_4 rfl rfl rfl ?_
  refine hk_iload_n dL_lend_5 rfl rfl rfl ?_
  refine hk_iload_n dL_lend_6 rfl rfl rfl ?_
  refine hl_cl hA rfl dL_lend_7 rfl mv_L_59 (ct_X6_lend (h := h) hfl hA hI) rfl rfl (by decide) ⟨Nat.le_refl _, Nat.le_refl _⟩ (Nat.le_of_ble_eq_true rfl) (fun hz => ?_) (fun E hx => ?_)
  · skip
    refine hk_i2l dL_lend_10 rfl ?_
    refine hk_last dL_lend_11 rfl (by rw [hs_ov_ne hoA]; exact ho) (vp_in_nI (by decide) (by decide)) ?_
    rw [hl_ovs hA hoA]
    refine hk_goto (tgt := 27) dL_lend_12 (by decide) ?_
    refine hk_iconst (v := nI 0) dL_lend_27 rfl (by decide) ?_
    exact hk_ireturn rfl (by rfl) dL_lend_28 ⟨_, rfl, Or.inl ⟨hz, rfl, _, if_pos (by decide), rfl⟩⟩
  · skip
    obtain ⟨hne, rfl⟩ := hx
    rcases hin with e | e
    · exact absurd e hne
    simp only [List.mem_cons, List.not_mem_nil, or_false] at e
    rcases e with e | e | e
    · skip
      rw [e]
      refine hl_catch (E := "java/lang/IndexOutOfBoundsException") (nm := "java/lang/IndexOutOfBoundsException") rfl [] (0, 12, 15, 21) [(0, 12, 19, 13), (0, 12, 23, 15)] rfl (fun z hz => absurd hz List.not_mem_nil) (by decide) (by decide) kx_21 kc_21 (fun q => ?_)
      refine hk_astore dL_lend_15 rfl (by decide) rfl ?_
      refine hk_iconst (v := nI 1) dL_lend_17 rfl (by decide) ?_
      exact hk_ireturn rfl (by rfl) dL_lend_18 ⟨_, rfl, Or.inr ⟨by decide, rfl, rfl⟩⟩
    · skip
      rw [e]
      refine hl_catch (E := "java/lang/IllegalArgumentException") (nm := "java/lang/IllegalArgumentException") rfl [(0, 12, 15, 21)] (0, 12, 19, 13) [(0, 12, 23, 15)] rfl (fun z hz => by simp only [List.mem_cons, List.not_mem_nil, or_false] at hz; subst hz <;> first | exact ⟨by decide, _, kx_21, by decide +kernel⟩) (by decide) (by decide) kx_13 kc_13 (fun q => ?_)
      refine hk_astore dL_lend_19 rfl (by decide) rfl ?_
      refine hk_iconst (v := nI 2) dL_lend_21 rfl (by decide) ?_
      exact hk_ireturn rfl (by rfl) dL_lend_22 ⟨_, rfl, Or.inr ⟨by decide, rfl, rfl⟩⟩
    · skip
      rw [e]
      refine hl_catch (E := "java/lang/IllegalStateException") (nm := "java/lang/IllegalStateException") rfl [(0, 12, 15, 21), (0, 12, 19, 13)] (0, 12, 23, 15) [] rfl (fun z hz => by simp only [List.mem_cons, List.not_mem_nil, or_false] at hz; rcases hz with rfl | rfl <;> first | exact ⟨by decide, _, kx_21, by decide +kernel⟩ | exact ⟨by decide, _, kx_13, by decide +kernel⟩) (by decide) (by decide) kx_15 kc_15 (fun q => ?_)
      refine hk_astore dL_lend_23 rfl (by decide) rfl ?_
      refine hk_iconst (v := nI 3) dL_lend_25 rfl (by decide) ?_
      exact hk_ireturn rfl (by rfl) dL_lend_26 ⟨_, rfl, Or.inr ⟨by decide, rfl, rfl⟩⟩
theorem cl_hand {c nc nb : Nat} {v t q x : Int32} (hfl : l.stackTraces = false) (hA : hs_inj A) (hI : cx_I S c nc nb) {o : Nat} {f : Nat → Int64} (ho : h o = some (.inl (2, 1, .inr (.inl f)))) (hoA : ∀ i, i < 30 → A i ≠ o) : hl_Ctr G l 9 yL_hand cL_hand 7 (some .int) [(0, 14, 17, 21), (0, 14, 21, 13), (0, 14, 25, 15), (0, 14, 29, 34)] 12 72 [.ref (A 0), .int v, .int t, .int q, .int x, .ref o] (hs_ov A S h) (hk_qi fun rv9 h9 => hl_QL A S h o (cd_hand S c v t q x) (ml_tr [1, 2, 3, 4] (cd_hand S c v t q x)) (cs_hand S v t q x) ((((cs_hand S v t q x).1 19 (vN v * 6 + vN q))).toInt64) rv9 h9) hk_no := by
  have hin : hl_in [1, 2, 3, 4] (cd_hand S c v t q x) := by
    unfold cd_hand
    repeat (first | exact in_H (by decide) | exact in_M (by decide) | exact in_R (by decide) | exact in_O (by decide) | exact in_S (by decide) _ | exact in_0 | exact in_m (by decide) | apply in_sq | (first | unfold cd_a | unfold cd_n | unfold cd_ore | unfold cd_le | unfold cd_clw | unfold cd_W | unfold cd_L | unfold cd_C | unfold cd_K | unfold cd_D | unfold cd_B | unfold cd_dn | unfold cd_sh | unfold cd_U) | apply in_if)
  refine hl_enter (by decide) hfl (Nat.le_of_ble_eq_true rfl) rfl ?_
  refine hk_aload dL_hand_0 rfl rfl ?_
  refine hk_iconst (v := nI 0) dL_hand_2 rfl (by decide) ?_
  refine hk_aload_n dL_hand_3 rfl rfl rfl ?_
  refine hk_iload_n dL_hand_4 rfl rfl rfl ?_
  refine hk_iload_n dL_hand_5 rfl rfl rfl ?_
  refine hk_iload_n dL_hand_6 rfl rfl rfl ?_
  refine hk_iload dL_hand_7 rfl rfl ?_
  refine hl_cl hA rfl dL_hand_9 rfl mv_L_63 (ct_X6_hand (h := h) hfl hA hI) rfl rfl (by decide) ⟨Nat.le_refl _, Nat.le_refl _⟩ (Nat.le_of_ble_eq_true rfl) (fun hz => ?_) (fun E hx => ?_)
  · skip
    refine hk_i2l dL_hand_12 rfl ?_
    refine hk_last dL_hand_13 rfl (by rw [hs_ov_ne hoA]; exact ho) (vp_in_nI (by decide) (by decide)) ?_
    rw [hl_ovs hA hoA]
    refine hk_goto (tgt := 33) dL_hand_14 (by decide) ?_
    refine hk_iconst (v := nI 0) dL_hand_33 rfl (by decide) ?_
    exact hk_ireturn rfl (by rfl) dL_hand_34 ⟨_, rfl, Or.inl ⟨hz, rfl, _, if_pos (by decide), rfl⟩⟩
  · skip
    obtain ⟨hne, rfl⟩ := hx
    rcases hin with e | e
    · exact absurd e hne
    simp only [List.mem_cons, List.not_mem_nil, or_false] at e
    rcases e with e | e | e | e
    · skip
      rw [e]
      refine hl_catch (E := "java/lang/IndexOutOfBoundsException") (nm := "java/lang/IndexOutOfBoundsException") rfl [] (0, 14, 17, 21) [(0, 14, 21, 13), (0, 14, 25, 15), (0, 14, 29, 34)] rfl (fun z hz => absurd hz List.not_mem_nil) (by decide) (by decide) kx_21 kc_21 (fun q => ?_)
      refine hk_astore dL_hand_17 rfl (by decide) rfl ?_
      refine hk_iconst (v := nI 1) dL_hand_19 rfl (by decide) ?_
      exact hk_ireturn rfl (by rfl) dL_hand_20 ⟨_, rfl, Or.inr ⟨by decide, rfl, rfl⟩⟩
    · skip
      rw [e]
      refine hl_catch (E := "java/lang/IllegalArgumentException") (nm := "java/lang/IllegalArgumentException") rfl [(0, 14, 17, 21)] (0, 14, 21, 13) [(0, 14, 25, 15), (0, 14, 29, 34)] rfl (fun z hz => by simp only [List.mem_cons, List.not_mem_nil, or_false] at hz; subst hz <;> first | exact ⟨by decide, _, kx_21, by decide +kernel⟩) (by decide) (by decide) kx_13 kc_13 (fun q => ?_)
      refine hk_astore dL_hand_21 rfl (by decide) rfl ?_
      refine hk_iconst (v := nI 2) dL_hand_23 rfl (by decide) ?_
      exact hk_ireturn rfl (by rfl) dL_hand_24 ⟨_, rfl, Or.inr ⟨by decide, rfl, rfl⟩⟩
    · skip
      rw [e]
      refine hl_catch (E := "java/lang/IllegalStateException") (nm := "java/lang/IllegalStateException") rfl [(0, 14, 17, 21), (0, 14, 21, 13)] (0, 14, 25, 15) [(0, 14, 29, 34)] rfl (fun z hz => by simp only [List.mem_cons, List.not_mem_nil, or_false] at hz; rcases hz with rfl | rfl <;> first | exact ⟨by decide, _, kx_21, by decide +kernel⟩ | exact ⟨by decide, _, kx_13, by decide +kernel⟩) (by decide) (by decide) kx_15 kc_15 (fun q => ?_)
      refine hk_astore dL_hand_25 rfl (by decide) rfl ?_
      refine hk_iconst (v := nI 3) dL_hand_27 rfl (by decide) ?_
      exact hk_ireturn rfl (by rfl) dL_hand_28 ⟨_, rfl, Or.inr ⟨by decide, rfl, rfl⟩⟩
    · skip
      rw [e]
      refine hl_catch (E := "java/lang/UnsupportedOperationException") (nm := "java/lang/UnsupportedOperationException") rfl [(0, 14, 17, 21), (0, 14, 21, 13), (0, 14, 25, 15)] (0, 14, 29, 34) [] rfl (fun z hz => by simp only [List.mem_cons, List.not_mem_nil, or_false] at hz; rcases hz with rfl | rfl | rfl <;> first | exact ⟨by decide, _, kx_21, by decide +kernel⟩ | exact ⟨by decide, _, kx_13, by decide +kernel⟩ | exact ⟨by decide, _, kx_15, by decide +kernel⟩) (by decide) (by decide) kx_34 kc_34 (fun q => ?_)
      refine hk_astore dL_hand_29 rfl (by decide) rfl ?_
      refine hk_iconst (v := nI 4) dL_hand_31 rfl (by decide) ?_
      exact hk_ireturn rfl (by rfl) dL_hand_32 ⟨_, rfl, Or.inr ⟨by decide, rfl, rfl⟩⟩
theorem cl_forgive {c nc nb : Nat} {v t x : Int32} (hfl : l.stackTraces = false) (hA : hs_inj A) (hI : cx_I S c nc nb) {o : Nat} {f : Nat → Int64} (ho : h o = some (.inl (2, 1, .inr (.inl f)))) (hoA : ∀ i, i < 30 → A i ≠ o) : hl_Ctr G l 9 yL_forgive cL_forgive 6 (some .int) [(0, 12, 15, 21), (0, 12, 19, 13), (0, 12, 23, 34)] 12 72 [.ref (A 0), .int v, .int t, .int x, .ref o] (hs_ov A S h) (hk_qi fun rv9 h9 => hl_QL A S h o (cd_forgive S c v t x) (ml_tr [1, 2, 4] (cd_forgive S c v t x)) (cs_cadd S (vN v) (vN t) (-x)) ((((cs_cadd S (vN v) (vN t) (-x)).1 19 (vN v * 6 + vN t))).toInt64) rv9 h9) hk_no := by
  have hin : hl_in [1, 2, 4] (cd_forgive S c v t x) := by
    unfold cd_forgive
    repeat (first | exact in_H (by decide) | exact in_M (by decide) | exact in_R (by decide) | exact in_O (by decide) | exact in_S (by decide) _ | exact in_0 | exact in_m (by decide) | apply in_sq | (first | unfold cd_a | unfold cd_n | unfold cd_ore | unfold cd_le | unfold cd_clw | unfold cd_W | unfold cd_L | unfold cd_C | unfold cd_K | unfold cd_D | unfold cd_B | unfold cd_dn | unfold cd_sh | unfold cd_U) | apply in_if)
  refine hl_enter (by decide) hfl (Nat.le_of_ble_eq_true rfl) rfl ?_
  refine hk_aload dL_forgive_0 rfl rfl ?_
  refine hk_iconst (v := nI 0) dL_forgive_2 rfl (by decide) ?_
  refine hk_aload_n dL_forgive_3 rfl rfl rfl ?_
  refine hk_iload_n dL_forgive_4 rfl rfl rfl ?_
  refine hk_iload_n dL_forgive_5 rfl rfl rfl ?_
  refine hk_iload_n dL_forgive_6 rfl rfl rfl ?_
  refine hl_cl hA rfl dL_forgive_7 rfl mv_L_67 (ct_X6_forgive (h := h) hfl hA hI) rfl rfl (by decide) ⟨Nat.le_refl _, Nat.le_refl _⟩ (Nat.le_of_ble_eq_true rfl) (fun hz => ?_) (fun E hx => ?_)
  · skip
    refine hk_i2l dL_forgive_10 rfl ?_
    refine hk_last dL_forgive_11 rfl (by rw [hs_ov_ne hoA]; exact ho) (vp_in_nI (by decide) (by decide)) ?_
    rw [hl_ovs hA hoA]
    refine hk_goto (tgt := 27) dL_forgive_12 (by decide) ?_
    refine hk_iconst (v := nI 0) dL_forgive_27 rfl (by decide) ?_
    exact hk_ireturn rfl (by rfl) dL_forgive_28 ⟨_, rfl, Or.inl ⟨hz, rfl, _, if_pos (by decide), rfl⟩⟩
  · skip
    obtain ⟨hne, rfl⟩ := hx
    rcases hin with e | e
    · exact absurd e hne
    simp only [List.mem_cons, List.not_mem_nil, or_false] at e
    rcases e with e | e | e
    · skip
      rw [e]
      refine hl_catch (E := "java/lang/IndexOutOfBoundsException") (nm := "java/lang/IndexOutOfBoundsException") rfl [] (0, 12, 15, 21) [(0, 12, 19, 13), (0, 12, 23, 34)] rfl (fun z hz => absurd hz List.not_mem_nil) (by decide) (by decide) kx_21 kc_21 (fun q => ?_)
      refine hk_astore dL_forgive_15 rfl (by decide) rfl ?_
      refine hk_iconst (v := nI 1) dL_forgive_17 rfl (by decide) ?_
      exact hk_ireturn rfl (by rfl) dL_forgive_18 ⟨_, rfl, Or.inr ⟨by decide, rfl, rfl⟩⟩
    · skip
      rw [e]
      refine hl_catch (E := "java/lang/IllegalArgumentException") (nm := "java/lang/IllegalArgumentException") rfl [(0, 12, 15, 21)] (0, 12, 19, 13) [(0, 12, 23, 34)] rfl (fun z hz => by simp only [List.mem_cons, List.not_mem_nil, or_false] at hz; subst hz <;> first | exact ⟨by decide, _, kx_21, by decide +kernel⟩) (by decide) (by decide) kx_13 kc_13 (fun q => ?_)
      refine hk_astore dL_forgive_19 rfl (by decide) rfl ?_
      refine hk_iconst (v := nI 2) dL_forgive_21 rfl (by decide) ?_
      exact hk_ireturn rfl (by rfl) dL_forgive_22 ⟨_, rfl, Or.inr ⟨by decide, rfl, rfl⟩⟩
    · skip
      rw [e]
      refine hl_catch (E := "java/lang/UnsupportedOperationException") (nm := "java/lang/UnsupportedOperationException") rfl [(0, 12, 15, 21), (0, 12, 19, 13)] (0, 12, 23, 34) [] rfl (fun z hz => by simp only [List.mem_cons, List.not_mem_nil, or_false] at hz; rcases hz with rfl | rfl <;> first | exact ⟨by decide, _, kx_21, by decide +kernel⟩ | exact ⟨by decide, _, kx_13, by decide +kernel⟩) (by decide) (by decide) kx_34 kc_34 (fun q => ?_)
      refine hk_astore dL_forgive_23 rfl (by decide) rfl ?_
      refine hk_iconst (v := nI 3) dL_forgive_25 rfl (by decide) ?_
      exact hk_ireturn rfl (by rfl) dL_forgive_26 ⟨_, rfl, Or.inr ⟨by decide, rfl, rfl⟩⟩
theorem cl_claim {c nc nb : Nat} {v t : Int32} (hfl : l.stackTraces = false) (hA : hs_inj A) (hI : cx_I S c nc nb) {o : Nat} {f : Nat → Int64} (ho : h o = some (.inl (2, 1, .inr (.inl f)))) (hoA : ∀ i, i < 30 → A i ≠ o) : hl_Ctr G l 9 yL_claim cL_claim 5 (some .int) [(0, 10, 13, 21)] 12 72 [.ref (A 0), .int v, .int t, .ref o] (hs_ov A S h) (hk_qi fun rv9 h9 => hl_QL A S h o (cd_claim c v t) (ml_tr [1] (cd_claim c v t)) (S) (((S.1 19 (vN v * 6 + vN t))).toInt64) rv9 h9) hk_no := by
  have hin : hl_in [1] (cd_claim c v t) := by
    unfold cd_claim
    repeat (first | exact in_H (by decide) | exact in_M (by decide) | exact in_R (by decide) | exact in_O (by decide) | exact in_S (by decide) _ | exact in_0 | exact in_m (by decide) | apply in_sq | (first | unfold cd_a | unfold cd_n | unfold cd_ore | unfold cd_le | unfold cd_clw | unfold cd_W | unfold cd_L | unfold cd_C | unfold cd_K | unfold cd_D | unfold cd_B | unfold cd_dn | unfold cd_sh | unfold cd_U) | apply in_if)
  refine hl_enter (by decide) hfl (Nat.le_of_ble_eq_true rfl) rfl ?_
  refine hk_aload_n dL_claim_0 rfl rfl rfl ?_
  refine hk_iconst (v := nI 0) dL_claim_1 rfl (by decide) ?_
  refine hk_aload_n dL_claim_2 rfl rfl rfl ?_
  refine hk_iload_n dL_claim_3 rfl rfl rfl ?_
  refine hk_iload_n dL_claim_4 rfl rfl rfl ?_
  refine hl_cl hA rfl dL_claim_5 rfl mv_L_70 (ct_X6_claim (h := h) hfl hA hI) rfl rfl (by decide) ⟨Nat.le_refl _, Nat.le_refl _⟩ (Nat.le_of_ble_eq_true rfl) (fun hz => ?_) (fun E hx => ?_)
  · skip
    refine hk_i2l dL_claim_8 rfl ?_
    refine hk_last dL_claim_9 rfl (by rw [hs_ov_ne hoA]; exact ho) (vp_in_nI (by decide) (by decide)) ?_
    rw [hl_ovs hA hoA]
    refine hk_goto (tgt := 17) dL_claim_10 (by decide) ?_
    refine hk_iconst (v := nI 0) dL_claim_17 rfl (by decide) ?_
    exact hk_ireturn rfl (by rfl) dL_claim_18 ⟨_, rfl, Or.inl ⟨hz, rfl, _, if_pos (by decide), rfl⟩⟩
  · skip
    obtain ⟨hne, rfl⟩ := hx
    rcases hin with e | e
    · exact absurd e hne
    simp only [List.mem_cons, List.not_mem_nil, or_false] at e
    rw [e]
    refine hl_catch (E := "java/lang/IndexOutOfBoundsException") (nm := "java/lang/IndexOutOfBoundsException") rfl [] (0, 10, 13, 21) [] rfl (fun z hz => absurd hz List.not_mem_nil) (by decide) (by decide) kx_21 kc_21 (fun q => ?_)
    refine hk_astore dL_claim_13 rfl (by decide) rfl ?_
    refine hk_iconst (v := nI 1) dL_claim_15 rfl (by decide) ?_
    exact hk_ireturn rfl (by rfl) dL_claim_16 ⟨_, rfl, Or.inr ⟨by decide, rfl, rfl⟩⟩
theorem cl_draw {c nc nb : Nat} {v t x q : Int32} (hfl : l.stackTraces = false) (hA : hs_inj A) (hI : cx_I S c nc nb) {o : Nat} {f : Nat → Int64} (ho : h o = some (.inl (2, 1, .inr (.inl f)))) (hoA : ∀ i, i < 30 → A i ≠ o) : hl_Ctr G l 9 yL_draw cL_draw 7 (some .int) [(0, 14, 17, 21), (0, 14, 21, 13), (0, 14, 25, 15), (0, 14, 29, 34)] 12 72 [.ref (A 0), .int v, .int t, .int x, .int q, .ref o] (hs_ov A S h) (hk_qi fun rv9 h9 => hl_QL A S h o (cd_draw S c nb v t x q) (ml_tr [1, 2, 3, 4] (cd_draw S c nb v t x q)) (cs_write S nb v t x q) (((nI nb)).toInt64) rv9 h9) hk_no := by
  have hin : hl_in [1, 2, 3, 4] (cd_draw S c nb v t x q) := by
    unfold cd_draw
    repeat (first | exact in_H (by decide) | exact in_M (by decide) | exact in_R (by decide) | exact in_O (by decide) | exact in_S (by decide) _ | exact in_0 | exact in_m (by decide) | apply in_sq | (first | unfold cd_a | unfold cd_n | unfold cd_ore | unfold cd_le | unfold cd_clw | unfold cd_W | unfold cd_L | unfold cd_C | unfold cd_K | unfold cd_D | unfold cd_B | unfold cd_dn | unfold cd_sh | unfold cd_U) | apply in_if)
  refine hl_enter (by decide) hfl (Nat.le_of_ble_eq_true rfl) rfl ?_
  refine hk_aload dL_draw_0 rfl rfl ?_
  refine hk_iconst (v := nI 0) dL_draw_2 rfl (by decide) ?_
  refine hk_aload_n dL_draw_3 rfl rfl rfl ?_
  refine hk_iload_n dL_draw_4 rfl rfl rfl ?_
  refine hk_iload_n dL_draw_5 rfl rfl rfl ?_
  refine hk_iload_n dL_draw_6 rfl rfl rfl ?_
  refine hk_iload dL_draw_7 rfl rfl ?_
  refine hl_cl hA rfl dL_draw_9 rfl mv_L_73 (ct_X6_draw (h := h) hfl hA hI) rfl rfl (by decide) ⟨Nat.le_refl _, Nat.le_refl _⟩ (Nat.le_of_ble_eq_true rfl) (fun hz => ?_) (fun E hx => ?_)
  · skip
    refine hk_i2l dL_draw_12 rfl ?_
    refine hk_last dL_draw_13 rfl (by rw [hs_ov_ne hoA]; exact ho) (vp_in_nI (by decide) (by decide)) ?_
    rw [hl_ovs hA hoA]
    refine hk_goto (tgt := 33) dL_draw_14 (by decide) ?_
    refine hk_iconst (v := nI 0) dL_draw_33 rfl (by decide) ?_
    exact hk_ireturn rfl (by rfl) dL_draw_34 ⟨_, rfl, Or.inl ⟨hz, rfl, _, if_pos (by decide), rfl⟩⟩
  · skip
    obtain ⟨hne, rfl⟩ := hx
    rcases hin with e | e
    · exact absurd e hne
    simp only [List.mem_cons, List.not_mem_nil, or_false] at e
    rcases e with e | e | e | e
    · skip
      rw [e]
      refine hl_catch (E := "java/lang/IndexOutOfBoundsException") (nm := "java/lang/IndexOutOfBoundsException") rfl [] (0, 14, 17, 21) [(0, 14, 21, 13), (0, 14, 25, 15), (0, 14, 29, 34)] rfl (fun z hz => absurd hz List.not_mem_nil) (by decide) (by decide) kx_21 kc_21 (fun q => ?_)
      refine hk_astore dL_draw_17 rfl (by decide) rfl ?_
      refine hk_iconst (v := nI 1) dL_draw_19 rfl (by decide) ?_
      exact hk_ireturn rfl (by rfl) dL_draw_20 ⟨_, rfl, Or.inr ⟨by decide, rfl, rfl⟩⟩
    · skip
      rw [e]
      refine hl_catch (E := "java/lang/IllegalArgumentException") (nm := "java/lang/IllegalArgumentException") rfl [(0, 14, 17, 21)] (0, 14, 21, 13) [(0, 14, 25, 15), (0, 14, 29, 34)] rfl (fun z hz => by simp only [List.mem_cons, List.not_mem_nil, or_false] at hz; subst hz <;> first | exact ⟨by decide, _, kx_21, by decide +kernel⟩) (by decide) (by decide) kx_13 kc_13 (fun q => ?_)
      refine hk_astore dL_draw_21 rfl (by decide) rfl ?_
      refine hk_iconst (v := nI 2) dL_draw_23 rfl (by decide) ?_
      exact hk_ireturn rfl (by rfl) dL_draw_24 ⟨_, rfl, Or.inr ⟨by decide, rfl, rfl⟩⟩
    · skip
      rw [e]
      refine hl_catch (E := "java/lang/IllegalStateException") (nm := "java/lang/IllegalStateException") rfl [(0, 14, 17, 21), (0, 14, 21, 13)] (0, 14, 25, 15) [(0, 14, 29, 34)] rfl (fun z hz => by simp only [List.mem_cons, List.not_mem_nil, or_false] at hz; rcases hz with rfl | rfl <;> first | exact ⟨by decide, _, kx_21, by decide +kernel⟩ | exact ⟨by decide, _, kx_13, by decide +kernel⟩) (by decide) (by decide) kx_15 kc_15 (fun q => ?_)
      refine hk_astore dL_draw_25 rfl (by decide) rfl ?_
      refine hk_iconst (v := nI 3) dL_draw_27 rfl (by decide) ?_
      exact hk_ireturn rfl (by rfl) dL_draw_28 ⟨_, rfl, Or.inr ⟨by decide, rfl, rfl⟩⟩
    · skip
      rw [e]
      refine hl_catch (E := "java/lang/UnsupportedOperationException") (nm := "java/lang/UnsupportedOperationException") rfl [(0, 14, 17, 21), (0, 14, 21, 13), (0, 14, 25, 15)] (0, 14, 29, 34) [] rfl (fun z hz => by simp only [List.mem_cons, List.not_mem_nil, or_false] at hz; rcases hz with rfl | rfl | rfl <;> first | exact ⟨by decide, _, kx_21, by decide +kernel⟩ | exact ⟨by decide, _, kx_13, by decide +kernel⟩ | exact ⟨by decide, _, kx_15, by decide +kernel⟩) (by decide) (by decide) kx_34 kc_34 (fun q => ?_)
      refine hk_astore dL_draw_29 rfl (by decide) rfl ?_
      refine hk_iconst (v := nI 4) dL_draw_31 rfl (by decide) ?_
      exact hk_ireturn rfl (by rfl) dL_draw_32 ⟨_, rfl, Or.inr ⟨by decide, rfl, rfl⟩⟩
theorem cl_endorse {c nc nb : Nat} {v t : Int32} (hfl : l.stackTraces = false) (hA : hs_inj A) (hI : cx_I S c nc nb) {o : Nat} {f : Nat → Int64} (ho : h o = some (.inl (2, 1, .inr (.inl f)))) (hoA : ∀ i, i < 30 → A i ≠ o) : hl_Ctr G l 9 yL_endorse cL_endorse 5 (some .int) [(0, 10, 13, 21), (0, 10, 17, 13), (0, 10, 21, 15), (0, 10, 25, 34)] 12 72 [.ref (A 0), .int v, .int t, .ref o] (hs_ov A S h) (hk_qi fun rv9 h9 => hl_QL A S h o (cd_endorse S c nb v t) (ml_tr [1, 2, 3, 4] (cd_endorse S c nb v t)) (cs_endorse S v t) (((S.1 24 (vN v))).toInt64) rv9 h9) hk_no := by
  have hin : hl_in [1, 2, 3, 4] (cd_endorse S c nb v t) := by
    unfold cd_endorse
    repeat (first | exact in_H (by decide) | exact in_M (by decide) | exact in_R (by decide) | exact in_O (by decide) | exact in_S (by decide) _ | exact in_0 | exact in_m (by decide) | apply in_sq | (first | unfold cd_a | unfold cd_n | unfold cd_ore | unfold cd_le | unfold cd_clw | unfold cd_W | unfold cd_L | unfold cd_C | unfold cd_K | unfold cd_D | unfold cd_B | unfold cd_dn | unfold cd_sh | unfold cd_U) | apply in_if)
  refine hl_enter (by decide) hfl (Nat.le_of_ble_eq_true rfl) rfl ?_
  refine hk_aload_n dL_endorse_0 rfl rfl rfl ?_
  refine hk_iconst (v := nI 0) dL_endorse_1 rfl (by decide) ?_
  refine hk_aload_n dL_endorse_2 rfl rfl rfl ?_
  refine hk_iload_n dL_endorse_3 rfl rfl rfl ?_
  refine hk_iload_n dL_endorse_4 rfl rfl rfl ?_
  refine hl_cl hA rfl dL_endorse_5 rfl mv_L_76 (ct_X6_endorse (h := h) hfl hA hI) rfl rfl (by decide) ⟨Nat.le_refl _, Nat.le_refl _⟩ (Nat.le_of_ble_eq_true rfl) (fun hz => ?_) (fun E hx => ?_)
  · skip
    refine hk_i2l dL_endorse_8 rfl ?_
    refine hk_last dL_endorse_9 rfl (by rw [hs_ov_ne hoA]; exact ho) (vp_in_nI (by decide) (by decide)) ?_
    rw [hl_ovs hA hoA]
    refine hk_goto (tgt := 29) dL_endorse_10 (by decide) ?_
    refine hk_iconst (v := nI 0) dL_endorse_29 rfl (by decide) ?_
    exact hk_ireturn rfl (by rfl) dL_endorse_30 ⟨_, rfl, Or.inl ⟨hz, rfl, _, if_pos (by decide), rfl⟩⟩
  · skip
    obtain ⟨hne, rfl⟩ := hx
    rcases hin with e | e
    · exact absurd e hne
    simp only [List.mem_cons, List.not_mem_nil, or_false] at e
    rcases e with e | e | e | e
    · skip
      rw [e]
      refine hl_catch (E := "java/lang/IndexOutOfBoundsException") (nm := "java/lang/IndexOutOfBoundsException") rfl [] (0, 10, 13, 21) [(0, 10, 17, 13), (0, 10, 21, 15), (0, 10, 25, 34)] rfl (fun z hz => absurd hz List.not_mem_nil) (by decide) (by decide) kx_21 kc_21 (fun q => ?_)
      refine hk_astore dL_endorse_13 rfl (by decide) rfl ?_
      refine hk_iconst (v := nI 1) dL_endorse_15 rfl (by decide) ?_
      exact hk_ireturn rfl (by rfl) dL_endorse_16 ⟨_, rfl, Or.inr ⟨by decide, rfl, rfl⟩⟩
    · skip
      rw [e]
      refine hl_catch (E := "java/lang/IllegalArgumentException") (nm := "java/lang/IllegalArgumentException") rfl [(0, 10, 13, 21)] (0, 10, 17, 13) [(0, 10, 21, 15), (0, 10, 25, 34)] rfl (fun z hz => by simp only [List.mem_cons, List.not_mem_nil, or_false] at hz; subst hz <;> first | exact ⟨by decide, _, kx_21, by decide +kernel⟩) (by decide) (by decide) kx_13 kc_13 (fun q => ?_)
      refine hk_astore dL_endorse_17 rfl (by decide) rfl ?_
      refine hk_iconst (v := nI 2) dL_endorse_19 rfl (by decide) ?_
      exact hk_ireturn rfl (by rfl) dL_endorse_20 ⟨_, rfl, Or.inr ⟨by decide, rfl, rfl⟩⟩
    · skip
      rw [e]
      refine hl_catch (E := "java/lang/IllegalStateException") (nm := "java/lang/IllegalStateException") rfl [(0, 10, 13, 21), (0, 10, 17, 13)] (0, 10, 21, 15) [(0, 10, 25, 34)] rfl (fun z hz => by simp only [List.mem_cons, List.not_mem_nil, or_false] at hz; rcases hz with rfl | rfl <;> first | exact ⟨by decide, _, kx_21, by decide +kernel⟩ | exact ⟨by decide, _, kx_13, by decide +kernel⟩) (by decide) (by decide) kx_15 kc_15 (fun q => ?_)
      refine hk_astore dL_endorse_21 rfl (by decide) rfl ?_
      refine hk_iconst (v := nI 3) dL_endorse_23 rfl (by decide) ?_
      exact hk_ireturn rfl (by rfl) dL_endorse_24 ⟨_, rfl, Or.inr ⟨by decide, rfl, rfl⟩⟩
    · skip
      rw [e]
      refine hl_catch (E := "java/lang/UnsupportedOperationException") (nm := "java/lang/UnsupportedOperationException") rfl [(0, 10, 13, 21), (0, 10, 17, 13), (0, 10, 21, 15)] (0, 10, 25, 34) [] rfl (fun z hz => by simp only [List.mem_cons, List.not_mem_nil, or_false] at hz; rcases hz with rfl | rfl | rfl <;> first | exact ⟨by decide, _, kx_21, by decide +kernel⟩ | exact ⟨by decide, _, kx_13, by decide +kernel⟩ | exact ⟨by decide, _, kx_15, by decide +kernel⟩) (by decide) (by decide) kx_34 kc_34 (fun q => ?_)
      refine hk_astore dL_endorse_25 rfl (by decide) rfl ?_
      refine hk_iconst (v := nI 4) dL_endorse_27 rfl (by decide) ?_
      exact hk_ireturn rfl (by rfl) dL_endorse_28 ⟨_, rfl, Or.inr ⟨by decide, rfl, rfl⟩⟩
theorem cl_holderOf {c nc nb : Nat} {v : Int32} (hfl : l.stackTraces = false) (hA : hs_inj A) (hI : cx_I S c nc nb) {o : Nat} {f : Nat → Int64} (ho : h o = some (.inl (2, 1, .inr (.inl f)))) (hoA : ∀ i, i < 30 → A i ≠ o) : hl_Ctr G l 9 yL_holderOf cL_holderOf 4 (some .int) [(0, 9, 12, 21)] 12 72 [.ref (A 0), .int v, .ref o] (hs_ov A S h) (hk_qi fun rv9 h9 => hl_QL A S h o (cd_H nb v) (ml_tr [1] (cd_H nb v)) (S) (((S.1 24 (vN v))).toInt64) rv9 h9) hk_no := by
  have hin : hl_in [1] (cd_H nb v) := by
    repeat (first | exact in_H (by decide) | exact in_M (by decide) | exact in_R (by decide) | exact in_O (by decide) | exact in_S (by decide) _ | exact in_0 | exact in_m (by decide) | apply in_sq | (first | unfold cd_a | unfold cd_n | unfold cd_ore | unfold cd_le | unfold cd_clw | unfold cd_W | unfold cd_L | unfold cd_C | unfold cd_K | unfold cd_D | unfold cd_B | unfold cd_dn | unfold cd_sh | unfold cd_U) | apply in_if)
  refine hl_enter (by decide) hfl (Nat.le_of_ble_eq_true rfl) rfl ?_
  refine hk_aload_n dL_holderOf_0 rfl rfl rfl ?_
  refine hk_iconst (v := nI 0) dL_holderOf_1 rfl (by decide) ?_
  refine hk_aload_n dL_holderOf_2 rfl rfl rfl ?_
  refine hk_iload_n dL_holderOf_3 rfl rfl rfl ?_
  refine hl_cl hA rfl dL_holderOf_4 rfl mv_L_79 (ct_X6_holderOf (h := h) hfl hA hI) rfl rfl (by decide) ⟨Nat.le_refl _, Nat.le_refl _⟩ (Nat.le_of_ble_eq_true rfl) (fun hz => ?_) (fun E hx => ?_)
  · skip
    refine hk_i2l dL_holderOf_7 rfl ?_
    refine hk_last dL_holderOf_8 rfl (by rw [hs_ov_ne hoA]; exact ho) (vp_in_nI (by decide) (by decide)) ?_
    rw [hl_ovs hA hoA]
    refine hk_goto (tgt := 15) dL_holderOf_9 (by decide) ?_
    refine hk_iconst (v := nI 0) dL_holderOf_15 rfl (by decide) ?_
    exact hk_ireturn rfl (by rfl) dL_holderOf_16 ⟨_, rfl, Or.inl ⟨hz, rfl, _, if_pos (by decide), rfl⟩⟩
  · skip
    obtain ⟨hne, rfl⟩ := hx
    rcases hin with e | e
    · exact absurd e hne
    simp only [List.mem_cons, List.not_mem_nil, or_false] at e
    rw [e]
    refine hl_catch (E := "java/lang/IndexOutOfBoundsException") (nm := "java/lang/IndexOutOfBoundsException") rfl [] (0, 9, 12, 21) [] rfl (fun z hz => absurd hz List.not_mem_nil) (by decide) (by decide) kx_21 kc_21 (fun q => ?_)
    refine hk_astore_n dL_holderOf_12 rfl rfl (by decide) rfl ?_
    refine hk_iconst (v := nI 1) dL_holderOf_13 rfl (by decide) ?_
    exact hk_ireturn rfl (by rfl) dL_holderOf_14 ⟨_, rfl, Or.inr ⟨by decide, rfl, rfl⟩⟩
theorem cl_addShare {c nc nb : Nat} {g v q : Int32} (hfl : l.stackTraces = false) (hA : hs_inj A) (hI : cx_I S c nc nb) {o : Nat} {f : Nat → Int64} (ho : h o = some (.inl (2, 1, .inr (.inl f)))) (hoA : ∀ i, i < 30 → A i ≠ o) : hl_Ctr G l 9 yL_addShare cL_addShare 6 (some .int) [(0, 12, 15, 21), (0, 12, 19, 13), (0, 12, 23, 15)] 12 72 [.ref (A 0), .int g, .int v, .int q, .ref o] (hs_ov A S h) (hk_qi fun rv9 h9 => hl_QL A S h o (cd_addShare S c g v q) (ml_tr [1, 2, 3] (cd_addShare S c g v q)) (cs_addShare S g v q) ((((cs_addShare S g v q).1 27 (vN g * 6 + vN v))).toInt64) rv9 h9) hk_no := by
  have hin : hl_in [1, 2, 3] (cd_addShare S c g v q) := by
    unfold cd_addShare
    repeat (first | exact in_H (by decide) | exact in_M (by decide) | exact in_R (by decide) | exact in_O (by decide) | exact in_S (by decide) _ | exact in_0 | exact in_m (by decide) | apply in_sq | (first | unfold cd_a | unfold cd_n | unfold cd_ore | unfold cd_le | unfold cd_clw | unfold cd_W | unfold cd_L | unfold cd_C | unfold cd_K | unfold cd_D | unfold cd_B | unfold cd_dn | unfold cd_sh | unfold cd_U) | apply in_if)
  refine hl_enter (by decide) hfl (Nat.le_of_ble_eq_true rfl) rfl ?_
  refine hk_aload dL_addShare_0 rfl rfl ?_
  refine hk_iconst (v := nI 0) dL_addShare_2 rfl (by decide) ?_
  refine hk_aload_n dL_addShare_3 rfl rfl rfl ?_
  refine hk_iload_n dL_addShare_4 rfl rfl rfl ?_
  refine hk_iload_n dL_addShare_5 rfl rfl rfl ?_
  refine hk_iload_n dL_addShare_6 rfl rfl rfl ?_
  refine hl_cl hA rfl dL_addShare_7 rfl mv_L_83 (ct_X6_addShare (h := h) hfl hA hI) rfl rfl (by decide) ⟨Nat.le_refl _, Nat.le_refl _⟩ (Nat.le_of_ble_eq_true rfl) (fun hz => ?_) (fun E hx => ?_)
  · skip
    refine hk_i2l dL_addShare_10 rfl ?_
    refine hk_last dL_addShare_11 rfl (by rw [hs_ov_ne hoA]; exact ho) (vp_in_nI (by decide) (by decide)) ?_
    rw [hl_ovs hA hoA]
    refine hk_goto (tgt := 27) dL_addShare_12 (by decide) ?_
    refine hk_iconst (v := nI 0) dL_addShare_27 rfl (by decide) ?_
    exact hk_ireturn rfl (by rfl) dL_addShare_28 ⟨_, rfl, Or.inl ⟨hz, rfl, _, if_pos (by decide), rfl⟩⟩
  · skip
    obtain ⟨hne, rfl⟩ := hx
    rcases hin with e | e
    · exact absurd e hne
    simp only [List.mem_cons, List.not_mem_nil, or_false] at e
    rcases e with e | e | e
    · skip
      rw [e]
      refine hl_catch (E := "java/lang/IndexOutOfBoundsException") (nm := "java/lang/IndexOutOfBoundsException") rfl [] (0, 12, 15, 21) [(0, 12, 19, 13), (0, 12, 23, 15)] rfl (fun z hz => absurd hz List.not_mem_nil) (by decide) (by decide) kx_21 kc_21 (fun q => ?_)
      refine hk_astore dL_addShare_15 rfl (by decide) rfl ?_
      refine hk_iconst (v := nI 1) dL_addShare_17 rfl (by decide) ?_
      exact hk_ireturn rfl (by rfl) dL_addShare_18 ⟨_, rfl, Or.inr ⟨by decide, rfl, rfl⟩⟩
    · skip
      rw [e]
      refine hl_catch (E := "java/lang/IllegalArgumentException") (nm := "java/lang/IllegalArgumentException") rfl [(0, 12, 15, 21)] (0, 12, 19, 13) [(0, 12, 23, 15)] rfl (fun z hz => by simp only [List.mem_cons, List.not_mem_nil, or_false] at hz; subst hz <;> first | exact ⟨by decide, _, kx_21, by decide +kernel⟩) (by decide) (by decide) kx_13 kc_13 (fun q => ?_)
      refine hk_astore dL_addShare_19 rfl (by decide) rfl ?_
      refine hk_iconst (v := nI 2) dL_addShare_21 rfl (by decide) ?_
      exact hk_ireturn rfl (by rfl) dL_addShare_22 ⟨_, rfl, Or.inr ⟨by decide, rfl, rfl⟩⟩
    · skip
      rw [e]
      refine hl_catch (E := "java/lang/IllegalStateException") (nm := "java/lang/IllegalStateException") rfl [(0, 12, 15, 21), (0, 12, 19, 13)] (0, 12, 23, 15) [] rfl (fun z hz => by simp only [List.mem_cons, List.not_mem_nil, or_false] at hz; rcases hz with rfl | rfl <;> first | exact ⟨by decide, _, kx_21, by decide +kernel⟩ | exact ⟨by decide, _, kx_13, by decide +kernel⟩) (by decide) (by decide) kx_15 kc_15 (fun q => ?_)
      refine hk_astore dL_addShare_23 rfl (by decide) rfl ?_
      refine hk_iconst (v := nI 3) dL_addShare_25 rfl (by decide) ?_
      exact hk_ireturn rfl (by rfl) dL_addShare_26 ⟨_, rfl, Or.inr ⟨by decide, rfl, rfl⟩⟩
theorem cl_throwOver {c nc nb : Nat} {g v q : Int32} (hfl : l.stackTraces = false) (hA : hs_inj A) (hI : cx_I S c nc nb) (hz : cd_throwOver S c g v q = 0 → ¬ cs_va S (vN g) 6 = 0 ∧ ∃ L, L ≤ 6 ∧ (cs_p1 (vN g) q (cs_va S (vN g) 6) S 6).2 = nI L) {o : Nat} {f : Nat → Int64} (ho : h o = some (.inl (2, 1, .inr (.inl f)))) (hoA : ∀ i, i < 30 → A i ≠ o) : hl_Ctr G l 9 yL_throwOver cL_throwOver 6 (some .int) [(0, 12, 15, 21), (0, 12, 19, 13), (0, 12, 23, 15), (0, 12, 27, 34)] 16 96 [.ref (A 0), .int g, .int v, .int q, .ref o] (hs_ov A S h) (hk_qi fun rv9 h9 => hl_QL A S h o (cd_throwOver S c g v q) (ml_tr [1, 2, 3, 4] (cd_throwOver S c g v q)) (cs_throwOver S g v q) ((((cs_throwOver S g v q).1 28 (vN v))).toInt64) rv9 h9) hk_no := by
  have hin : hl_in [1, 2, 3, 4] (cd_throwOver S c g v q) := by
    unfold cd_throwOver
    repeat (first | exact in_H (by decide) | exact in_M (by decide) | exact in_R (by decide) | exact in_O (by decide) | exact in_S (by decide) _ | exact in_0 | exact in_m (by decide) | apply in_sq | (first | unfold cd_a | unfold cd_n | unfold cd_ore | unfold cd_le | unfold cd_clw | unfold cd_W | unfold cd_L | unfold cd_C | unfold cd_K | unfold cd_D | unfold cd_B | unfold cd_dn | unfold cd_sh | unfold cd_U) | apply in_if)
  refine hl_enter (by decide) hfl (Nat.le_of_ble_eq_true rfl) rfl ?_
  refine hk_aload dL_throwOver_0 rfl rfl ?_
  refine hk_iconst (v := nI 0) dL_throwOver_2 rfl (by decide) ?_
  refine hk_aload_n dL_throwOver_3 rfl rfl rfl ?_
  refine hk_iload_n dL_throwOver_4 rfl rfl rfl ?_
  refine hk_iload_n dL_throwOver_5 rfl rfl rfl ?_
  refine hk_iload_n dL_throwOver_6 rfl rfl rfl ?_
  refine hl_cl hA rfl dL_throwOver_7 rfl mv_L_86 (ct_X6_throwOver (h := h) hfl hA hI hz) rfl rfl (by decide) ⟨Nat.le_refl _, Nat.le_refl _⟩ (Nat.le_of_ble_eq_true rfl) (fun hz => ?_) (fun E hx => ?_)
  · skip
    refine hk_i2l dL_throwOver_10 rfl ?_
    refine hk_last dL_throwOver_11 rfl (by rw [hs_ov_ne hoA]; exact ho) (vp_in_nI (by decide) (by decide)) ?_
    rw [hl_ovs hA hoA]
    refine hk_goto (tgt := 31) dL_throwOver_12 (by decide) ?_
    refine hk_iconst (v := nI 0) dL_throwOver_31 rfl (by decide) ?_
    exact hk_ireturn rfl (by rfl) dL_throwOver_32 ⟨_, rfl, Or.inl ⟨hz, rfl, _, if_pos (by decide), rfl⟩⟩
  · skip
    obtain ⟨hne, rfl⟩ := hx
    rcases hin with e | e
    · exact absurd e hne
    simp only [List.mem_cons, List.not_mem_nil, or_false] at e
    rcases e with e | e | e | e
    · skip
      rw [e]
      refine hl_catch (E := "java/lang/IndexOutOfBoundsException") (nm := "java/lang/IndexOutOfBoundsException") rfl [] (0, 12, 15, 21) [(0, 12, 19, 13), (0, 12, 23, 15), (0, 12, 27, 34)] rfl (fun z hz => absurd hz List.not_mem_nil) (by decide) (by decide) kx_21 kc_21 (fun q => ?_)
      refine hk_astore dL_throwOver_15 rfl (by decide) rfl ?_
      refine hk_iconst (v := nI 1) dL_throwOver_17 rfl (by decide) ?_
      exact hk_ireturn rfl (by rfl) dL_throwOver_18 ⟨_, rfl, Or.inr ⟨by decide, rfl, rfl⟩⟩
    · skip
      rw [e]
      refine hl_catch (E := "java/lang/IllegalArgumentException") (nm := "java/lang/IllegalArgumentException") rfl [(0, 12, 15, 21)] (0, 12, 19, 13) [(0, 12, 23, 15), (0, 12, 27, 34)] rfl (fun z hz => by simp only [List.mem_cons, List.not_mem_nil, or_false] at hz; subst hz <;> first | exact ⟨by decide, _, kx_21, by decide +kernel⟩) (by decide) (by decide) kx_13 kc_13 (fun q => ?_)
      refine hk_astore dL_throwOver_19 rfl (by decide) rfl ?_
      refine hk_iconst (v := nI 2) dL_throwOver_21 rfl (by decide) ?_
      exact hk_ireturn rfl (by rfl) dL_throwOver_22 ⟨_, rfl, Or.inr ⟨by decide, rfl, rfl⟩⟩
    · skip
      rw [e]
      refine hl_catch (E := "java/lang/IllegalStateException") (nm := "java/lang/IllegalStateException") rfl [(0, 12, 15, 21), (0, 12, 19, 13)] (0, 12, 23, 15) [(0, 12, 27, 34)] rfl (fun z hz => by simp only [List.mem_cons, List.not_mem_nil, or_false] at hz; rcases hz with rfl | rfl <;> first | exact ⟨by decide, _, kx_21, by decide +kernel⟩ | exact ⟨by decide, _, kx_13, by decide +kernel⟩) (by decide) (by decide) kx_15 kc_15 (fun q => ?_)
      refine hk_astore dL_throwOver_23 rfl (by decide) rfl ?_
      refine hk_iconst (v := nI 3) dL_throwOver_25 rfl (by decide) ?_
      exact hk_ireturn rfl (by rfl) dL_throwOver_26 ⟨_, rfl, Or.inr ⟨by decide, rfl, rfl⟩⟩
    · skip
      rw [e]
      refine hl_catch (E := "java/lang/UnsupportedOperationException") (nm := "java/lang/UnsupportedOperationException") rfl [(0, 12, 15, 21), (0, 12, 19, 13), (0, 12, 23, 15)] (0, 12, 27, 34) [] rfl (fun z hz => by simp only [List.mem_cons, List.not_mem_nil, or_false] at hz; rcases hz with rfl | rfl | rfl <;> first | exact ⟨by decide, _, kx_21, by decide +kernel⟩ | exact ⟨by decide, _, kx_13, by decide +kernel⟩ | exact ⟨by decide, _, kx_15, by decide +kernel⟩) (by decide) (by decide) kx_34 kc_34 (fun q => ?_)
      refine hk_astore dL_throwOver_27 rfl (by decide) rfl ?_
      refine hk_iconst (v := nI 4) dL_throwOver_29 rfl (by decide) ?_
      exact hk_ireturn rfl (by rfl) dL_throwOver_30 ⟨_, rfl, Or.inr ⟨by decide, rfl, rfl⟩⟩
theorem cl_coins {c nc nb : Nat} {v mt : Int32} (hfl : l.stackTraces = false) (hA : hs_inj A) (hI : cx_I S c nc nb) {o : Nat} {f : Nat → Int64} (ho : h o = some (.inl (2, 1, .inr (.inl f)))) (hoA : ∀ i, i < 30 → A i ≠ o) : hl_Ctr G l 9 yL_coins cL_coins 5 (some .int) [(0, 10, 13, 21), (0, 10, 17, 13)] 12 72 [.ref (A 0), .int v, .int mt, .ref o] (hs_ov A S h) (hk_qi fun rv9 h9 => hl_QL A S h o (cd_HM c v mt) (ml_tr [1, 2] (cd_HM c v mt)) (S) (((nI (cs_owned S (vN v) (cs_m mt) nc))).toInt64) rv9 h9) hk_no := by
  have hin : hl_in [1, 2] (cd_HM c v mt) := by
    unfold cd_HM
    repeat (first | exact in_H (by decide) | exact in_M (by decide) | exact in_R (by decide) | exact in_O (by decide) | exact in_S (by decide) _ | exact in_0 | exact in_m (by decide) | apply in_sq | (first | unfold cd_a | unfold cd_n | unfold cd_ore | unfold cd_le | unfold cd_clw | unfold cd_W | unfold cd_L | unfold cd_C | unfold cd_K | unfold cd_D | unfold cd_B | unfold cd_dn | unfold cd_sh | unfold cd_U) | apply in_if)
  refine hl_enter (by decide) hfl (Nat.le_of_ble_eq_true rfl) rfl ?_
  refine hk_aload_n dL_coins_0 rfl rfl rfl ?_
  refine hk_iconst (v := nI 0) dL_coins_1 rfl (by decide) ?_
  refine hk_aload_n dL_coins_2 rfl rfl rfl ?_
  refine hk_iload_n dL_coins_3 rfl rfl rfl ?_
  refine hk_iload_n dL_coins_4 rfl rfl rfl ?_
  refine hl_cl hA rfl dL_coins_5 rfl mv_L_89 (ct_X6_coins (h := h) hfl hA hI) rfl rfl (by decide) ⟨Nat.le_refl _, Nat.le_refl _⟩ (Nat.le_of_ble_eq_true rfl) (fun hz => ?_) (fun E hx => ?_)
  · skip
    refine hk_i2l dL_coins_8 rfl ?_
    refine hk_last dL_coins_9 rfl (by rw [hs_ov_ne hoA]; exact ho) (vp_in_nI (by decide) (by decide)) ?_
    rw [hl_ovs hA hoA]
    refine hk_goto (tgt := 21) dL_coins_10 (by decide) ?_
    refine hk_iconst (v := nI 0) dL_coins_21 rfl (by decide) ?_
    exact hk_ireturn rfl (by rfl) dL_coins_22 ⟨_, rfl, Or.inl ⟨hz, rfl, _, if_pos (by decide), rfl⟩⟩
  · skip
    obtain ⟨hne, rfl⟩ := hx
    rcases hin with e | e
    · exact absurd e hne
    simp only [List.mem_cons, List.not_mem_nil, or_false] at e
    rcases e with e | e
    · skip
      rw [e]
      refine hl_catch (E := "java/lang/IndexOutOfBoundsException") (nm := "java/lang/IndexOutOfBoundsException") rfl [] (0, 10, 13, 21) [(0, 10, 17, 13)] rfl (fun z hz => absurd hz List.not_mem_nil) (by decide) (by decide) kx_21 kc_21 (fun q => ?_)
      refine hk_astore dL_coins_13 rfl (by decide) rfl ?_
      refine hk_iconst (v := nI 1) dL_coins_15 rfl (by decide) ?_
      exact hk_ireturn rfl (by rfl) dL_coins_16 ⟨_, rfl, Or.inr ⟨by decide, rfl, rfl⟩⟩
    · skip
      rw [e]
      refine hl_catch (E := "java/lang/IllegalArgumentException") (nm := "java/lang/IllegalArgumentException") rfl [(0, 10, 13, 21)] (0, 10, 17, 13) [] rfl (fun z hz => by simp only [List.mem_cons, List.not_mem_nil, or_false] at hz; subst hz <;> first | exact ⟨by decide, _, kx_21, by decide +kernel⟩) (by decide) (by decide) kx_13 kc_13 (fun q => ?_)
      refine hk_astore dL_coins_17 rfl (by decide) rfl ?_
      refine hk_iconst (v := nI 2) dL_coins_19 rfl (by decide) ?_
      exact hk_ireturn rfl (by rfl) dL_coins_20 ⟨_, rfl, Or.inr ⟨by decide, rfl, rfl⟩⟩
theorem cl_weightOf {c nc nb : Nat} {v : Int32} (hfl : l.stackTraces = false) (hA : hs_inj A) (hI : cx_I S c nc nb) {o : Nat} {f : Nat → Int64} (ho : h o = some (.inl (2, 1, .inr (.inl f)))) (hoA : ∀ i, i < 30 → A i ≠ o) : hl_Ctr G l 9 yL_weightOf cL_weightOf 4 (some .int) [(0, 9, 12, 21)] 12 72 [.ref (A 0), .int v, .ref o] (hs_ov A S h) (hk_qi fun rv9 h9 => hl_QL A S h o (cd_H nc v) (ml_tr [1] (cd_H nc v)) (S) (((S.1 14 (vN v))).toInt64) rv9 h9) hk_no := by
  have hin : hl_in [1] (cd_H nc v) := by
    repeat (first | exact in_H (by decide) | exact in_M (by decide) | exact in_R (by decide) | exact in_O (by decide) | exact in_S (by decide) _ | exact in_0 | exact in_m (by decide) | apply in_sq | (first | unfold cd_a | unfold cd_n | unfold cd_ore | unfold cd_le | unfold cd_clw | unfold cd_W | unfold cd_L | unfold cd_C | unfold cd_K | unfold cd_D | unfold cd_B | unfold cd_dn | unfold cd_sh | unfold cd_U) | apply in_if)
  refine hl_enter (by decide) hfl (Nat.le_of_ble_eq_true rfl) rfl ?_
  refine hk_aload_n dL_weightOf_0 rfl rfl rfl ?_
  refine hk_iconst (v := nI 0) dL_weightOf_1 rfl (by decide) ?_
  refine hk_aload_n dL_weightOf_2 rfl rfl rfl ?_
  refine hk_iload_n dL_weightOf_3 rfl rfl rfl ?_
  refine hl_cl hA rfl dL_weightOf_4 rfl mv_L_92 (ct_X6_weightOf (h := h) hfl hA hI) rfl rfl (by decide) ⟨Nat.le_refl _, Nat.le_refl _⟩ (Nat.le_of_ble_eq_true rfl) (fun hz => ?_) (fun E hx => ?_)
  · skip
    refine hk_i2l dL_weightOf_7 rfl ?_
    refine hk_last dL_weightOf_8 rfl (by rw [hs_ov_ne hoA]; exact ho) (vp_in_nI (by decide) (by decide)) ?_
    rw [hl_ovs hA hoA]
    refine hk_goto (tgt := 15) dL_weightOf_9 (by decide) ?_
    refine hk_iconst (v := nI 0) dL_weightOf_15 rfl (by decide) ?_
    exact hk_ireturn rfl (by rfl) dL_weightOf_16 ⟨_, rfl, Or.inl ⟨hz, rfl, _, if_pos (by decide), rfl⟩⟩
  · skip
    obtain ⟨hne, rfl⟩ := hx
    rcases hin with e | e
    · exact absurd e hne
    simp only [List.mem_cons, List.not_mem_nil, or_false] at e
    rw [e]
    refine hl_catch (E := "java/lang/IndexOutOfBoundsException") (nm := "java/lang/IndexOutOfBoundsException") rfl [] (0, 9, 12, 21) [] rfl (fun z hz => absurd hz List.not_mem_nil) (by decide) (by decide) kx_21 kc_21 (fun q => ?_)
    refine hk_astore_n dL_weightOf_12 rfl rfl (by decide) rfl ?_
    refine hk_iconst (v := nI 1) dL_weightOf_13 rfl (by decide) ?_
    exact hk_ireturn rfl (by rfl) dL_weightOf_14 ⟨_, rfl, Or.inr ⟨by decide, rfl, rfl⟩⟩
theorem cl_ownerOf {c nc nb : Nat} {v : Int32} (hfl : l.stackTraces = false) (hA : hs_inj A) (hI : cx_I S c nc nb) {o : Nat} {f : Nat → Int64} (ho : h o = some (.inl (2, 1, .inr (.inl f)))) (hoA : ∀ i, i < 30 → A i ≠ o) : hl_Ctr G l 9 yL_ownerOf cL_ownerOf 4 (some .int) [(0, 9, 12, 21)] 12 72 [.ref (A 0), .int v, .ref o] (hs_ov A S h) (hk_qi fun rv9 h9 => hl_QL A S h o (cd_H nc v) (ml_tr [1] (cd_H nc v)) (S) (((S.1 15 (vN v))).toInt64) rv9 h9) hk_no := by
  have hin : hl_in [1] (cd_H nc v) := by
    repeat (first | exact in_H (by decide) | exact in_M (by decide) | exact in_R (by decide) | exact in_O (by decide) | exact in_S (by decide) _ | exact in_0 | exact in_m (by decide) | apply in_sq | (first | unfold cd_a | unfold cd_n | unfold cd_ore | unfold cd_le | unfold cd_clw | unfold cd_W | unfold cd_L | unfold cd_C | unfold cd_K | unfold cd_D | unfold cd_B | unfold cd_dn | unfold cd_sh | unfold cd_U) | apply in_if)
  refine hl_enter (by decide) hfl (Nat.le_of_ble_eq_true rfl) rfl ?_
  refine hk_aload_n dL_ownerOf_0 rfl rfl rfl ?_
  refine hk_iconst (v := nI 0) dL_ownerOf_1 rfl (by decide) ?_
  refine hk_aload_n dL_ownerOf_2 rfl rfl rfl ?_
  refine hk_iload_n dL_ownerOf_3 rfl rfl rfl ?_
  refine hl_cl hA rfl dL_ownerOf_4 rfl mv_L_95 (ct_X6_ownerOf (h := h) hfl hA hI) rfl rfl (by decide) ⟨Nat.le_refl _, Nat.le_refl _⟩ (Nat.le_of_ble_eq_true rfl) (fun hz => ?_) (fun E hx => ?_)
  · skip
    refine hk_i2l dL_ownerOf_7 rfl ?_
    refine hk_last dL_ownerOf_8 rfl (by rw [hs_ov_ne hoA]; exact ho) (vp_in_nI (by decide) (by decide)) ?_
    rw [hl_ovs hA hoA]
    refine hk_goto (tgt := 15) dL_ownerOf_9 (by decide) ?_
    refine hk_iconst (v := nI 0) dL_ownerOf_15 rfl (by decide) ?_
    exact hk_ireturn rfl (by rfl) dL_ownerOf_16 ⟨_, rfl, Or.inl ⟨hz, rfl, _, if_pos (by decide), rfl⟩⟩
  · skip
    obtain ⟨hne, rfl⟩ := hx
    rcases hin with e | e
    · exact absurd e hne
    simp only [List.mem_cons, List.not_mem_nil, or_false] at e
    rw [e]
    refine hl_catch (E := "java/lang/IndexOutOfBoundsException") (nm := "java/lang/IndexOutOfBoundsException") rfl [] (0, 9, 12, 21) [] rfl (fun z hz => absurd hz List.not_mem_nil) (by decide) (by decide) kx_21 kc_21 (fun q => ?_)
    refine hk_astore_n dL_ownerOf_12 rfl rfl (by decide) rfl ?_
    refine hk_iconst (v := nI 1) dL_ownerOf_13 rfl (by decide) ?_
    exact hk_ireturn rfl (by rfl) dL_ownerOf_14 ⟨_, rfl, Or.inr ⟨by decide, rfl, rfl⟩⟩
theorem cl_owners {c nc nb : Nat} {v : Int32} (hfl : l.stackTraces = false) (hA : hs_inj A) (hI : cx_I S c nc nb) {o : Nat} {f : Nat → Int64} (ho : h o = some (.inl (2, 1, .inr (.inl f)))) (hoA : ∀ i, i < 30 → A i ≠ o) : hl_Ctr G l 9 yL_owners cL_owners 4 (some .int) [(0, 9, 12, 21)] 12 72 [.ref (A 0), .int v, .ref o] (hs_ov A S h) (hk_qi fun rv9 h9 => hl_QL A S h o (cd_H nc v) (ml_tr [1] (cd_H nc v)) (S) (((S.1 16 (vN v))).toInt64) rv9 h9) hk_no := by
  have hin : hl_in [1] (cd_H nc v) := by
    repeat (first | exact in_H (by decide) | exact in_M (by decide) | exact in_R (by decide) | exact in_O (by decide) | exact in_S (by decide) _ | exact in_0 | exact in_m (by decide) | apply in_sq | (first | unfold cd_a | unfold cd_n | unfold cd_ore | unfold cd_le | unfold cd_clw | unfold cd_W | unfold cd_L | unfold cd_C | unfold cd_K | unfold cd_D | unfold cd_B | unfold cd_dn | unfold cd_sh | unfold cd_U) | apply in_if)
  refine hl_enter (by decide) hfl (Nat.le_of_ble_eq_true rfl) rfl ?_
  refine hk_aload_n dL_owners_0 rfl rfl rfl ?_
  refine hk_iconst (v := nI 0) dL_owners_1 rfl (by decide) ?_
  refine hk_aload_n dL_owners_2 rfl rfl rfl ?_
  refine hk_iload_n dL_owners_3 rfl rfl rfl ?_
  refine hl_cl hA rfl dL_owners_4 rfl mv_L_98 (ct_X6_owners (h := h) hfl hA hI) rfl rfl (by decide) ⟨Nat.le_refl _, Nat.le_refl _⟩ (Nat.le_of_ble_eq_true rfl) (fun hz => ?_) (fun E hx => ?_)
  · skip
    refine hk_i2l dL_owners_7 rfl ?_
    refine hk_last dL_owners_8 rfl (by rw [hs_ov_ne hoA]; exact ho) (vp_in_nI (by decide) (by decide)) ?_
    rw [hl_ovs hA hoA]
    refine hk_goto (tgt := 15) dL_owners_9 (by decide) ?_
    refine hk_iconst (v := nI 0) dL_owners_15 rfl (by decide) ?_
    exact hk_ireturn rfl (by rfl) dL_owners_16 ⟨_, rfl, Or.inl ⟨hz, rfl, _, if_pos (by decide), rfl⟩⟩
  · skip
    obtain ⟨hne, rfl⟩ := hx
    rcases hin with e | e
    · exact absurd e hne
    simp only [List.mem_cons, List.not_mem_nil, or_false] at e
    rw [e]
    refine hl_catch (E := "java/lang/IndexOutOfBoundsException") (nm := "java/lang/IndexOutOfBoundsException") rfl [] (0, 9, 12, 21) [] rfl (fun z hz => absurd hz List.not_mem_nil) (by decide) (by decide) kx_21 kc_21 (fun q => ?_)
    refine hk_astore_n dL_owners_12 rfl rfl (by decide) rfl ?_
    refine hk_iconst (v := nI 1) dL_owners_13 rfl (by decide) ?_
    exact hk_ireturn rfl (by rfl) dL_owners_14 ⟨_, rfl, Or.inr ⟨by decide, rfl, rfl⟩⟩
theorem cl_ore {c nc nb : Nat} {v mt : Int32} (hfl : l.stackTraces = false) (hA : hs_inj A) (hI : cx_I S c nc nb) {o : Nat} {f : Nat → Int64} (ho : h o = some (.inl (2, 1, .inr (.inl f)))) (hoA : ∀ i, i < 30 → A i ≠ o) : hl_Ctr G l 9 yL_ore cL_ore 5 (some .int) [(0, 10, 13, 21), (0, 10, 17, 13)] 12 72 [.ref (A 0), .int v, .int mt, .ref o] (hs_ov A S h) (hk_qi fun rv9 h9 => hl_QL A S h o (cd_HM c v mt) (ml_tr [1, 2] (cd_HM c v mt)) (S) (((S.1 12 (vN v * 2 + cs_m mt))).toInt64) rv9 h9) hk_no := by
  have hin : hl_in [1, 2] (cd_HM c v mt) := by
    unfold cd_HM
    repeat (first | exact in_H (by decide) | exact in_M (by decide) | exact in_R (by decide) | exact in_O (by decide) | exact in_S (by decide) _ | exact in_0 | exact in_m (by decide) | apply in_sq | (first | unfold cd_a | unfold cd_n | unfold cd_ore | unfold cd_le | unfold cd_clw | unfold cd_W | unfold cd_L | unfold cd_C | unfold cd_K | unfold cd_D | unfold cd_B | unfold cd_dn | unfold cd_sh | unfold cd_U) | apply in_if)
  refine hl_enter (by decide) hfl (Nat.le_of_ble_eq_true rfl) rfl ?_
  refine hk_aload_n dL_ore_0 rfl rfl rfl ?_
  refine hk_iconst (v := nI 0) dL_ore_1 rfl (by decide) ?_
  refine hk_aload_n dL_ore_2 rfl rfl rfl ?_
  refine hk_iload_n dL_ore_3 rfl rfl rfl ?_
  refine hk_iload_n dL_ore_4 rfl rfl rfl ?_
  refine hl_cl hA rfl dL_ore_5 rfl mv_L_101 (ct_X6_ore (h := h) hfl hA hI) rfl rfl (by decide) ⟨Nat.le_refl _, Nat.le_refl _⟩ (Nat.le_of_ble_eq_true rfl) (fun hz => ?_) (fun E hx => ?_)
  · skip
    refine hk_i2l dL_ore_8 rfl ?_
    refine hk_last dL_ore_9 rfl (by rw [hs_ov_ne hoA]; exact ho) (vp_in_nI (by decide) (by decide)) ?_
    rw [hl_ovs hA hoA]
    refine hk_goto (tgt := 21) dL_ore_10 (by decide) ?_
    refine hk_iconst (v := nI 0) dL_ore_21 rfl (by decide) ?_
    exact hk_ireturn rfl (by rfl) dL_ore_22 ⟨_, rfl, Or.inl ⟨hz, rfl, _, if_pos (by decide), rfl⟩⟩
  · skip
    obtain ⟨hne, rfl⟩ := hx
    rcases hin with e | e
    · exact absurd e hne
    simp only [List.mem_cons, List.not_mem_nil, or_false] at e
    rcases e with e | e
    · skip
      rw [e]
      refine hl_catch (E := "java/lang/IndexOutOfBoundsException") (nm := "java/lang/IndexOutOfBoundsException") rfl [] (0, 10, 13, 21) [(0, 10, 17, 13)] rfl (fun z hz => absurd hz List.not_mem_nil) (by decide) (by decide) kx_21 kc_21 (fun q => ?_)
      refine hk_astore dL_ore_13 rfl (by decide) rfl ?_
      refine hk_iconst (v := nI 1) dL_ore_15 rfl (by decide) ?_
      exact hk_ireturn rfl (by rfl) dL_ore_16 ⟨_, rfl, Or.inr ⟨by decide, rfl, rfl⟩⟩
    · skip
      rw [e]
      refine hl_catch (E := "java/lang/IllegalArgumentException") (nm := "java/lang/IllegalArgumentException") rfl [(0, 10, 13, 21)] (0, 10, 17, 13) [] rfl (fun z hz => by simp only [List.mem_cons, List.not_mem_nil, or_false] at hz; subst hz <;> first | exact ⟨by decide, _, kx_21, by decide +kernel⟩) (by decide) (by decide) kx_13 kc_13 (fun q => ?_)
      refine hk_astore dL_ore_17 rfl (by decide) rfl ?_
      refine hk_iconst (v := nI 2) dL_ore_19 rfl (by decide) ?_
      exact hk_ireturn rfl (by rfl) dL_ore_20 ⟨_, rfl, Or.inr ⟨by decide, rfl, rfl⟩⟩
theorem cl_wealth {c nc nb : Nat} {v : Int32} (hfl : l.stackTraces = false) (hA : hs_inj A) (hI : cx_I S c nc nb) {o : Nat} {f : Nat → Int64} (ho : h o = some (.inl (2, 1, .inr (.inl f)))) (hoA : ∀ i, i < 30 → A i ≠ o) : hl_Ctr G l 9 yL_wealth cL_wealth 4 (some .int) [(0, 8, 11, 21)] 2 12 [.ref (A 0), .int v, .ref o] (hs_ov A S h) (hk_qi fun rv9 h9 => hl_QL A S h o (cd_H c v) (ml_tr [1] (cd_H c v)) (S) (((cs_wf S (vN v) nc 2 + cs_sof S (vN v) 6 - cs_son S (vN v) 6))) rv9 h9) hk_no := by
  have hin : hl_in [1] (cd_H c v) := by
    repeat (first | exact in_H (by decide) | exact in_M (by decide) | exact in_R (by decide) | exact in_O (by decide) | exact in_S (by decide) _ | exact in_0 | exact in_m (by decide) | apply in_sq | (first | unfold cd_a | unfold cd_n | unfold cd_ore | unfold cd_le | unfold cd_clw | unfold cd_W | unfold cd_L | unfold cd_C | unfold cd_K | unfold cd_D | unfold cd_B | unfold cd_dn | unfold cd_sh | unfold cd_U) | apply in_if)
  refine hl_enter (by decide) hfl (Nat.le_of_ble_eq_true rfl) rfl ?_
  refine hk_aload_n dL_wealth_0 rfl rfl rfl ?_
  refine hk_iconst (v := nI 0) dL_wealth_1 rfl (by decide) ?_
  refine hk_aload_n dL_wealth_2 rfl rfl rfl ?_
  refine hk_iload_n dL_wealth_3 rfl rfl rfl ?_
  refine hl_cl hA rfl dL_wealth_4 rfl mv_L_104 (ct_X6_wealth (h := h) hfl hA hI) rfl rfl (by decide) ⟨Nat.le_refl _, Nat.le_refl _⟩ (Nat.le_of_ble_eq_true rfl) (fun hz => ?_) (fun E hx => ?_)
  · skip
    refine hk_last dL_wealth_7 rfl (by rw [hs_ov_ne hoA]; exact ho) (vp_in_nI (by decide) (by decide)) ?_
    rw [hl_ovs hA hoA]
    refine hk_goto (tgt := 14) dL_wealth_8 (by decide) ?_
    refine hk_iconst (v := nI 0) dL_wealth_14 rfl (by decide) ?_
    exact hk_ireturn rfl (by rfl) dL_wealth_15 ⟨_, rfl, Or.inl ⟨hz, rfl, _, if_pos (by decide), rfl⟩⟩
  · skip
    obtain ⟨hne, rfl⟩ := hx
    rcases hin with e | e
    · exact absurd e hne
    simp only [List.mem_cons, List.not_mem_nil, or_false] at e
    rw [e]
    refine hl_catch (E := "java/lang/IndexOutOfBoundsException") (nm := "java/lang/IndexOutOfBoundsException") rfl [] (0, 8, 11, 21) [] rfl (fun z hz => absurd hz List.not_mem_nil) (by decide) (by decide) kx_21 kc_21 (fun q => ?_)
    refine hk_astore_n dL_wealth_11 rfl rfl (by decide) rfl ?_
    refine hk_iconst (v := nI 1) dL_wealth_12 rfl (by decide) ?_
    exact hk_ireturn rfl (by rfl) dL_wealth_13 ⟨_, rfl, Or.inr ⟨by decide, rfl, rfl⟩⟩
theorem cl_lightShare {c nc nb : Nat} (hfl : l.stackTraces = false) (hA : hs_inj A) (hI : cx_I S c nc nb) (hn : ¬ cs_unm S nc = 0 → vf_n32 (FP.fdiv (FP.i2f (nI (cs_lsh S nc 2))) (FP.i2f (nI (cs_unm S nc))))) (hn64 : ¬ cs_unm S nc = 0 → vf_n64 (FP.f2d ((FP.fdiv (FP.i2f (nI (cs_lsh S nc 2))) (FP.i2f (nI (cs_unm S nc))))))) {o : Nat} {f : Nat → UInt64} (ho : h o = some (.inl (3, 1, .inr (.inr (.inr (.inl f)))))) (hoA : ∀ i, i < 30 → A i ≠ o) : hl_Ctr G l 9 yL_lightShare cL_lightShare 3 (some .int) [(0, 8, 11, 112)] 2 12 [.ref (A 0), .ref o] (hs_ov A S h) (hk_qi fun rv9 h9 => hl_QD A S h o (cd_U S nc) (ml_tr [5] (cd_U S nc)) (S) (FP.f2d ((FP.fdiv (FP.i2f (nI (cs_lsh S nc 2))) (FP.i2f (nI (cs_unm S nc)))))) rv9 h9) hk_no := by
  have hin : hl_in [5] (cd_U S nc) := by
    repeat (first | exact in_H (by decide) | exact in_M (by decide) | exact in_R (by decide) | exact in_O (by decide) | exact in_S (by decide) _ | exact in_0 | exact in_m (by decide) | apply in_sq | (first | unfold cd_a | unfold cd_n | unfold cd_ore | unfold cd_le | unfold cd_clw | unfold cd_W | unfold cd_L | unfold cd_C | unfold cd_K | unfold cd_D | unfold cd_B | unfold cd_dn | unfold cd_sh | unfold cd_U) | apply in_if)
  refine hl_enter (by decide) hfl (Nat.le_of_ble_eq_true rfl) rfl ?_
  refine hk_aload_n dL_lightShare_0 rfl rfl rfl ?_
  refine hk_iconst (v := nI 0) dL_lightShare_1 rfl (by decide) ?_
  refine hk_aload_n dL_lightShare_2 rfl rfl rfl ?_
  refine hl_cl hA rfl dL_lightShare_3 rfl mv_L_108 (ct_X6_lightShare (h := h) hfl hA hI hn) rfl rfl (by decide) ⟨Nat.le_refl _, Nat.le_refl _⟩ (Nat.le_of_ble_eq_true rfl) (fun hz => ?_) (fun E hx => ?_)
  · skip
    refine hk_f2d dL_lightShare_6 rfl (hn64 (fun e => by unfold cd_U at hz; rw [if_pos e] at hz; cases hz)) ?_
    refine hk_dast dL_lightShare_7 rfl (by rw [hs_ov_ne hoA]; exact ho) (vp_in_nI (by decide) (by decide)) ?_
    rw [hl_ovs hA hoA]
    refine hk_goto (tgt := 14) dL_lightShare_8 (by decide) ?_
    refine hk_iconst (v := nI 0) dL_lightShare_14 rfl (by decide) ?_
    exact hk_ireturn rfl (by rfl) dL_lightShare_15 ⟨_, rfl, Or.inl ⟨hz, rfl, _, if_pos (by decide), rfl⟩⟩
  · skip
    obtain ⟨hne, rfl⟩ := hx
    rcases hin with e | e
    · exact absurd e hne
    simp only [List.mem_cons, List.not_mem_nil, or_false] at e
    rw [e]
    refine hl_catch (E := "java/lang/ArithmeticException") (nm := "java/lang/ArithmeticException") rfl [] (0, 8, 11, 112) [] rfl (fun z hz => absurd hz List.not_mem_nil) (by decide) (by decide) kx_112 kc_112 (fun q => ?_)
    refine hk_astore_n dL_lightShare_11 rfl rfl (by decide) rfl ?_
    refine hk_iconst (v := nI 1) dL_lightShare_12 rfl (by decide) ?_
    exact hk_ireturn rfl (by rfl) dL_lightShare_13 ⟨_, rfl, Or.inr ⟨by decide, rfl, rfl⟩⟩
theorem cl_meanWeight {c nc nb : Nat} (hfl : l.stackTraces = false) (hA : hs_inj A) (hI : cx_I S c nc nb) (hn : ¬ cs_unm S nc = 0 → vf_n64 (FP.ddiv (FP.i2d (cs_woa S 0 nc + cs_woa S 1 nc)) (FP.i2d (nI (cs_unm S nc))))) {o : Nat} {f : Nat → UInt64} (ho : h o = some (.inl (3, 1, .inr (.inr (.inr (.inl f)))))) (hoA : ∀ i, i < 30 → A i ≠ o) : hl_Ctr G l 9 yL_meanWeight cL_meanWeight 3 (some .int) [(0, 7, 10, 112)] 2 12 [.ref (A 0), .ref o] (hs_ov A S h) (hk_qi fun rv9 h9 => hl_QD A S h o (cd_U S nc) (ml_tr [5] (cd_U S nc)) (S) (((FP.ddiv (FP.i2d (cs_woa S 0 nc + cs_woa S 1 nc)) (FP.i2d (nI (cs_unm S nc)))))) rv9 h9) hk_no := by
  have hin : hl_in [5] (cd_U S nc) := by
    repeat (first | exact in_H (by decide) | exact in_M (by decide) | exact in_R (by decide) | exact in_O (by decide) | exact in_S (by decide) _ | exact in_0 | exact in_m (by decide) | apply in_sq | (first | unfold cd_a | unfold cd_n | unfold cd_ore | unfold cd_le | unfold cd_clw | unfold cd_W | unfold cd_L | unfold cd_C | unfold cd_K | unfold cd_D | unfold cd_B | unfold cd_dn | unfold cd_sh | unfold cd_U) | apply in_if)
  refine hl_enter (by decide) hfl (Nat.le_of_ble_eq_true rfl) rfl ?_
  refine hk_aload_n dL_meanWeight_0 rfl rfl rfl ?_
  refine hk_iconst (v := nI 0) dL_meanWeight_1 rfl (by decide) ?_
  refine hk_aload_n dL_meanWeight_2 rfl rfl rfl ?_
  refine hl_cl hA rfl dL_meanWeight_3 rfl mv_L_114 (ct_X6_meanWeight (h := h) hfl hA hI hn) rfl rfl (by decide) ⟨Nat.le_refl _, Nat.le_refl _⟩ (Nat.le_of_ble_eq_true rfl) (fun hz => ?_) (fun E hx => ?_)
  · skip
    refine hk_dast dL_meanWeight_6 rfl (by rw [hs_ov_ne hoA]; exact ho) (vp_in_nI (by decide) (by decide)) ?_
    rw [hl_ovs hA hoA]
    refine hk_goto (tgt := 13) dL_meanWeight_7 (by decide) ?_
    refine hk_iconst (v := nI 0) dL_meanWeight_13 rfl (by decide) ?_
    exact hk_ireturn rfl (by rfl) dL_meanWeight_14 ⟨_, rfl, Or.inl ⟨hz, rfl, _, if_pos (by decide), rfl⟩⟩
  · skip
    obtain ⟨hne, rfl⟩ := hx
    rcases hin with e | e
    · exact absurd e hne
    simp only [List.mem_cons, List.not_mem_nil, or_false] at e
    rw [e]
    refine hl_catch (E := "java/lang/ArithmeticException") (nm := "java/lang/ArithmeticException") rfl [] (0, 7, 10, 112) [] rfl (fun z hz => absurd hz List.not_mem_nil) (by decide) (by decide) kx_112 kc_112 (fun q => ?_)
    refine hk_astore_n dL_meanWeight_10 rfl rfl (by decide) rfl ?_
    refine hk_iconst (v := nI 1) dL_meanWeight_11 rfl (by decide) ?_
    exact hk_ireturn rfl (by rfl) dL_meanWeight_12 ⟨_, rfl, Or.inr ⟨by decide, rfl, rfl⟩⟩
end CLW

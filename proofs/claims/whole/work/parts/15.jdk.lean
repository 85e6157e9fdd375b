theorem dJ0_length_8abf5_0 : decode cJ0_length_8abf5 0 = .ok (.aload_n 0, 1) := by decide +kernel
theorem dJ0_length_8abf5_1 : decode cJ0_length_8abf5 1 = .ok (.getfield 9, 3) := by decide +kernel
theorem dJ0_length_8abf5_4 : decode cJ0_length_8abf5 4 = .ok (.arraylength, 1) := by decide +kernel
theorem dJ0_length_8abf5_5 : decode cJ0_length_8abf5 5 = .ok (.aload_n 0, 1) := by decide +kernel
theorem dJ0_length_8abf5_6 : decode cJ0_length_8abf5 6 = .ok (.invokevirtual 335, 3) := by decide +kernel
theorem dJ0_length_8abf5_9 : decode cJ0_length_8abf5 9 = .ok (.ishr, 1) := by decide +kernel
theorem dJ0_length_8abf5_10 : decode cJ0_length_8abf5 10 = .ok (.ireturn, 1) := by decide +kernel
theorem hk_ne_oa {h : hk_H} {a e : Nat} {x : Nat × List Value} {y : Nat × vp_A} (ha : h a = some (.inr x)) (he : h e = some (.inl y)) : e ≠ a := fun z => by
  rw [z, ha] at he
  cases he
theorem hk_set_set {h : hk_H} {a : Nat} {x y : hk_E} : hk_set (hk_set h a x) a y = hk_set h a y := by
  funext q
  by_cases e : q = a
  · subst e; rw [hk_set_eq, hk_set_eq]
  · rw [hk_set_ne e, hk_set_ne e, hk_set_ne e]
theorem hk_set_id {h : hk_H} {a : Nat} {x : hk_E} (ha : h a = some x) : hk_set h a x = h := by
  funext q
  by_cases e : q = a
  · subst e; rw [hk_set_eq, ha]
  · rw [hk_set_ne e]
theorem hk_set_comm {h : hk_H} {a c : Nat} {x y : hk_E} (hne : a ≠ c) : hk_set (hk_set h a x) c y = hk_set (hk_set h c y) a x := by
  funext q
  by_cases e : q = a
  · subst e; rw [hk_set_ne hne, hk_set_eq, hk_set_eq]
  · by_cases e2 : q = c
    · subst e2; rw [hk_set_eq, hk_set_ne e, hk_set_eq]
    · rw [hk_set_ne e2, hk_set_ne e, hk_set_ne e, hk_set_ne e2]
section HX
variable {G : hk_G} {l : Launch} {d : Nat} {y : MethodName} {b : ByteArray} {nL : Nat} {ret : Option FieldType} {hh : List (Nat × Nat × Nat × Nat)} {Q : Option Value → hk_H → Prop} {X : String → hk_H → Prop} {k n : Nat} {h : hk_H} {pc pc' : Nat} {lv : List (Option Value)} {st : List Value}
theorem hx_iald {a cnt j : Nat} {f : Nat → Int32} (hd : decode b pc = .ok (.iaload, 1)) (hp : pc + 1 = pc') (ha : h a = some (.inl (0, cnt, .inl f))) (hj : j < cnt) (hc : cnt < 2 ^ 31) (kk : hk_W G l d y b nL ret hh Q X k n h pc' lv (.int (f j) :: st)) : hk_W G l d y b nL ret hh Q X k n h pc lv (.int (nI j) :: .ref a :: st) := by
  refine hk_iald hd hp ha (vp_in_nI hj hc) ?_
  rw [nI_clamp (by omega)]
  exact kk
theorem hx_zald {a cnt j : Nat} {f : Nat → Int32} (hd : decode b pc = .ok (.baload, 1)) (hp : pc + 1 = pc') (ha : h a = some (.inl (1, cnt, .inl f))) (hj : j < cnt) (hc : cnt < 2 ^ 31) (kk : hk_W G l d y b nL ret hh Q X k n h pc' lv (.int (f j) :: st)) : hk_W G l d y b nL ret hh Q X k n h pc lv (.int (nI j) :: .ref a :: st) := by
  refine hk_zald hd hp ha (vp_in_nI hj hc) ?_
  rw [nI_clamp (by omega)]
  exact kk
theorem hx_iast {a cnt j : Nat} {f : Nat → Int32} {x : Int32} (hd : decode b pc = .ok (.iastore, 1)) (hp : pc + 1 = pc') (ha : h a = some (.inl (0, cnt, .inl f))) (hj : j < cnt) (hc : cnt < 2 ^ 31) (kk : hk_W G l d y b nL ret hh Q X k n (hk_set h a (.inl (0, cnt, .inl (upd f j x)))) pc' lv st) : hk_W G l d y b nL ret hh Q X k n h pc lv (.int x :: .int (nI j) :: .ref a :: st) := by
  refine hk_iast hd hp ha (vp_in_nI hj hc) ?_
  rw [nI_clamp (by omega)]
  exact kk
theorem hx_zast {a cnt j : Nat} {f : Nat → Int32} {x : Int32} (hd : decode b pc = .ok (.bastore, 1)) (hp : pc + 1 = pc') (ha : h a = some (.inl (1, cnt, .inl f))) (hj : j < cnt) (hc : cnt < 2 ^ 31) (hx : narrow .boolean (.int x) = .int x) (kk : hk_W G l d y b nL ret hh Q X k n (hk_set h a (.inl (1, cnt, .inl (upd f j x)))) pc' lv st) : hk_W G l d y b nL ret hh Q X k n h pc lv (.int x :: .int (nI j) :: .ref a :: st) := by
  refine hk_zast hd hp ha (vp_in_nI hj hc) hx ?_
  rw [nI_clamp (by omega)]
  exact kk
theorem hx_aald {a cnt j v : Nat} {f : Nat → Option Nat} (hd : decode b pc = .ok (.aaload, 1)) (hp : pc + 1 = pc') (ha : h a = some (.inl (5, cnt, .inr (.inr (.inr (.inr (f))))))) (hj : j < cnt) (hc : cnt < 2 ^ 31) (hv : f j = some v) (kk : hk_W G l d y b nL ret hh Q X k n h pc' lv (.ref v :: st)) : hk_W G l d y b nL ret hh Q X k n h pc lv (.int (nI j) :: .ref a :: st) := by
  refine hk_aald hd hp ha (vp_in_nI hj hc) ?_
  rw [nI_clamp (by omega), hv]
  exact kk
theorem hx_aaldI {a cnt j v : Nat} {f : Nat → Option Nat} (hd : decode b pc = .ok (.aaload, 1)) (hp : pc + 1 = pc') (ha : h a = some (.inl (6, cnt, .inr (.inr (.inr (.inr (f))))))) (hj : j < cnt) (hc : cnt < 2 ^ 31) (hv : f j = some v) (kk : hk_W G l d y b nL ret hh Q X k n h pc' lv (.ref v :: st)) : hk_W G l d y b nL ret hh Q X k n h pc lv (.int (nI j) :: .ref a :: st) := by
  refine hk_aaldI hd hp ha (vp_in_nI hj hc) ?_
  rw [nI_clamp (by omega), hv]
  exact kk
theorem hx_aast {a cnt j v : Nat} {f : Nat → Option Nat} (hd : decode b pc = .ok (.aastore, 1)) (hp : pc + 1 = pc') (ha : h a = some (.inl (5, cnt, .inr (.inr (.inr (.inr (f))))))) (hj : j < cnt) (hc : cnt < 2 ^ 31) (hv : hk_ob G h v) (kk : hk_W G l d y b nL ret hh Q X k n (hk_set h a (.inl (5, cnt, .inr (.inr (.inr (.inr (va_up f j (some v)))))))) pc' lv st) : hk_W G l d y b nL ret hh Q X k n h pc lv (.ref v :: .int (nI j) :: .ref a :: st) := by
  refine hk_aast hd hp ha (vp_in_nI hj hc) hv ?_
  rw [nI_clamp (by omega)]
  exact kk
theorem hx_cg {h' : hk_H} (e1 : h = h') (kk : hk_W G l d y b nL ret hh Q X k n h' pc lv st) : hk_W G l d y b nL ret hh Q X k n h pc lv st := by subst e1; exact kk
theorem cx_mmax {idx : Nat} {x z : Int32} (hd : decode b pc = .ok (.invokestatic idx, 3)) (hp : pc + 3 = pc') (L : hk_mS y.cls idx yJ9_max_7cf53 cJ9_max_7cf53 2 (some .int) 2) (hd1 : 1 ≤ d) (hrm : (st.map fun v => v.category).sum ≤ 8) (kk : hk_W G l d y b nL ret hh Q X k n h pc' lv (.int (if x < z then z else x) :: st)) : hk_W G l d y b nL ret hh Q X k n h pc lv (.int z :: .int x :: st) := by
  subst hp
  intro p e s m args below meth c H locs cells slots mc ms ls C hk hn hO hL hl
  refine va_mmax C.exec C.bytes (C.maxL.trans (hl.1.trans hL).symm) C.own (C.words _ L.1) (C.words _ L.2.1) (C.words _ L.2.2.1) (C.words _ L.2.2.2.1) (by show 1 ≤ d; exact hd1) (by show _ ≤ 64 * d; omega) (by show cells ≤ mc; omega) (by show slots ≤ ms; omega) hd ?_
  exact kk p e s m args below meth c H locs cells slots mc ms ls C hk hn hO hL hl
end HX
theorem hk_oa_k {G : hk_G} {h : hk_H} {a v : Nat} {x : hk_E} (hv : hk_ob G h v) (hx : ∀ y : hk_E, h a = some y → ∀ z, y = .inr z → ∃ fs, x = .inr (z.1, fs)) : hk_ob G (hk_set h a x) v := by
  rcases hv with q | q | ⟨ci, fs, h1, h2⟩
  · exact Or.inl q
  · exact Or.inr (Or.inl q)
  · by_cases e : v = a
    · subst e
      obtain ⟨fs', e2⟩ := hx _ h1 _ rfl
      exact Or.inr (Or.inr ⟨ci, fs', by rw [hk_set_eq, e2], h2⟩)
    · exact Or.inr (Or.inr ⟨ci, fs, by rw [hk_set_ne e]; exact h1, h2⟩)
theorem hk_oa_o {G : hk_G} {h : hk_H} {a v ci : Nat} {fs fs' : List Value} (hv : hk_ob G h v) (ha : h a = some (.inr (ci, fs))) : hk_ob G (hk_set h a (.inr (ci, fs'))) v := hk_oa_k hv (fun y hy z hz => by
  rw [ha] at hy
  cases hy
  cases hz
  exact ⟨fs', rfl⟩)
theorem hk_oa_r {G : hk_G} {h : hk_H} {a v : Nat} {x x' : Nat × vp_A} (hv : hk_ob G h v) (ha : h a = some (.inl x)) : hk_ob G (hk_set h a (.inl x')) v := hk_oa_k hv (fun y hy z hz => by
  rw [ha] at hy
  cases hy
  cases hz)
theorem hk_oa_n {G : hk_G} {h : hk_H} {a v : Nat} {x : hk_E} (hv : hk_ob G h v) (ha : h a = none) : hk_ob G (hk_set h a x) v := hk_oa_k hv (fun y hy z hz => by
  rw [ha] at hy
  cases hy)
theorem fw_Jxc12de_7 : hk_fw yJxc12de_init_da8c8 7 6 0 .int := ⟨_, _, _, _, hkc_Jx4a65c, by decide, by decide +kernel, Or.inl ⟨rfl, (hk_w (i := 1001) (by decide +kernel) (by decide +kernel))⟩⟩
theorem ob_Jxa1e45_1 : Cond.methodLink RJxa1e45 1 objectInit ∈ hk_all ∧ Cond.instanceMethod objectInit ∈ hk_all ∧ Cond.code objectInit ⟨#[0xb1]⟩ 1 none ∈ hk_all := ⟨(hk_w (i := 994) (by decide +kernel) (by decide +kernel)), (hk_w (i := 91) (by decide +kernel) (by decide +kernel)), (hk_w (i := 92) (by decide +kernel) (by decide +kernel))⟩
theorem ay_J7_150 : Cond.methodLink RJ7 150 arraycopyName ∈ hk_all ∧ Cond.native arraycopyName ∈ hk_all ∧ Cond.static arraycopyName ∈ hk_all ∧ Cond.initialized "java/lang/System" ∈ hk_all := ⟨(hk_w (i := 1097) (by decide +kernel) (by decide +kernel)), (hk_w (i := 1099) (by decide +kernel) (by decide +kernel)), (hk_w (i := 1098) (by decide +kernel) (by decide +kernel)), (hk_w (i := 62) (by decide +kernel) (by decide +kernel))⟩
theorem ay_Jx4a65c_112 : Cond.methodLink RJx4a65c 112 arraycopyName ∈ hk_all ∧ Cond.native arraycopyName ∈ hk_all ∧ Cond.static arraycopyName ∈ hk_all ∧ Cond.initialized "java/lang/System" ∈ hk_all := ⟨(hk_w (i := 1746) (by decide +kernel) (by decide +kernel)), (hk_w (i := 1099) (by decide +kernel) (by decide +kernel)), (hk_w (i := 1098) (by decide +kernel) (by decide +kernel)), (hk_w (i := 62) (by decide +kernel) (by decide +kernel))⟩
theorem gc_J7_86 : hk_gc RJ7 86 := ⟨(hk_w (i := 1064) (by decide +kernel) (by decide +kernel)), (List.mem_of_getElem? (i := 1864) (by decide +kernel)), (hk_w (i := 1863) (by decide +kernel) (by decide +kernel)), (hk_w (i := 1065) (by decide +kernel) (by decide +kernel)), (hk_w (i := 1089) (by decide +kernel) (by decide +kernel))⟩
theorem kl_J7_110 : Cond.classLink RJ7 110 "[Ljava/lang/Object;" ∈ hk_all := (hk_w (i := 1093) (by decide +kernel) (by decide +kernel))
theorem kl_J7_2 : Cond.classLink RJ7 2 "java/lang/Object" ∈ hk_all := (hk_w (i := 1095) (by decide +kernel) (by decide +kernel))
theorem kl_Jx4a65c_7 : Cond.classLink RJx4a65c 7 "java/lang/Object" ∈ hk_all := (hk_w (i := 1101) (by decide +kernel) (by decide +kernel))
theorem kl_X9_45 : Cond.classLink RX9 45 "java/lang/Character" ∈ hk_all := (hk_w (i := 1183) (by decide +kernel) (by decide +kernel))
theorem kl_X9_94 : Cond.classLink RX9 94 "HarbourmintModel$Coin" ∈ hk_all := (hk_w (i := 1294) (by decide +kernel) (by decide +kernel))
theorem kl_X9_182 : Cond.classLink RX9 182 "HarbourmintModel$Bill" ∈ hk_all := (hk_w (i := 1469) (by decide +kernel) (by decide +kernel))
theorem kl_X9_201 : Cond.classLink RX9 201 "java/lang/Integer" ∈ hk_all := (hk_w (i := 1774) (by decide +kernel) (by decide +kernel))
theorem sl_Jx4a65c_39 : Cond.fieldLink RJx4a65c 39 "java/util/ArrayList" "DEFAULTCAPACITY_EMPTY_ELEMENTDATA" "[Ljava/lang/Object;" ∈ hk_all := (hk_w (i := 995) (by decide +kernel) (by decide +kernel))
theorem sl_J11_47 : Cond.fieldLink RJ11 47 "java/lang/Character$CharacterCache" "cache" "[Ljava/lang/Character;" ∈ hk_all := (hk_w (i := 1017) (by decide +kernel) (by decide +kernel))
theorem sl_J11_19 : Cond.fieldLink RJ11 19 "java/lang/Character" "value" "C" ∈ hk_all := (hk_w (i := 1025) (by decide +kernel) (by decide +kernel))
theorem sl_J6_191 : Cond.fieldLink RJ6 191 "java/lang/Integer$IntegerCache" "high" "I" ∈ hk_all := (hk_w (i := 1516) (by decide +kernel) (by decide +kernel))
theorem sl_J6_195 : Cond.fieldLink RJ6 195 "java/lang/Integer$IntegerCache" "cache" "[Ljava/lang/Integer;" ∈ hk_all := (hk_w (i := 1518) (by decide +kernel) (by decide +kernel))
theorem sl_J6_205 : Cond.fieldLink RJ6 205 "java/lang/Integer" "value" "I" ∈ hk_all := (hk_w (i := 1529) (by decide +kernel) (by decide +kernel))
theorem sl_J0_38 : Cond.fieldLink RJ0 38 "java/lang/String" "COMPACT_STRINGS" "Z" ∈ hk_all := (hk_w (i := 1208) (by decide +kernel) (by decide +kernel))
theorem sl_J0_9 : Cond.fieldLink RJ0 9 "java/lang/String" "value" "[B" ∈ hk_all := (hk_w (i := 1738) (by decide +kernel) (by decide +kernel))
theorem sl_J0_15 : Cond.fieldLink RJ0 15 "java/lang/String" "coder" "B" ∈ hk_all := (hk_w (i := 1739) (by decide +kernel) (by decide +kernel))
theorem kc_J8_200 : Cond.constant RJ8 200 2147483639 ∈ hk_all := (hk_w (i := 1057) (by decide +kernel) (by decide +kernel))
theorem mf_X9_50 : hk_mF RX9 50 0 RJx4a65c ⟨"java/util/List", "add", "(Ljava/lang/Object;)Z"⟩ yJx4a65c_add_9ea2d cJx4a65c_add_9ea2d 2 (some .boolean) 1 := ⟨rfl, (hk_w (i := 1030) (by decide +kernel) (by decide +kernel)), (hk_w (i := 1034) (by decide +kernel) (by decide +kernel)), (hk_w (i := 1036) (by decide +kernel) (by decide +kernel)), (hk_w (i := 56) (by decide +kernel) (by decide +kernel)), (hk_w (i := 1038) (by decide +kernel) (by decide +kernel)), by decide +kernel⟩
theorem mf_X9_56 : hk_mF RX9 56 1 RJx4a65c ⟨"java/util/List", "size", "()I"⟩ yJx4a65c_size_8abf5 cJx4a65c_size_8abf5 1 (some .int) 0 := ⟨rfl, (hk_w (i := 1141) (by decide +kernel) (by decide +kernel)), (hk_w (i := 1144) (by decide +kernel) (by decide +kernel)), (hk_w (i := 1146) (by decide +kernel) (by decide +kernel)), (hk_w (i := 56) (by decide +kernel) (by decide +kernel)), (hk_w (i := 1148) (by decide +kernel) (by decide +kernel)), by decide +kernel⟩
theorem mf_X9_64 : hk_mF RX9 64 2 RJx4a65c ⟨"java/util/List", "get", "(I)Ljava/lang/Object;"⟩ yJx4a65c_get_915e3 cJx4a65c_get_915e3 2 (some (.object "java/lang/Object")) 1 := ⟨rfl, (hk_w (i := 1165) (by decide +kernel) (by decide +kernel)), (hk_w (i := 1168) (by decide +kernel) (by decide +kernel)), (hk_w (i := 1170) (by decide +kernel) (by decide +kernel)), (hk_w (i := 56) (by decide +kernel) (by decide +kernel)), (hk_w (i := 1172) (by decide +kernel) (by decide +kernel)), by decide +kernel⟩
theorem mf_X9_122 : hk_mF RX9 122 3 RJx4a65c ⟨"java/util/List", "iterator", "()Ljava/util/Iterator;"⟩ yJx4a65c_iterator_32c93 cJx4a65c_iterator_32c93 1 (some (.object "java/util/Iterator")) 0 := ⟨rfl, (hk_w (i := 1345) (by decide +kernel) (by decide +kernel)), (hk_w (i := 1348) (by decide +kernel) (by decide +kernel)), (hk_w (i := 1350) (by decide +kernel) (by decide +kernel)), (hk_w (i := 56) (by decide +kernel) (by decide +kernel)), (hk_w (i := 1352) (by decide +kernel) (by decide +kernel)), by decide +kernel⟩
theorem mf_X9_126 : hk_mF RX9 126 4 RJx35411 ⟨"java/util/Iterator", "hasNext", "()Z"⟩ yJx35411_hasNext_aae02 cJx35411_hasNext_aae02 1 (some .boolean) 0 := ⟨rfl, (hk_w (i := 1373) (by decide +kernel) (by decide +kernel)), (hk_w (i := 1377) (by decide +kernel) (by decide +kernel)), (hk_w (i := 1379) (by decide +kernel) (by decide +kernel)), (hk_w (i := 77) (by decide +kernel) (by decide +kernel)), (hk_w (i := 1381) (by decide +kernel) (by decide +kernel)), by decide +kernel⟩
theorem mf_X9_132 : hk_mF RX9 132 5 RJx35411 ⟨"java/util/Iterator", "next", "()Ljava/lang/Object;"⟩ yJx35411_next_0502b cJx35411_next_0502b 3 (some (.object "java/lang/Object")) 0 := ⟨rfl, (hk_w (i := 1383) (by decide +kernel) (by decide +kernel)), (hk_w (i := 1386) (by decide +kernel) (by decide +kernel)), (hk_w (i := 1388) (by decide +kernel) (by decide +kernel)), (hk_w (i := 77) (by decide +kernel) (by decide +kernel)), (hk_w (i := 1390) (by decide +kernel) (by decide +kernel)), by decide +kernel⟩
theorem mf_X9_164 : hk_mF RX9 164 6 RJx4a65c ⟨"java/util/List", "set", "(ILjava/lang/Object;)Ljava/lang/Object;"⟩ yJx4a65c_set_bcc79 cJx4a65c_set_bcc79 4 (some (.object "java/lang/Object")) 2 := ⟨rfl, (hk_w (i := 1432) (by decide +kernel) (by decide +kernel)), (hk_w (i := 1435) (by decide +kernel) (by decide +kernel)), (hk_w (i := 1437) (by decide +kernel) (by decide +kernel)), (hk_w (i := 56) (by decide +kernel) (by decide +kernel)), (hk_w (i := 1439) (by decide +kernel) (by decide +kernel)), by decide +kernel⟩
theorem mf_X9_205 : hk_mF RX9 205 7 RJx4a65c ⟨"java/util/List", "add", "(ILjava/lang/Object;)V"⟩ yJx4a65c_add_7a177 cJx4a65c_add_7a177 5 none 2 := ⟨rfl, (hk_w (i := 1534) (by decide +kernel) (by decide +kernel)), (hk_w (i := 1537) (by decide +kernel) (by decide +kernel)), (hk_w (i := 1539) (by decide +kernel) (by decide +kernel)), (hk_w (i := 56) (by decide +kernel) (by decide +kernel)), (hk_w (i := 1541) (by decide +kernel) (by decide +kernel)), by decide +kernel⟩
theorem mf_X9_217 : hk_mF RX9 217 8 RJx4a65c ⟨"java/util/List", "addAll", "(Ljava/util/Collection;)Z"⟩ yJx4a65c_addAll_f0b43 cJx4a65c_addAll_f0b43 6 (some .boolean) 1 := ⟨rfl, (hk_w (i := 1756) (by decide +kernel) (by decide +kernel)), (hk_w (i := 1759) (by decide +kernel) (by decide +kernel)), (hk_w (i := 1761) (by decide +kernel) (by decide +kernel)), (hk_w (i := 56) (by decide +kernel) (by decide +kernel)), (hk_w (i := 1763) (by decide +kernel) (by decide +kernel)), by decide +kernel⟩
theorem mf_Jx4a65c_42 : hk_mF RJx4a65c 42 9 RJx4a65c ⟨"java/util/Collection", "toArray", "()[Ljava/lang/Object;"⟩ yJx4a65c_toArray_d5877 cJx4a65c_toArray_d5877 1 (some (.array (.object "java/lang/Object"))) 0 := ⟨rfl, (hk_w (i := 1765) (by decide +kernel) (by decide +kernel)), (hk_w (i := 1769) (by decide +kernel) (by decide +kernel)), (hk_w (i := 1771) (by decide +kernel) (by decide +kernel)), (hk_w (i := 56) (by decide +kernel) (by decide +kernel)), (hk_w (i := 1773) (by decide +kernel) (by decide +kernel)), by decide +kernel⟩
section CJ
variable {G : hk_G} {l : Launch} {h : hk_H}
theorem cj_ci3 {i n : Nat} (hfl : l.stackTraces = false) (hi : i < n) (hn : n < 2 ^ 31) : hk_Ctr G l 1 yJ3_checkIndex_8e157 cJ3_checkIndex_8e157 3 (some .int) 0 0 [.int (nI i), .int (nI n), .null] h (hk_qi fun v h1 => v = nI i ∧ h1 = h) hk_no := by
  refine hk_enter (by decide) hfl (Nat.le_of_ble_eq_true rfl) rfl ?_
  refine hk_iload_n dJ3_checkIndex_8e157_0 rfl rfl rfl ?_
  refine hk_if_lt (tgt := 9) dJ3_checkIndex_8e157_1 (by decide) rfl (fun z1 => ?_) (fun z1 => ?_)
  · exact absurd z1 (nI_pos (by omega))
  · skip
    refine hk_iload_n dJ3_checkIndex_8e157_4 rfl rfl rfl ?_
    refine hk_iload_n dJ3_checkIndex_8e157_5 rfl rfl rfl ?_
    refine cx_icmp_lt (tgt := 16) (by omega) (by omega) dJ3_checkIndex_8e157_6 (by decide) rfl (fun z6 => ?_) (fun z6 => ?_)
    · skip
      refine hk_iload_n dJ3_checkIndex_8e157_16 rfl rfl rfl ?_
      exact hk_ireturn rfl (rfl) dJ3_checkIndex_8e157_17 (⟨_, rfl, rfl, rfl⟩)
    · exact absurd hi z6
theorem cj_ci {i n : Nat} (hfl : l.stackTraces = false) (hi : i < n) (hn : n < 2 ^ 31) : hk_Ctr G l 2 yJ15_checkIndex_7cf53 cJ15_checkIndex_7cf53 2 (some .int) 0 0 [.int (nI i), .int (nI n)] h (hk_qi fun v h1 => v = nI i ∧ h1 = h) hk_no := by
  refine hk_enter (by decide) hfl (Nat.le_of_ble_eq_true rfl) rfl ?_
  refine hk_iload_n dJ15_checkIndex_7cf53_0 rfl rfl rfl ?_
  refine hk_iload_n dJ15_checkIndex_7cf53_1 rfl rfl rfl ?_
  refine hk_null dJ15_checkIndex_7cf53_2 rfl ?_
  refine hk_callS dJ15_checkIndex_7cf53_3 rfl ms_J15_105 (cj_ci3 hfl hi hn) rfl rfl (by decide) ⟨Nat.zero_le _, Nat.zero_le _⟩ (Nat.le_of_ble_eq_true rfl) (hk_ki fun v h1 q => ?_) hk_nx
  obtain ⟨rfl, rfl⟩ := q
  exact hk_ireturn rfl (rfl) dJ15_checkIndex_7cf53_6 (⟨_, rfl, rfl, rfl⟩)
theorem cj_size {a : Nat} {x y : Value} {z : Int32} (hfl : l.stackTraces = false) (ha : h a = some (.inr (6, [x, y, .int z]))) : hk_Ctr G l 1 yJx4a65c_size_8abf5 cJx4a65c_size_8abf5 1 (some .int) 0 0 [.ref a] h (hk_qi fun v h1 => v = z ∧ h1 = h) hk_no := by
  refine hk_enter (by decide) hfl (Nat.le_of_ble_eq_true rfl) rfl ?_
  refine hk_aload_n dJx4a65c_size_8abf5_0 rfl rfl rfl ?_
  refine hk_getf dJx4a65c_size_8abf5_1 rfl fl_Jx4a65c_48 (ha) rfl ?_
  exact hk_ireturn rfl (rfl) dJx4a65c_size_8abf5_4 (⟨_, rfl, rfl, rfl⟩)
theorem cj_eld {a ed cap i w0 n : Nat} {mc : Int32} {f : Nat → Option Nat} (hfl : l.stackTraces = false) (ha : h a = some (.inr (6, [.int mc, .ref ed, .int (nI n)]))) (he : h ed = some (.inl (5, cap, .inr (.inr (.inr (.inr (f))))))) (hi : i < cap) (hcap : cap < 2 ^ 31) (hw : f i = some w0) : hk_Ctr G l 1 yJx4a65c_elementData_915e3 cJx4a65c_elementData_915e3 2 (some (.object "java/lang/Object")) 0 0 [.ref a, .int (nI i)] h (hk_qr fun v h1 => v = w0 ∧ h1 = h) hk_no := by
  refine hk_enter (by decide) hfl (Nat.le_of_ble_eq_true rfl) rfl ?_
  refine hk_aload_n dJx4a65c_elementData_915e3_0 rfl rfl rfl ?_
  refine hk_getf dJx4a65c_elementData_915e3_1 rfl fl_Jx4a65c_9 (ha) rfl ?_
  refine hk_iload_n dJx4a65c_elementData_915e3_4 rfl rfl rfl ?_
  refine hx_aald dJx4a65c_elementData_915e3_5 rfl he hi hcap hw ?_
  exact hk_areturn rfl (Or.inl ⟨_, rfl⟩) (Or.inr ⟨_, rfl⟩) dJx4a65c_elementData_915e3_6 (⟨_, rfl, rfl, rfl⟩)
theorem cj_get {a ed cap i w0 n : Nat} {mc : Int32} {f : Nat → Option Nat} (hfl : l.stackTraces = false) (ha : h a = some (.inr (6, [.int mc, .ref ed, .int (nI n)]))) (he : h ed = some (.inl (5, cap, .inr (.inr (.inr (.inr (f))))))) (hi : i < n) (hnc : n ≤ cap) (hcap : cap < 2 ^ 31) (hw : f i = some w0) : hk_Ctr G l 3 yJx4a65c_get_915e3 cJx4a65c_get_915e3 2 (some (.object "java/lang/Object")) 0 0 [.ref a, .int (nI i)] h (hk_qr fun v h1 => v = w0 ∧ h1 = h) hk_no := by
  refine hk_enter (by decide) hfl (Nat.le_of_ble_eq_true rfl) rfl ?_
  refine hk_iload_n dJx4a65c_get_915e3_0 rfl rfl rfl ?_
  refine hk_aload_n dJx4a65c_get_915e3_1 rfl rfl rfl ?_
  refine hk_getf dJx4a65c_get_915e3_2 rfl fl_Jx4a65c_48 (ha) rfl ?_
  refine hk_callS dJx4a65c_get_915e3_5 rfl ms_Jx4a65c_118 (cj_ci hfl hi (by omega)) rfl rfl (by decide) ⟨Nat.zero_le _, Nat.zero_le _⟩ (Nat.le_of_ble_eq_true rfl) (hk_ki fun v h1 q => ?_) hk_nx
  obtain ⟨rfl, rfl⟩ := q
  refine hk_pop dJx4a65c_get_915e3_8 rfl rfl ?_
  refine hk_aload_n dJx4a65c_get_915e3_9 rfl rfl rfl ?_
  refine hk_iload_n dJx4a65c_get_915e3_10 rfl rfl rfl ?_
  refine hk_callV dJx4a65c_get_915e3_11 rfl mv_Jx4a65c_123 (cj_eld hfl ha he (by omega) hcap hw) rfl rfl (ha) rfl rfl (by decide) ⟨Nat.zero_le _, Nat.zero_le _⟩ (Nat.le_of_ble_eq_true rfl) (hk_kr fun v h1 q => ?_) hk_nx
  obtain ⟨rfl, rfl⟩ := q
  exact hk_areturn rfl (Or.inl ⟨_, rfl⟩) (Or.inr ⟨_, rfl⟩) dJx4a65c_get_915e3_14 (⟨_, rfl, rfl, rfl⟩)
theorem cj_set {a ed cap i w0 n v0 : Nat} {mc : Int32} {f : Nat → Option Nat} (hfl : l.stackTraces = false) (ha : h a = some (.inr (6, [.int mc, .ref ed, .int (nI n)]))) (he : h ed = some (.inl (5, cap, .inr (.inr (.inr (.inr (f))))))) (hi : i < n) (hnc : n ≤ cap) (hcap : cap < 2 ^ 31) (hw : f i = some w0) (hv : hk_ob G h v0) : hk_Ctr G l 3 yJx4a65c_set_bcc79 cJx4a65c_set_bcc79 4 (some (.object "java/lang/Object")) 0 0 [.ref a, .int (nI i), .ref v0] h (hk_qr fun v h1 => v = w0 ∧ h1 = hk_set h ed (.inl (5, cap, .inr (.inr (.inr (.inr (va_up f i (some v0)))))))) hk_no := by
  refine hk_enter (by decide) hfl (Nat.le_of_ble_eq_true rfl) rfl ?_
  refine hk_iload_n dJx4a65c_set_bcc79_0 rfl rfl rfl ?_
  refine hk_aload_n dJx4a65c_set_bcc79_1 rfl rfl rfl ?_
  refine hk_getf dJx4a65c_set_bcc79_2 rfl fl_Jx4a65c_48 (ha) rfl ?_
  refine hk_callS dJx4a65c_set_bcc79_5 rfl ms_Jx4a65c_118 (cj_ci hfl hi (by omega)) rfl rfl (by decide) ⟨Nat.zero_le _, Nat.zero_le _⟩ (Nat.le_of_ble_eq_true rfl) (hk_ki fun v h1 q => ?_) hk_nx
  obtain ⟨rfl, rfl⟩ := q
  refine hk_pop dJx4a65c_set_bcc79_8 rfl rfl ?_
  refine hk_aload_n dJx4a65c_set_bcc79_9 rfl rfl rfl ?_
  refine hk_iload_n dJx4a65c_set_bcc79_10 rfl rfl rfl ?_
  refine hk_callV dJx4a65c_set_bcc79_11 rfl mv_Jx4a65c_123 (cj_eld hfl ha he (by omega) hcap hw) rfl rfl (ha) rfl rfl (by decide) ⟨Nat.zero_le _, Nat.zero_le _⟩ (Nat.le_of_ble_eq_true rfl) (hk_kr fun v h1 q => ?_) hk_nx
  obtain ⟨rfl, rfl⟩ := q
  refine hk_astore_n dJx4a65c_set_bcc79_14 rfl rfl (by decide) rfl ?_
  refine hk_aload_n dJx4a65c_set_bcc79_15 rfl rfl rfl ?_
  refine hk_getf dJx4a65c_set_bcc79_16 rfl fl_Jx4a65c_9 (ha) rfl ?_
  refine hk_iload_n dJx4a65c_set_bcc79_19 rfl rfl rfl ?_
  refine hk_aload_n dJx4a65c_set_bcc79_20 rfl rfl rfl ?_
  refine hx_aast dJx4a65c_set_bcc79_21 rfl he (by omega) hcap hv ?_
  refine hk_aload_n dJx4a65c_set_bcc79_22 rfl rfl rfl ?_
  exact hk_areturn rfl (Or.inl ⟨_, rfl⟩) (Or.inr ⟨_, rfl⟩) dJx4a65c_set_bcc79_23 (⟨_, rfl, rfl, rfl⟩)
theorem cj_hasNext {it a n j : Nat} {mc lr m2 : Int32} {x : Value} (hfl : l.stackTraces = false) (hit : h it = some (.inr (5, [.int (nI j), .int lr, .int m2, .ref a]))) (ha : h a = some (.inr (6, [.int mc, x, .int (nI n)]))) (hj : j ≤ n) (hn : n < 2 ^ 31) : hk_Ctr G l 1 yJx35411_hasNext_aae02 cJx35411_hasNext_aae02 1 (some .boolean) 0 0 [.ref it] h (hk_qi fun v h1 => v = cx_b (decide (j < n)) ∧ h1 = h) hk_no := by
  refine hk_enter (by decide) hfl (Nat.le_of_ble_eq_true rfl) rfl ?_
  refine hk_aload_n dJx35411_hasNext_aae02_0 rfl rfl rfl ?_
  refine hk_getf dJx35411_hasNext_aae02_1 rfl fl_Jx35411_25 (hit) rfl ?_
  refine hk_aload_n dJx35411_hasNext_aae02_4 rfl rfl rfl ?_
  refine hk_getf dJx35411_hasNext_aae02_5 rfl fl_Jx35411_1 (hit) rfl ?_
  refine hk_getf dJx35411_hasNext_aae02_8 rfl fl_Jx35411_28 (ha) rfl ?_
  refine cx_icmp_eq (tgt := 18) (by omega) (by omega) dJx35411_hasNext_aae02_11 (by decide) rfl (fun z11 => ?_) (fun z11 => ?_)
  · skip
    refine hk_iconst (v := nI 0) dJx35411_hasNext_aae02_18 rfl (by decide) ?_
    exact hk_ireturn rfl (rfl) dJx35411_hasNext_aae02_19 (⟨_, rfl, by first | (rw [decide_eq_true (by omega)]; rfl) | (rw [decide_eq_false (by omega)]; rfl), rfl⟩)
  · skip
    refine hk_iconst (v := nI 1) dJx35411_hasNext_aae02_14 rfl (by decide) ?_
    refine hk_goto (tgt := 19) dJx35411_hasNext_aae02_15 (by decide) ?_
    exact hk_ireturn rfl (rfl) dJx35411_hasNext_aae02_19 (⟨_, rfl, by first | (rw [decide_eq_true (by omega)]; rfl) | (rw [decide_eq_false (by omega)]; rfl), rfl⟩)
theorem cj_cfc {it a : Nat} {mc : Int32} {x y z1 z2 : Value} (hfl : l.stackTraces = false) (hit : h it = some (.inr (5, [x, y, .int mc, .ref a]))) (ha : h a = some (.inr (6, [.int mc, z1, z2]))) : hk_Ctr G l 1 yJx35411_checkForComodification_da8c8 cJx35411_checkForComodification_da8c8 1 none 0 0 [.ref it] h (hk_qv fun h1 => h1 = h) hk_no := by
  refine hk_enter (by decide) hfl (Nat.le_of_ble_eq_true rfl) rfl ?_
  refine hk_aload_n dJx35411_checkForComodification_da8c8_0 rfl rfl rfl ?_
  refine hk_getf dJx35411_checkForComodification_da8c8_1 rfl fl_Jx35411_1 (hit) rfl ?_
  refine hk_getf dJx35411_checkForComodification_da8c8_4 rfl fl_Jx35411_17 (ha) rfl ?_
  refine hk_aload_n dJx35411_checkForComodification_da8c8_7 rfl rfl rfl ?_
  refine hk_getf dJx35411_checkForComodification_da8c8_8 rfl fl_Jx35411_22 (hit) rfl ?_
  refine hk_icmp_eq (tgt := 22) dJx35411_checkForComodification_da8c8_11 (by decide) rfl (fun z11 => ?_) (fun z11 => ?_)
  · skip
    exact hk_vreturn rfl dJx35411_checkForComodification_da8c8_22 (⟨rfl, rfl⟩)
  · exact absurd rfl z11
theorem cj_next {it a ed n j cap w0 : Nat} {mc lr : Int32} {f : Nat → Option Nat} (hfl : l.stackTraces = false) (hit : h it = some (.inr (5, [.int (nI j), .int lr, .int mc, .ref a]))) (ha : h a = some (.inr (6, [.int mc, .ref ed, .int (nI n)]))) (he : h ed = some (.inl (5, cap, .inr (.inr (.inr (.inr (f))))))) (hj : j < n) (hnc : n ≤ cap) (hcap : cap < 2 ^ 31) (hw : f j = some w0) : hk_Ctr G l 2 yJx35411_next_0502b cJx35411_next_0502b 3 (some (.object "java/lang/Object")) 0 0 [.ref it] h (hk_qr fun v h1 => v = w0 ∧ h1 = hk_set h it (.inr (5, [.int (nI (j + 1)), .int (nI j), .int mc, .ref a]))) hk_no := by
  refine hk_enter (by decide) hfl (Nat.le_of_ble_eq_true rfl) rfl ?_
  refine hk_aload_n dJx35411_next_0502b_0 rfl rfl rfl ?_
  refine hk_callV dJx35411_next_0502b_1 rfl mv_Jx35411_31 (cj_cfc hfl hit ha) rfl rfl (hit) rfl rfl (by decide) ⟨Nat.zero_le _, Nat.zero_le _⟩ (Nat.le_of_ble_eq_true rfl) (hk_kv fun h1 q => ?_) hk_nx
  subst q
  refine hk_aload_n dJx35411_next_0502b_4 rfl rfl rfl ?_
  refine hk_getf dJx35411_next_0502b_5 rfl fl_Jx35411_25 (hit) rfl ?_
  refine hk_istore_n dJx35411_next_0502b_8 rfl rfl (by decide) rfl ?_
  refine hk_iload_n dJx35411_next_0502b_9 rfl rfl rfl ?_
  refine hk_aload_n dJx35411_next_0502b_10 rfl rfl rfl ?_
  refine hk_getf dJx35411_next_0502b_11 rfl fl_Jx35411_1 (hit) rfl ?_
  refine hk_getf dJx35411_next_0502b_14 rfl fl_Jx35411_28 (ha) rfl ?_
  refine cx_icmp_lt (tgt := 28) (by omega) (by omega) dJx35411_next_0502b_17 (by decide) rfl (fun z17 => ?_) (fun z17 => ?_)
  · skip
    refine hk_aload_n dJx35411_next_0502b_28 rfl rfl rfl ?_
    refine hk_getf dJx35411_next_0502b_29 rfl fl_Jx35411_1 (hit) rfl ?_
    refine hk_getf dJx35411_next_0502b_32 rfl fl_Jx35411_37 (ha) rfl ?_
    refine hk_astore_n dJx35411_next_0502b_35 rfl rfl (by decide) rfl ?_
    refine hk_iload_n dJx35411_next_0502b_36 rfl rfl rfl ?_
    refine hk_aload_n dJx35411_next_0502b_37 rfl rfl rfl ?_
    refine hk_alen (t := 5) (cnt := cap) dJx35411_next_0502b_38 rfl (by decide) he (show Int32.ofNat cap = nI cap from rfl) ?_
    refine cx_icmp_lt (tgt := 50) (by omega) (by omega) dJx35411_next_0502b_39 (by decide) rfl (fun z39 => ?_) (fun z39 => ?_)
    · skip
      refine hk_aload_n dJx35411_next_0502b_50 rfl rfl rfl ?_
      refine hk_iload_n dJx35411_next_0502b_51 rfl rfl rfl ?_
      refine hk_iconst (v := nI 1) dJx35411_next_0502b_52 rfl (by decide) ?_
      refine hk_iadd dJx35411_next_0502b_53 rfl ?_
      refine cx_top (nI_add _ _) ?_
      refine hk_putf dJx35411_next_0502b_54 rfl (fw_Jx35411_25 rfl) hit rfl rfl (Nat.lt_of_lt_of_eq (by decide : 0 < 4) rfl) ?_
      refine hk_aload_n dJx35411_next_0502b_57 rfl rfl rfl ?_
      refine hk_aload_n dJx35411_next_0502b_58 rfl rfl rfl ?_
      refine hk_iload_n dJx35411_next_0502b_59 rfl rfl rfl ?_
      refine hk_dup_x1 dJx35411_next_0502b_60 rfl rfl rfl ?_
      refine hk_putf dJx35411_next_0502b_61 rfl (fw_Jx35411_13 rfl) hk_set_eq rfl rfl (Nat.lt_of_lt_of_eq (by decide : 1 < 4) rfl) ?_
      refine hx_cg hk_set_set ?_
      refine hx_aald dJx35411_next_0502b_64 rfl ((hk_set_ne (hk_ne_oa hit he)).trans he) (by omega) hcap hw ?_
      exact hk_areturn rfl (Or.inl ⟨_, rfl⟩) (Or.inr ⟨_, rfl⟩) dJx35411_next_0502b_65 (⟨_, rfl, rfl, rfl⟩)
    · exact absurd (Nat.lt_of_lt_of_le hj hnc) z39
  · exact absurd hj z17
theorem cj_itinit {q a : Nat} {mc : Int32} {x y : Value} (hfl : l.stackTraces = false) (hq : h q = some (.inr (5, [.int 0, .int 0, .int 0, .null]))) (ha : h a = some (.inr (6, [.int mc, x, y]))) : hk_Ctr G l 1 yJx35411_init_45d68 cJx35411_init_45d68 2 none 0 0 [.ref q, .ref a] h (hk_qv fun h1 => h1 = hk_set h q (.inr (5, [.int (nI 0), .int (-1), .int mc, .ref a]))) hk_no := by
  have hne : a ≠ q := fun e => by
    rw [e, hq] at ha
    cases ha
  refine hk_enter (by decide) hfl (Nat.le_of_ble_eq_true rfl) rfl ?_
  refine hk_aload_n dJx35411_init_45d68_0 rfl rfl rfl ?_
  refine hk_aload_n dJx35411_init_45d68_1 rfl rfl rfl ?_
  refine hk_putf dJx35411_init_45d68_2 rfl (fw_Jx35411_1 rfl rfl) hq rfl rfl (Nat.lt_of_lt_of_eq (by decide : 3 < 4) rfl) ?_
  refine hk_aload_n dJx35411_init_45d68_5 rfl rfl rfl ?_
  refine hk_objInit dJx35411_init_45d68_6 rfl ob_Jx35411_7 (by decide) rfl ?_
  refine hk_aload_n dJx35411_init_45d68_9 rfl rfl rfl ?_
  refine hk_iconst (v := -1) dJx35411_init_45d68_10 rfl (by decide) ?_
  refine hk_putf dJx35411_init_45d68_11 rfl (fw_Jx35411_13 rfl) hk_set_eq rfl rfl (Nat.lt_of_lt_of_eq (by decide : 1 < 4) rfl) ?_
  refine hx_cg hk_set_set ?_
  refine hk_aload_n dJx35411_init_45d68_14 rfl rfl rfl ?_
  refine hk_aload_n dJx35411_init_45d68_15 rfl rfl rfl ?_
  refine hk_getf dJx35411_init_45d68_16 rfl fl_Jx35411_1 hk_set_eq rfl ?_
  refine hk_getf dJx35411_init_45d68_19 rfl fl_Jx35411_17 ((hk_set_ne hne).trans ha) rfl ?_
  refine hk_putf dJx35411_init_45d68_22 rfl (fw_Jx35411_22 rfl) hk_set_eq rfl rfl (Nat.lt_of_lt_of_eq (by decide : 2 < 4) rfl) ?_
  refine hx_cg hk_set_set ?_
  exact hk_vreturn rfl dJx35411_init_45d68_25 (⟨rfl, rfl⟩)
theorem cj_iter {a : Nat} {mc : Int32} {x y : Value} (hfl : l.stackTraces = false) (ha : h a = some (.inr (6, [.int mc, x, y]))) : hk_Ctr G l 2 yJx4a65c_iterator_32c93 cJx4a65c_iterator_32c93 1 (some (.object "java/util/Iterator")) 1 4 [.ref a] h (hk_qr fun v h1 => h v = none ∧ h1 = hk_set h v (.inr (5, [.int (nI 0), .int (-1), .int mc, .ref a]))) hk_no := by
  refine hk_enter (by decide) hfl (Nat.le_of_ble_eq_true rfl) rfl ?_
  refine hk_new dJx4a65c_iterator_32c93_0 rfl nw_Jx4a65c_267 (by decide) fun q hq => ?_
  refine hk_dup dJx4a65c_iterator_32c93_3 rfl rfl ?_
  refine hk_aload_n dJx4a65c_iterator_32c93_4 rfl rfl rfl ?_
  refine hk_callI dJx4a65c_iterator_32c93_5 rfl mi_Jx4a65c_269 (cj_itinit hfl hk_set_eq ((hk_set_ne (fun e => by rw [e, hq] at ha; cases ha)).trans ha)) rfl rfl (by decide) (by decide) (Nat.le_of_ble_eq_true rfl) (hk_kv fun h1 e => ?_) hk_nx
  subst e
  refine hx_cg hk_set_set ?_
  exact hk_areturn rfl (Or.inl ⟨_, rfl⟩) (Or.inr ⟨_, rfl⟩) dJx4a65c_iterator_32c93_8 (⟨_, rfl, hq, rfl⟩)
theorem cj_ac {a : Nat} (hfl : l.stackTraces = false) : hk_Ctr G l 1 yJxa1e45_init_da8c8 cJxa1e45_init_da8c8 1 none 0 0 [.ref a] h (hk_qv fun h1 => h1 = h) hk_no := by
  refine hk_enter (by decide) hfl (Nat.le_of_ble_eq_true rfl) rfl ?_
  refine hk_aload_n dJxa1e45_init_da8c8_0 rfl rfl rfl ?_
  refine hk_objInit dJxa1e45_init_da8c8_1 rfl ob_Jxa1e45_1 (by decide) rfl ?_
  exact hk_vreturn rfl dJxa1e45_init_da8c8_4 (⟨rfl, rfl⟩)
theorem cj_abl {a : Nat} {x y : Value} (hfl : l.stackTraces = false) (ha : h a = some (.inr (6, [.int 0, x, y]))) : hk_Ctr G l 2 yJxc12de_init_da8c8 cJxc12de_init_da8c8 1 none 0 0 [.ref a] h (hk_qv fun h1 => h1 = h) hk_no := by
  refine hk_enter (by decide) hfl (Nat.le_of_ble_eq_true rfl) rfl ?_
  refine hk_aload_n dJxc12de_init_da8c8_0 rfl rfl rfl ?_
  refine hk_callI dJxc12de_init_da8c8_1 rfl mi_Jxc12de_1 (cj_ac hfl) rfl rfl (by decide) (by decide) (Nat.le_of_ble_eq_true rfl) (hk_kv fun h1 e => ?_) hk_nx
  subst e
  refine hk_aload_n dJxc12de_init_da8c8_4 rfl rfl rfl ?_
  refine hk_iconst (v := nI 0) dJxc12de_init_da8c8_5 rfl (by decide) ?_
  refine hk_putf dJxc12de_init_da8c8_6 rfl fw_Jxc12de_7 ha rfl rfl (Nat.lt_of_lt_of_eq (by decide : 0 < 3) rfl) ?_
  refine hx_cg (hk_set_id ha) ?_
  exact hk_vreturn rfl dJxc12de_init_da8c8_9 (⟨rfl, rfl⟩)
theorem cj_alinit {a : Nat} (hfl : l.stackTraces = false) (ha : h a = some (.inr (6, [.int 0, .null, .int 0]))) : hk_Ctr G l 3 yJx4a65c_init_da8c8 cJx4a65c_init_da8c8 1 none 0 0 [.ref a] h (hk_qv fun h1 => h1 = hk_set h a (.inr (6, [.int 0, .ref (hk_K G 1001), .int (nI 0)]))) hk_no := by
  refine hk_enter (by decide) hfl (Nat.le_of_ble_eq_true rfl) rfl ?_
  refine hk_aload_n dJx4a65c_init_da8c8_0 rfl rfl rfl ?_
  refine hk_callI dJx4a65c_init_da8c8_1 rfl mi_Jx4a65c_1 (cj_abl hfl ha) rfl rfl (by decide) (by decide) (Nat.le_of_ble_eq_true rfl) (hk_kv fun h1 e => ?_) hk_nx
  subst e
  refine hk_aload_n dJx4a65c_init_da8c8_4 rfl rfl rfl ?_
  refine hk_gets dJx4a65c_init_da8c8_5 rfl (fun U H z => z.1.1) sl_Jx4a65c_39 ?_
  refine hk_putf dJx4a65c_init_da8c8_8 rfl (fw_Jx4a65c_9 rfl) ha rfl rfl (Nat.lt_of_lt_of_eq (by decide : 1 < 3) rfl) ?_
  exact hk_vreturn rfl dJx4a65c_init_da8c8_11 (⟨rfl, rfl⟩)
end CJ

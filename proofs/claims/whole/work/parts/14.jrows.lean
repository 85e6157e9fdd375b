-- THE LAYER, GOING ON: the heap as a list of known cells (so that the kit's rows over such lists serve)
noncomputable def hk_lst (G : hk_G) (h : hk_H) (H : Heap) : va_W := (List.range H.size).filterMap (fun a => (h a).map (fun x => (a, hk_cv G x)))
theorem hk_lst_in {G : hk_G} {h : hk_H} {H : Heap} {a : Nat} {x : hk_E} (hP : hk_P G h H) (ha : h a = some x) : ∃ k : Nat, (hk_lst G h H)[k]? = some (a, hk_cv G x) :=
  List.getElem?_of_mem (List.mem_filterMap.mpr ⟨a, List.mem_range.mpr (hP.lt ha), by rw [ha]; rfl⟩)
theorem hk_lst_of {G : hk_G} {h : hk_H} {H : Heap} {k : Nat} {q : Nat × va_E} (hk : (hk_lst G h H)[k]? = some q) : ∃ x : hk_E, h q.1 = some x ∧ q = (q.1, hk_cv G x) := by
  obtain ⟨a, -, ha⟩ := List.mem_filterMap.mp (List.mem_of_getElem? hk)
  cases hx : h a with
  | none => rw [hx] at ha; cases ha
  | some x =>
    rw [hx] at ha
    cases ha
    exact ⟨x, hx, rfl⟩
theorem hk_lst_P {G : hk_G} {h : hk_H} {H : Heap} (hP : hk_P G h H) : va_P (hk_D G) vwCl (hk_lst G h H) H := fun k q hk => by
  obtain ⟨x, hx, e⟩ := hk_lst_of hk
  rw [e]
  exact (hP q.1 x hx).2
theorem hk_lst_D {G : hk_G} {h : hk_H} {H : Heap} (hP : hk_P G h H) : va_D (hk_A G) (hk_lst G h H) := by
  refine ⟨fun i j p q hi hj e => ?_, fun k q hk => ?_⟩
  · have hpw : (hk_lst G h H).Pairwise (fun p q => p.1 < q.1) := by
      refine List.Pairwise.filterMap _ (fun a a' hlt b hb b' hb' => ?_) List.pairwise_lt_range
      cases hx : h a with
      | none => rw [hx] at hb; cases hb
      | some x =>
        cases hx' : h a' with
        | none => rw [hx'] at hb'; cases hb'
        | some x' =>
          rw [hx] at hb
          rw [hx'] at hb'
          cases hb
          cases hb'
          exact hlt
    obtain ⟨hi1, hi2⟩ := List.getElem?_eq_some_iff.mp hi
    obtain ⟨hj1, hj2⟩ := List.getElem?_eq_some_iff.mp hj
    rcases Nat.lt_trichotomy i j with hlt | heq | hgt
    · have := List.pairwise_iff_getElem.mp hpw i j hi1 hj1 hlt
      rw [hi2, hj2, e] at this
      exact absurd this (Nat.lt_irrefl _)
    · exact heq
    · have := List.pairwise_iff_getElem.mp hpw j i hj1 hi1 hgt
      rw [hi2, hj2, e] at this
      exact absurd this (Nat.lt_irrefl _)
  · obtain ⟨x, hx, -⟩ := hk_lst_of hk
    exact (hP q.1 x hx).1
theorem hk_of_set {G : hk_G} {h : hk_H} {H H1 : Heap} {k a : Nat} {x x' : hk_E} (hP : hk_P G h H) (hk : (hk_lst G h H)[k]? = some (a, hk_cv G x)) (ha : h a = some x) (h1 : va_P (hk_D G) vwCl ((hk_lst G h H).set k (a, hk_cv G x')) H1) : hk_P G (hk_set h a x') H1 := by
  have hkl : k < (hk_lst G h H).length := (List.getElem?_eq_some_iff.mp hk).1
  intro q y hy
  by_cases hq : q = a
  · subst hq
    rw [hk_set_eq] at hy
    cases hy
    exact ⟨(hP q x ha).1, h1 k _ (List.getElem?_set_self hkl)⟩
  · rw [hk_set_ne hq] at hy
    obtain ⟨k', hk'⟩ := hk_lst_in hP hy
    have hne : k ≠ k' := fun e => by
      subst e
      rw [hk] at hk'
      exact hq (congrArg Prod.fst (Option.some.inj hk')).symm
    exact ⟨(hP q y hy).1, h1 k' _ (by rw [List.getElem?_set_ne hne]; exact hk')⟩
theorem hk_of_push {G : hk_G} {h : hk_H} {H H1 : Heap} {q : Nat} {x' : hk_E} (hP : hk_P G h H) (h1 : va_P (hk_D G) vwCl (hk_lst G h H ++ [(q, hk_cv G x')]) H1) (hD : va_D (hk_A G) (hk_lst G h H ++ [(q, hk_cv G x')])) : h q = none ∧ hk_P G (hk_set h q x') H1 := by
  have hlast : (hk_lst G h H ++ [(q, hk_cv G x')])[(hk_lst G h H).length]? = some (q, hk_cv G x') := by simp
  have hn : h q = none := by
    cases hx : h q with
    | none => rfl
    | some y =>
      obtain ⟨k, hk⟩ := hk_lst_in hP hx
      have hkl : k < (hk_lst G h H).length := (List.getElem?_eq_some_iff.mp hk).1
      have := hD.1 k _ (q, hk_cv G y) (q, hk_cv G x') (by rw [List.getElem?_append_left hkl]; exact hk) hlast rfl
      omega
  refine ⟨hn, fun p y hy => ?_⟩
  by_cases hp : p = q
  · subst hp
    rw [hk_set_eq] at hy
    cases hy
    exact ⟨hD.2 _ _ hlast, h1 _ _ hlast⟩
  · rw [hk_set_ne hp] at hy
    obtain ⟨k, hk⟩ := hk_lst_in hP hy
    have hkl : k < (hk_lst G h H).length := (List.getElem?_eq_some_iff.mp hk).1
    exact ⟨(hP p y hy).1, h1 k _ (by rw [List.getElem?_append_left hkl]; exact hk)⟩
-- what may lie in a list: a small Character, a small Integer, a coin, a bill
def hk_ob (G : hk_G) (h : hk_H) (v : Nat) : Prop := (∃ i : Nat, i < 128 ∧ v = hk_K G (2000 + i)) ∨ (∃ i : Nat, i < 256 ∧ v = hk_K G (3000 + i)) ∨ ∃ (ci : Nat) (fs : List Value), h v = some (.inr (ci, fs)) ∧ (ci = 14 ∨ ci = 15)
def hk_oc (C : String) : Prop := Cond.castable C "java/lang/Object" ∈ lw_tbl
theorem hk_oc_ch : hk_oc "java/lang/Character" := (List.mem_of_getElem? (i := 1839) (by decide +kernel))
theorem hk_oc_in : hk_oc "java/lang/Integer" := (List.mem_of_getElem? (i := 1840) (by decide +kernel))
theorem hk_oc_co : hk_oc "HarbourmintModel$Coin" := (List.mem_of_getElem? (i := 1855) (by decide +kernel))
theorem hk_oc_bi : hk_oc "HarbourmintModel$Bill" := (List.mem_of_getElem? (i := 1857) (by decide +kernel))
theorem hk_ob_c {G : hk_G} {h : hk_H} {H : Heap} {s : State} {locs : List Loc} {v : Nat} (hF : hk_F G s s.heap) (hO : hk_O G h s H locs) (hv : hk_ob G h v) : ∃ C : String, hk_oc C ∧ ∃ cell : Cell, H[v]? = some cell ∧ cell.vm.isStatics = false ∧ s.vm.findClass C = some cell.cls := by
  have hJ := hF.2.2.2.2.2.2
  rcases hv with ⟨i, hi, rfl⟩ | ⟨i, hi, rfl⟩ | ⟨ci, fs, hx, hci⟩
  · obtain ⟨cell, g1, g2, g3, -⟩ := (hJ.2.1.2.2 i hi).1.kept hO.2.2.1
    exact ⟨_, hk_oc_ch, cell, g1, g2, g3⟩
  · obtain ⟨cell, g1, g2, g3, -⟩ := (hJ.2.2.1.2.2.2 i hi).1.kept hO.2.2.1
    exact ⟨_, hk_oc_in, cell, g1, g2, g3⟩
  · obtain ⟨r, hr1, cell, g1, g2, g3, -⟩ := (hO.1 v _ hx).2
    rcases hci with rfl | rfl
    · have hr : r = (RX7, TX7, 7) := Option.some.inj (hr1.symm.trans rfl)
      subst hr
      exact ⟨_, hk_oc_bi, cell, g1, by rw [g3]; rfl, by rw [g2]; exact (hF.1 14 _ rfl).2.1⟩
    · have hr : r = (RX8, TX8, 6) := Option.some.inj (hr1.symm.trans rfl)
      subst hr
      exact ⟨_, hk_oc_co, cell, g1, by rw [g3]; rfl, by rw [g2]; exact (hF.1 15 _ rfl).2.1⟩
section HK4
variable {G : hk_G} {l : Launch} {d : Nat} {y : MethodName} {b : ByteArray} {nL : Nat} {ret : Option FieldType} {hh : List (Nat × Nat × Nat × Nat)} {Q : Option Value → hk_H → Prop} {X : String → hk_H → Prop} {k n : Nat} {h : hk_H} {pc pc' : Nat} {lv : List (Option Value)} {st : List Value}
theorem hk_aast {a cnt v : Nat} {f : Nat → Option Nat} {i : Int32} (hd : decode b pc = .ok (.aastore, 1)) (hp : pc + 1 = pc') (ha : h a = some (.inl (5, cnt, .inr (.inr (.inr (.inr (f))))))) (hin : vp_in i cnt) (hv : hk_ob G h v) (kk : hk_W G l d y b nL ret hh Q X k n (hk_set h a (.inl (5, cnt, .inr (.inr (.inr (.inr (va_up f i.toNatClampNeg (some v)))))))) pc' lv st) : hk_W G l d y b nL ret hh Q X k n h pc lv (.ref v :: .int i :: .ref a :: st) := by
  subst hp
  intro p e s m args below meth c H locs cells slots mc ms ls C hk hn hO hL hl
  obtain ⟨q0, hq0⟩ := hk_lst_in hO.1 ha
  obtain ⟨K, hK1, hK2⟩ := hk_ob_c C.F hO hv
  refine vb_astq C.exec C.bytes (C.F.KT (t := 5) (by decide)) (hk_lst_P hO.1) (hk_lst_D hO.1) hO.2 q0 0 hq0 (E := "java/lang/Object") rfl hK2 (fun comp c0 z1 z2 => vb_asgC (C.F.2.2.2.2.2.1 _ hK1 rfl) comp c0 z1 z2) hin hd fun H1 locs1 g1 g2 g3 => ?_
  exact kk p e s m args below meth c H1 locs1 cells slots mc ms ls C hk hn ⟨hk_of_set hO.1 hq0 ha g1, g3⟩ hL hl
theorem hk_acopy {a a0 cnt cnt0 idx : Nat} {f g : Nat → Option Nat} {sp dp z : Int32} (hd : decode b pc = .ok (.invokestatic idx, 3)) (hp : pc + 3 = pc') (L : Cond.methodLink y.cls idx arraycopyName ∈ hk_all ∧ Cond.native arraycopyName ∈ hk_all ∧ Cond.static arraycopyName ∈ hk_all ∧ Cond.initialized "java/lang/System" ∈ hk_all) (ha0 : h a0 = some (.inl (5, cnt0, .inr (.inr (.inr (.inr (f))))))) (ha : h a = some (.inl (5, cnt, .inr (.inr (.inr (.inr (g))))))) (h1 : ¬ sp < 0) (h2 : ¬ dp < 0) (h3 : ¬ z < 0) (h4 : sp.toNatClampNeg + z.toNatClampNeg ≤ cnt0) (h5 : dp.toNatClampNeg + z.toNatClampNeg ≤ cnt) (hel : ∀ i : Nat, i < z.toNatClampNeg → ∀ v : Nat, f (sp.toNatClampNeg + i) = some v → hk_ob G h v) (hd1 : 1 ≤ d) (hrm : (st.map fun v => v.category).sum ≤ 8)
    (kk : hk_W G l d y b nL ret hh Q X k n (hk_set h a (.inl (5, cnt, .inr (.inr (.inr (.inr (va_cpy f g sp.toNatClampNeg dp.toNatClampNeg z.toNatClampNeg))))))) pc' lv st) : hk_W G l d y b nL ret hh Q X k n h pc lv (.int z :: .int dp :: .ref a :: .int sp :: .ref a0 :: st) := by
  subst hp
  intro p e s m args below meth c H locs cells slots mc ms ls C hk hn hO hL hl
  obtain ⟨q0, hq0⟩ := hk_lst_in hO.1 ha0
  obtain ⟨q1, hq1⟩ := hk_lst_in hO.1 ha
  refine va_copyM C.exec C.bytes (C.maxL.trans (hl.1.trans hL).symm) C.own (C.words _ L.1) (C.words _ L.2.1) (C.words _ L.2.2.1) (C.words _ L.2.2.2) (C.F.KT (t := 5) (by decide)) (hk_lst_P hO.1) (hk_lst_D hO.1) hO.2 q0 q1 0 0 hq0 hq1 (E0 := "java/lang/Object") (E1 := "java/lang/Object") rfl rfl h1 h2 h3 h4 h5 (fun i hi v hv => ?_) (by show 1 ≤ d; exact hd1) (by show _ + (nativeFrameWords _ _ _ + 11) ≤ 64 * d; rw [show nativeFrameWords "java/lang/System" "arraycopy" 5 = 7 from by decide +kernel]; omega) hd fun H1 locs1 g1 g2 g3 => ?_
  · obtain ⟨K, hK1, cell, c1, c2, c3⟩ := hk_ob_c C.F hO (hel i hi v hv)
    obtain ⟨kC, hkC, -⟩ := Vm.findClass_spec c3
    exact ⟨cell, c1, c2, ⟨kC, hkC⟩, fun comp z1 => vb_asgC (C.F.2.2.2.2.2.1 _ hK1 rfl) comp _ z1 c3⟩
  · exact kk p e s m args below meth c H1 locs1 cells slots mc ms ls C hk hn ⟨hk_of_set hO.1 hq1 ha g1, g3⟩ hL hl
theorem hk_acopy0 {a cnt idx : Nat} {g : Nat → Option Nat} {sp dp z : Int32} (hd : decode b pc = .ok (.invokestatic idx, 3)) (hp : pc + 3 = pc') (L : Cond.methodLink y.cls idx arraycopyName ∈ hk_all ∧ Cond.native arraycopyName ∈ hk_all ∧ Cond.static arraycopyName ∈ hk_all ∧ Cond.initialized "java/lang/System" ∈ hk_all) (ha : h a = some (.inl (5, cnt, .inr (.inr (.inr (.inr (g))))))) (h1 : sp = 0) (h2 : dp = 0) (h3 : z = 0) (hd1 : 1 ≤ d) (hrm : (st.map fun v => v.category).sum ≤ 8)
    (kk : hk_W G l d y b nL ret hh Q X k n h pc' lv st) : hk_W G l d y b nL ret hh Q X k n h pc lv (.int z :: .int dp :: .ref a :: .int sp :: .ref (hk_K G 1001) :: st) := by
  subst hp h1 h2 h3
  intro p e s m args below meth c H locs cells slots mc ms ls C hk hn hO hL hl
  obtain ⟨q1, hq1⟩ := hk_lst_in hO.1 ha
  refine va_copyg C.exec C.bytes (C.maxL.trans (hl.1.trans hL).symm) C.own (C.words _ L.1) (C.words _ L.2.1) (C.words _ L.2.2.1) (C.words _ L.2.2.2) (C.F.KT (t := 5) (by decide)) (hk_lst_P hO.1) (hk_lst_D hO.1) hO.2 q1 0 (E0 := "java/lang/Object") (E1 := "java/lang/Object") C.F.2.2.2.2.2.2.1.2.1 hq1 rfl (by decide) (by decide) (by decide) (by decide) (Nat.zero_le _) (by show 1 ≤ d; exact hd1) (by show _ + (nativeFrameWords _ _ _ + 11) ≤ 64 * d; rw [show nativeFrameWords "java/lang/System" "arraycopy" 5 = 7 from by decide +kernel]; omega) hd fun H1 locs1 g1 g2 g3 => ?_
  have e9 : va_cpy (fun _ => none) g (0 : Int32).toNatClampNeg (0 : Int32).toNatClampNeg (0 : Int32).toNatClampNeg = g := by
    funext j
    unfold va_cpy
    rw [if_neg (by intro q; exact absurd q.2 (by show ¬ j < 0 + 0; omega))]
  rw [e9] at g1
  have g4 := hk_of_set (x' := .inl (5, cnt, .inr (.inr (.inr (.inr (g)))))) hO.1 hq1 ha g1
  have e8 : hk_set h a (.inl (5, cnt, .inr (.inr (.inr (.inr (g)))))) = h := by
    funext q
    by_cases e3 : q = a
    · subst e3; rw [hk_set_eq, ha]
    · rw [hk_set_ne e3]
  rw [e8] at g4
  exact kk p e s m args below meth c H1 locs1 cells slots mc ms ls C hk hn ⟨g4, g3⟩ hL hl
theorem hk_anewa {idx N : Nat} {z : Int32} (hd : decode b pc = .ok (.anewarray idx, 3)) (hp : pc + 3 = pc') (L : Cond.classLink y.cls idx "java/lang/Object" ∈ hk_all) (hz : ¬ z < 0) (hN : z.toNatClampNeg = N) (hby : N * 4 ≤ 536870912) (hb : 1 ≤ k ∧ N ≤ n) (kk : ∀ q : Nat, h q = none → hk_W G l d y b nL ret hh Q X (k - 1) (n - N) (hk_set h q (.inl (5, N, .inr (.inr (.inr (.inr (fun _ => none))))))) pc' lv (.ref q :: st)) : hk_W G l d y b nL ret hh Q X k n h pc lv (.int z :: st) := by
  subst hp
  intro p e s m args below meth c H locs cells slots mc ms ls C hk hn hO hL hl
  have hJ := C.F.2.2.2.2.2.2
  refine va_newq C.exec C.bytes C.own (C.words _ L) hJ.2.2.2.2.2.2.1 C.F.K (hk_lst_P hO.1) (hk_lst_D hO.1) hO.2 (fun q hq => Nat.le_trans C.base hq) hz hN hby (by show cells + 1 ≤ mc; omega) (by show slots + N ≤ ms; omega) hd fun q cA H1 g1 g2 g3 g4 => ?_
  have hcA : cA = hk_dA G 5 := by
    obtain ⟨kA, comp, r1, r2, r3, r4⟩ := (g1.2 0 _ rfl).2
    obtain ⟨kA', comp', s1, s2, s3, s4⟩ := (C.F.2.1 5 (by decide)).2
    exact Option.some.inj (r4.symm.trans s4)
  subst hcA
  obtain ⟨g5, g6⟩ := hk_of_push (x' := .inl (5, N, .inr (.inr (.inr (.inr (fun _ => none)))))) hO.1 g2 g3
  exact kk q g5 p e s m args below meth c H1 locs (cells + 1) (slots + N) mc ms ls C (by omega) (by omega) ⟨g6, g4⟩ hL hl
theorem hk_alen {a t cnt : Nat} {x : vp_A} {v : Int32} (hd : decode b pc = .ok (.arraylength, 1)) (hp : pc + 1 = pc') (ht : t < 7) (ha : h a = some (.inl (t, x))) (hv : Int32.ofNat x.1 = v) (kk : hk_W G l d y b nL ret hh Q X k n h pc' lv (.int v :: st)) : hk_W G l d y b nL ret hh Q X k n h pc lv (.ref a :: st) := by
  subst hp
  intro p e s m args below meth c H locs cells slots mc ms ls C hk hn hO hL hl
  obtain ⟨q0, hq0⟩ := hk_lst_in hO.1 ha
  exact va_alen C.exec C.bytes (C.F.KT ht) (hk_lst_P hO.1) q0 0 hq0 rfl hv hd (kk p e s m args below meth c H locs cells slots mc ms ls C hk hn hO hL hl)
theorem hk_tlen {t N : Nat} {ty : FieldType} {f : Nat → Value} {v : Int32} (hd : decode b pc = .ok (.arraylength, 1)) (hp : pc + 1 = pc') (hT : ∀ (U : State) (H : Heap), hk_J G U H → va_T ty t N f (hk_A G) U H) (hv : Int32.ofNat N = v) (kk : hk_W G l d y b nL ret hh Q X k n h pc' lv (.int v :: st)) : hk_W G l d y b nL ret hh Q X k n h pc lv (.ref t :: st) := by
  subst hp
  intro p e s m args below meth c H locs cells slots mc ms ls C hk hn hO hL hl
  exact va_tlen C.exec C.bytes (hT _ _ C.F.2.2.2.2.2.2) hO.2 hv hd (kk p e s m args below meth c H locs cells slots mc ms ls C hk hn hO hL hl)
theorem hk_gets {idx : Nat} {K f t : String} {v : Value} (hd : decode b pc = .ok (.getstatic idx, 3)) (hp : pc + 3 = pc') (hZ : ∀ (U : State) (H : Heap), hk_J G U H → va_Z K f t v (hk_A G) U H) (L : Cond.fieldLink y.cls idx K f t ∈ hk_all) (kk : hk_W G l d y b nL ret hh Q X k n h pc' lv (v :: st)) : hk_W G l d y b nL ret hh Q X k n h pc lv st := by
  subst hp
  intro p e s m args below meth c H locs cells slots mc ms ls C hk hn hO hL hl
  exact va_gets C.exec C.bytes (hZ _ _ C.F.2.2.2.2.2.2) hO.2 C.own (C.words _ L) (fun _ z => z) hd (kk p e s m args below meth c H locs cells slots mc ms ls C hk hn hO hL hl)
theorem hk_jget {idx q : Nat} {K f t : String} {v : Value} (hd : decode b pc = .ok (.getfield idx, 3)) (hp : pc + 3 = pc') (hE : ∀ (U : State) (H : Heap), hk_J G U H → va_OF K f t v q (hk_A G) U H) (L : Cond.fieldLink y.cls idx K f t ∈ hk_all) (kk : hk_W G l d y b nL ret hh Q X k n h pc' lv (v :: st)) : hk_W G l d y b nL ret hh Q X k n h pc lv (.ref q :: st) := by
  subst hp
  intro p e s m args below meth c H locs cells slots mc ms ls C hk hn hO hL hl
  exact vk_getf C.exec C.bytes (hE _ _ C.F.2.2.2.2.2.2) hO.2 C.own (C.words _ L) (fun _ z => z) hd (kk p e s m args below meth c H locs cells slots mc ms ls C hk hn hO hL hl)
theorem hk_tald {t N : Nat} {K : String} {f : Nat → Value} {i : Int32} {v : Value} (hd : decode b pc = .ok (.aaload, 1)) (hp : pc + 1 = pc') (hT : ∀ (U : State) (H : Heap), hk_J G U H → va_T (.object K) t N f (hk_A G) U H) (hin : vp_in i N) (hv : f i.toNatClampNeg = v) (kk : hk_W G l d y b nL ret hh Q X k n h pc' lv (v :: st)) : hk_W G l d y b nL ret hh Q X k n h pc lv (.int i :: .ref t :: st) := by
  subst hp
  intro p e s m args below meth c H locs cells slots mc ms ls C hk hn hO hL hl
  exact vb_tq C.exec C.bytes (hT _ _ C.F.2.2.2.2.2.2) hO.2 hin hv hd (kk p e s m args below meth c H locs cells slots mc ms ls C hk hn hO hL hl)
theorem hk_tbald {t N : Nat} {f : Nat → Value} {i : Int32} {v : Value} (hd : decode b pc = .ok (.baload, 1)) (hp : pc + 1 = pc') (hT : ∀ (U : State) (H : Heap), hk_J G U H → va_T .byte t N f (hk_A G) U H) (hin : vp_in i N) (hv : f i.toNatClampNeg = v) (kk : hk_W G l d y b nL ret hh Q X k n h pc' lv (v :: st)) : hk_W G l d y b nL ret hh Q X k n h pc lv (.int i :: .ref t :: st) := by
  subst hp
  intro p e s m args below meth c H locs cells slots mc ms ls C hk hn hO hL hl
  exact va_tb C.exec C.bytes (hT _ _ C.F.2.2.2.2.2.2) hO.2 hin hv hd (kk p e s m args below meth c H locs cells slots mc ms ls C hk hn hO hL hl)
theorem hk_ldcS (hy : y.cls = RX9) (hd : decode b pc = .ok (.ldc 72, 2)) (hp : pc + 2 = pc') (kk : hk_W G l d y b nL ret hh Q X k n h pc' lv (.ref (hk_K G 1004) :: st)) : hk_W G l d y b nL ret hh Q X k n h pc lv st := by
  subst hp
  intro p e s m args below meth c H locs cells slots mc ms ls C hk hn hO hL hl
  have hown := C.own
  rw [hy] at hown
  exact va_ldcS C.exec C.bytes hown C.F.2.2.2.2.2.2.2.2.2.1.2.1 hd (kk p e s m args below meth c H locs cells slots mc ms ls C hk hn hO hL hl)
theorem hk_ldcM {idx : Nat} (hd : decode b pc = .ok (.ldc idx, 2)) (hp : pc + 2 = pc') (L : Cond.classLink y.cls idx "[Ljava/lang/Object;" ∈ hk_all) (kk : hk_W G l d y b nL ret hh Q X k n h pc' lv (.ref (hk_K G 1006) :: st)) : hk_W G l d y b nL ret hh Q X k n h pc lv st := by
  subst hp
  intro p e s m args below meth c H locs cells slots mc ms ls C hk hn hO hL hl
  exact va_ldcM C.exec C.bytes C.own (C.words _ L) C.F.2.2.2.2.2.2.2.2.2.2.1 hd (kk p e s m args below meth c H locs cells slots mc ms ls C hk hn hO hL hl)
theorem hk_ldcI {idx : Nat} {v : Int32} (hd : decode b pc = .ok (.ldc idx, 2)) (hp : pc + 2 = pc') (L : Cond.constant y.cls idx v ∈ hk_all) (kk : hk_W G l d y b nL ret hh Q X k n h pc' lv (.int v :: st)) : hk_W G l d y b nL ret hh Q X k n h pc lv st := by
  subst hp
  intro p e s m args below meth c H locs cells slots mc ms ls C hk hn hO hL hl
  exact lv_ldc C.exec C.bytes C.own (C.words _ L) hd (kk p e s m args below meth c H locs cells slots mc ms ls C hk hn hO hL hl)
theorem hk_ishr {x z : Int32} (hd : decode b pc = .ok (.ishr, 1)) (hp : pc + 1 = pc') (kk : hk_W G l d y b nL ret hh Q X k n h pc' lv (.int (x >>> (z &&& 31)) :: st)) : hk_W G l d y b nL ret hh Q X k n h pc lv (.int z :: .int x :: st) := by
  subst hp
  intro p e s m args below meth c H locs cells slots mc ms ls C hk hn hO hL hl
  exact lv_ishr C.exec C.bytes hd (kk p e s m args below meth c H locs cells slots mc ms ls C hk hn hO hL hl)
theorem hk_i2b {x v : Int32} (hd : decode b pc = .ok (.i2b, 1)) (hp : pc + 1 = pc') (hv : x.toInt8.toInt32 = v) (kk : hk_W G l d y b nL ret hh Q X k n h pc' lv (.int v :: st)) : hk_W G l d y b nL ret hh Q X k n h pc lv (.int x :: st) := by
  subst hp
  intro p e s m args below meth c H locs cells slots mc ms ls C hk hn hO hL hl
  exact lv_i2b C.exec C.bytes hd hv (kk p e s m args below meth c H locs cells slots mc ms ls C hk hn hO hL hl)
-- a class object asked of a row of objects
def hk_gc (own : String) (idx : Nat) : Prop := Cond.methodLink own idx ⟨"java/lang/Object", "getClass", "()Ljava/lang/Class;"⟩ ∈ hk_all ∧ Cond.declares ⟨"java/lang/Object", "getClass", "()Ljava/lang/Class;"⟩ ∈ lw_tbl ∧ Cond.selects "[Ljava/lang/Object;" ⟨"java/lang/Object", "getClass", "()Ljava/lang/Class;"⟩ ⟨"java/lang/Object", "getClass", "()Ljava/lang/Class;"⟩ ∈ hk_all ∧ Cond.instanceMethod ⟨"java/lang/Object", "getClass", "()Ljava/lang/Class;"⟩ ∈ hk_all ∧ Cond.native ⟨"java/lang/Object", "getClass", "()Ljava/lang/Class;"⟩ ∈ hk_all
theorem hk_getC {a idx : Nat} (hd : decode b pc = .ok (.invokevirtual idx, 3)) (hp : pc + 3 = pc') (L : hk_gc y.cls idx) (ha : (∃ x : vp_A, h a = some (.inl (5, x))) ∨ a = hk_K G 1001) (hd1 : 1 ≤ d) (hrm : (st.map fun v => v.category).sum ≤ 8) (kk : hk_W G l d y b nL ret hh Q X k n h pc' lv (.ref (hk_K G 1006) :: st)) : hk_W G l d y b nL ret hh Q X k n h pc lv (.ref a :: st) := by
  subst hp
  intro p e s m args below meth c H locs cells slots mc ms ls C hk hn hO hL hl
  have hJ := C.F.2.2.2.2.2.2
  obtain ⟨l1, l2, l3, l4, l5⟩ := L
  have hr : ∃ cell : Cell, H[a]? = some cell ∧ cell.vm.isStatics = false ∧ s.vm.findClass "[Ljava/lang/Object;" = some cell.cls := by
    rcases ha with ⟨x, hx⟩ | rfl
    · obtain ⟨kA', comp', s1, s2, s3, s4⟩ := (C.F.2.1 5 (by decide)).2
      have h9 : H[a]? = some (vp_cell (hk_dA G 5) x) := (hO.1 a _ hx).2
      refine ⟨_, h9, ?_, ?_⟩
      · unfold vp_cell; split <;> rfl
      · have e1 : (vp_cell (hk_dA G 5) x).cls = hk_dA G 5 := by unfold vp_cell; split <;> rfl
        rw [e1, ← s4]
        exact congrArg _ (by decide +kernel)
    · obtain ⟨cell, g1, g2, g3, -⟩ := hJ.1.2.2.kept hO.2.2.1
      exact ⟨cell, g1, g2, g3⟩
  exact va_getC C.exec C.bytes (C.maxL.trans (hl.1.trans hL).symm) C.own (C.words _ l1) (hk_Nw_use rfl (C.F.2.2.2.2.2.1 _ l2 rfl)) (C.words _ l3) (C.words _ l4) (C.words _ l5) hJ.2.2.2.2.1 hr (by show 1 ≤ d; exact hd1) (by show _ ≤ 64 * d; omega) hd (kk p e s m args below meth c H locs cells slots mc ms ls C hk hn hO hL hl)
theorem hk_castO {a idx ci : Nat} {fs : List Value} {r : vw_C} (hd : decode b pc = .ok (.checkcast idx, 3)) (hp : pc + 3 = pc') (ha : h a = some (.inr (ci, fs))) (hc : vwCl[ci]? = some r) (L : Cond.classLink y.cls idx r.1 ∈ hk_all) (kk : hk_W G l d y b nL ret hh Q X k n h pc' lv (.ref a :: st)) : hk_W G l d y b nL ret hh Q X k n h pc lv (.ref a :: st) := by
  subst hp
  intro p e s m args below meth c H locs cells slots mc ms ls C hk hn hO hL hl
  exact va_castE C.exec C.bytes C.own (C.words _ L) (hk_recv C hO ha hc) hd (kk p e s m args below meth c H locs cells slots mc ms ls C hk hn hO hL hl)
theorem hk_castJ {a idx : Nat} {K : String} (hd : decode b pc = .ok (.checkcast idx, 3)) (hp : pc + 3 = pc') (hr : ∀ (U : State) (H : Heap), hk_J G U H → va_O K a (hk_A G) U H) (L : Cond.classLink y.cls idx K ∈ hk_all) (kk : hk_W G l d y b nL ret hh Q X k n h pc' lv (.ref a :: st)) : hk_W G l d y b nL ret hh Q X k n h pc lv (.ref a :: st) := by
  subst hp
  intro p e s m args below meth c H locs cells slots mc ms ls C hk hn hO hL hl
  obtain ⟨cell, g1, g2, g3, -⟩ := (hr _ _ C.F.2.2.2.2.2.2).kept hO.2.2.1
  exact va_castE C.exec C.bytes C.own (C.words _ L) ⟨cell, g1, g2, g3⟩ hd (kk p e s m args below meth c H locs cells slots mc ms ls C hk hn hO hL hl)

theorem hk_callJ {y' : MethodName} {b' : ByteArray} {nL' na k' n' d' idx : Nat} {a : Nat} {ret' : Option FieldType} {As st0 : List Value} {Q' : Option Value → hk_H → Prop} {X' : String → hk_H → Prop} (hd : decode b pc = .ok (.invokevirtual idx, 3)) (hp : pc + 3 = pc') (L : hk_mV y.cls idx y' b' nL' ret' na) (hc : hk_Ctr G l d' y' b' nL' ret' k' n' (.ref a :: As) h Q' X') (hst : st0 = As.reverse ++ .ref a :: st) (hna : As.length = na) (hr : ∀ (U : State) (H : Heap), hk_J G U H → va_O y'.cls a (hk_A G) U H) (hdp : d' + 1 ≤ d ∧ 8 + (nL' + 11) + 64 * d' ≤ 64 * d) (hkk : k' ≤ k ∧ n' ≤ n) (hrm : (st.map fun v => v.category).sum ≤ 8)
    (kk : ∀ (r : Option Value) (h' : hk_H), Q' r h' → hk_W G l d y b nL ret hh Q X (k - k') (n - n') h' pc' lv (r.toList ++ st)) (kx : ∀ (E : String) (h' : hk_H), X' E h' → hk_WX G l d y b nL ret hh Q X (k - k') (n - n') h' pc lv st E) : hk_W G l d y b nL ret hh Q X k n h pc lv st0 := by
  subst hp
  subst hst
  intro p e s m args below meth c H locs cells slots mc ms ls C hk hn hO hL hl
  obtain ⟨l1, l2, l3, l4, l5, l6, l7⟩ := L
  obtain ⟨cell, g1, g2, g3, -⟩ := (hr _ _ C.F.2.2.2.2.2.2).kept hO.2.2.1
  refine hk_after (vx_runV (own := y.cls) (C := y'.cls) (As := As) (rest := st) ⟨C.exec, C.bytes, C.maxL, C.own, C.words⟩ hc (cwV na C.words (fun w hw => ?_) rfl rfl rfl ⟨rfl, l6.1, l6.2, l7⟩ hdp) ⟨hk_Pc_blind, ⟨cell, g1, g2, g3⟩, fun U hU hW => hk_start C hO U hU hW⟩ rfl hna (hl.1.trans hL) rfl (lv_room hrm) hd ⟨Nat.le_trans (Nat.add_le_add_left hkk.1 _) hk, Nat.le_trans (Nat.add_le_add_left hkk.2 _) hn⟩) C hk hn hO hL hl hkk.1 hkk.2 kk kx
  rcases List.mem_append.mp hw with hw | hw
  · simp only [List.mem_cons, List.not_mem_nil, or_false] at hw
    rcases hw with rfl | rfl | rfl | rfl
    · exact hk_all_good _ l1
    · exact hk_all_good _ l2
    · exact hk_all_good _ l3
    · exact hk_all_good _ l4
  · exact hk_good l5 w hw
-- behind an interface call
theorem hk_after5 {p : Program} {e : Env} {s : State} {m : MethodId} {args : Array Value} {below : List Frame} {meth : Method} {c : Code} {H : Heap} {locs : List Loc} {cells slots mc ms k' n' : Nat} {ls : Array Slot} {st0 : List Value} {Q' : Option Value → hk_H → Prop} {X' : String → hk_H → Prop} {A9 : Array Value}
    (hr : vx_Run5 p l e (hk_rm d mc ms) s m args below meth c H locs cells slots k' n' (F0 m pc ls st0) st (hk_Qc G Q' A9) (hk_XC G X') (hk_A G)) (C : hk_C G l y b nL ret hh p s m args meth c) (hk : cells + k ≤ mc) (hn : slots + n ≤ ms) (hO : hk_O G h s H locs) (hL : lv.length = nL) (hl : hk_L ls lv) (hkk : k' ≤ k) (hnn : n' ≤ n)
    (kk : ∀ (r : Option Value) (h' : hk_H), Q' r h' → hk_W G l d y b nL ret hh Q X (k - k') (n - n') h' (pc + 5) lv (r.toList ++ st))
    (kx : ∀ (E : String) (h' : hk_H), X' E h' → hk_WX G l d y b nL ret hh Q X (k - k') (n - n') h' pc lv st E) :
    W p l e (hk_rm d mc ms) s m args below meth c H locs cells slots (vx_MQ below (hk_Qc G Q) (hk_XC G X) args s mc ms (hk_A G)) (F0 m pc ls st0) := by
  intro T hT X0
  rcases hr T hT X0 with ⟨v, st₀, t, T', L, h0, X', hL', e1, e2, ⟨r, h', hv, hq, hP', hF'⟩, hg⟩ | ⟨q, st₀, t, T', L, E, ce, h0, X', hL', e1, e2, ⟨h', hx, hP', hF'⟩, hce, hcv, hcl, hg⟩
  · cases hv
    obtain ⟨k1, k2, k3⟩ := vx_keep h0 e1 hO.2 (fun q _ z => z) (fun q z => z) hL' hF'
    obtain ⟨t2, a1, b1⟩ := kk v h' hq p e s m args below meth c T'.heap (locs ++ L) (cells + k') (slots + n') mc ms ls C (by omega) (by omega) ⟨by rw [e1]; exact hP', k3⟩ hL hl T' rfl X'
    exact ⟨t2, hg t2 a1, b1⟩
  · obtain ⟨k1, k2, k3⟩ := vx_keep h0 e1 hO.2 (fun q _ z => z) (fun q z => z) hL' hF'
    obtain ⟨t2, a1, b1⟩ := kx E h' hx p e s m args below meth c T'.heap (locs ++ L) (cells + k') (slots + n') mc ms ls q ce C (by omega) (by omega) ⟨by rw [e1]; exact hP', k3⟩ hL hl (by rw [e1]; exact hce) hcv hcl T' rfl X'
    exact ⟨t2, hg.trans a1, b1⟩
def hk_mF (own : String) (idx : Nat) (i : Nat) (C : String) (x y' : MethodName) (b' : ByteArray) (nL' : Nat) (ret' : Option FieldType) (na : Nat) : Prop := hk_fws[i]? = some (C, x, y') ∧ Cond.methodLink own idx x ∈ hk_all ∧ Cond.selects C x y' ∈ hk_all ∧ Cond.instanceMethod y' ∈ hk_all ∧ Cond.initialized y'.cls ∈ hk_all ∧ Cond.code y' b' nL' ret' ∈ hk_all ∧ (parseMethodDescriptor x.desc).map (fun d => d.parameters.length) = some na
theorem hk_callF {y' : MethodName} {b' : ByteArray} {nL' na k' n' d' idx : Nat} {a ci cn9 i : Nat} {fs : List Value} {r : vw_C} {x : MethodName} {K : String} {ret' : Option FieldType} {As st0 : List Value} {Q' : Option Value → hk_H → Prop} {X' : String → hk_H → Prop} (hd : decode b pc = .ok (.invokeinterface idx cn9, 5)) (hp : pc + 5 = pc') (L : hk_mF y.cls idx i K x y' b' nL' ret' na) (hc : hk_Ctr G l d' y' b' nL' ret' k' n' (.ref a :: As) h Q' X') (hst : st0 = As.reverse ++ .ref a :: st) (hna : As.length = na) (ha : h a = some (.inr (ci, fs))) (hcl : vwCl[ci]? = some r) (hrc : r.1 = K) (hdp : d' + 1 ≤ d ∧ 8 + (nL' + 11) + 64 * d' ≤ 64 * d) (hkk : k' ≤ k ∧ n' ≤ n) (hrm : (st.map fun v => v.category).sum ≤ 8)
    (kk : ∀ (r : Option Value) (h' : hk_H), Q' r h' → hk_W G l d y b nL ret hh Q X (k - k') (n - n') h' pc' lv (r.toList ++ st)) (kx : ∀ (E : String) (h' : hk_H), X' E h' → hk_WX G l d y b nL ret hh Q X (k - k') (n - n') h' pc lv st E) : hk_W G l d y b nL ret hh Q X k n h pc lv st0 := by
  subst hp
  subst hst
  intro p e s m args below meth c H locs cells slots mc ms ls C hk hn hO hL hl
  obtain ⟨l0, l1, l2, l3, l4, l5, l6⟩ := L
  have hmem : (K, x, y') ∈ hk_fws := List.mem_of_getElem? l0
  have hrecv := hk_recv C hO ha hcl
  have hKn := C.F.1 ci r hcl
  rw [hrc] at hrecv
  have hat : ClassAt s K (G.1 ci) := by rw [← hrc]; exact hKn.2
  refine hk_after5 (vx_runF (own := y.cls) (C := K) (x := x) (As := As) (rest := st) hat ⟨C.exec, C.bytes, C.maxL, C.own, C.words⟩ hc (va_cwF na C.words (fun w hw => ?_) rfl rfl rfl (C.F.2.2.2.2.2.2.2.2.2.2.2.1 _ hmem) ⟨(hk_fws_mh _ hmem).1, (hk_fws_mh _ hmem).2, l6⟩ hdp) ⟨hk_Pc_blind, hrecv, fun U hU hW => hk_start C hO U hU hW⟩ rfl hna (hl.1.trans hL) rfl (lv_room hrm) hd ⟨Nat.le_trans (Nat.add_le_add_left hkk.1 _) hk, Nat.le_trans (Nat.add_le_add_left hkk.2 _) hn⟩) C hk hn hO hL hl hkk.1 hkk.2 kk kx
  rcases List.mem_append.mp hw with hw | hw
  · simp only [List.mem_cons, List.not_mem_nil, or_false] at hw
    rcases hw with rfl | rfl | rfl | rfl
    · exact hk_all_good _ l1
    · exact hk_all_good _ l2
    · exact hk_all_good _ l3
    · exact hk_all_good _ l4
  · exact hk_good l5 w hw
end HK4

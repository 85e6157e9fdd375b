-- THE LAW'S OWN LAYER: methods with handlers, the script
section HLX
variable {G : hk_G} {l : Launch} {d : Nat} {y : MethodName} {b : ByteArray} {nL : Nat} {ret : Option FieldType} {hh : List (Nat × Nat × Nat × Nat)} {Q : Option Value → hk_H → Prop} {X : String → hk_H → Prop} {k n : Nat} {h : hk_H} {pc pc' : Nat} {lv : List (Option Value)} {st : List Value}
def hl_ws (y : MethodName) (b : ByteArray) (nL : Nat) (ret : Option FieldType) (hh : List (Nat × Nat × Nat × Nat)) : List Cond := .codeWith y b nL ret hh :: hk_all
def hl_Ctr (G : hk_G) (l : Launch) (d : Nat) (y : MethodName) (b : ByteArray) (nL : Nat) (ret : Option FieldType) (hh : List (Nat × Nat × Nat × Nat)) (k n : Nat) (As : List Value) (h : hk_H) (Q : Option Value → hk_H → Prop) (X : String → hk_H → Prop) : Prop :=
  vx_Met l y (hl_ws y b nL ret hh) (hk_rm d k n) (hk_Pc G h As) (hk_Qc G Q) (hk_XC G X) k n (hk_A G)
theorem hl_enter {As : List Value} {lv : List (Option Value)} (hp : plainName y.cls = true) (hfl : l.stackTraces = false) (hlen : (hk_l0 As).length ≤ nL) (hlv : hk_l0 As ++ List.replicate (nL - (hk_l0 As).length) none = lv) (hw : hk_W G l d y b nL ret hh Q X k n h 0 lv []) : hl_Ctr G l d y b nL ret hh k n As h Q X := by
  refine vx_ofWH (cc := b) (maxL := nL) (ret := ret) (hh := hh) hp rfl ?_
  intro p e s m args below meth c s₁ B hml hv
  obtain ⟨rfl, hF, hP, hB⟩ := hv
  have hts := atoms_spec (ws := hl_ws y b nL ret hh) B.pre
  have hl := lv_entry As (n := nL) (by rw [← hk_l0_len]; exact hlen)
  rw [lg_entry_eq]
  have hLv : lv.length = nL := by
    rw [← hlv, List.length_append, List.length_replicate]
    omega
  have ht0 : c.exceptionTable.toList = tableOf hh := vx_table (x := y) B (hts _ List.mem_cons_self)
  refine hw p e s m _ below meth c s.heap [] 0 0 k n _ ⟨B.exec, B.bytes, B.returns, hml, findClass_of_methodNamed B.named, fun w hw => hts w (List.mem_cons_of_mem _ hw), B.notSynchronized, (name_of_methodNamed B.named B.method).1, ht0, hF, hfl, hB⟩ (by omega) (by omega) ⟨hP, va_S.rf⟩ hLv ⟨hl.1.trans hLv.symm, hl.2.1, fun i v hi => ?_⟩
  refine hl.2.2 (i, v) ?_
  have h9 : (hk_l0 As)[i]? = some (some v) := by
    rw [← hlv] at hi
    by_cases hlt : i < (hk_l0 As).length
    · rwa [List.getElem?_append_left hlt] at hi
    · rw [List.getElem?_append_right (by omega), List.getElem?_replicate] at hi
      split at hi <;> cases hi
  have h8 := hk_l0_in As 0 i v h9
  rwa [Nat.zero_add] at h8
def hl_mS (own : String) (idx : Nat) (y' : MethodName) (b' : ByteArray) (nL' : Nat) (ret' : Option FieldType) (hh' : List (Nat × Nat × Nat × Nat)) (na : Nat) : Prop := Cond.methodLink own idx y' ∈ hk_all ∧ Cond.static y' ∈ hk_all ∧ Cond.initialized y'.cls ∈ hk_all ∧ Cond.codeWith y' b' nL' ret' hh' ∈ hk_all ∧ (y'.cls ≠ "java/lang/invoke/MethodHandle" ∧ y'.cls ≠ "java/lang/invoke/VarHandle") ∧ (parseMethodDescriptor y'.desc).map (fun d => d.parameters.length) = some na
theorem hl_callS {y' : MethodName} {b' : ByteArray} {nL' na k' n' d' idx : Nat} {ret' : Option FieldType} {hh' : List (Nat × Nat × Nat × Nat)} {As st0 : List Value} {Q' : Option Value → hk_H → Prop} {X' : String → hk_H → Prop} (hd : decode b pc = .ok (.invokestatic idx, 3)) (hp : pc + 3 = pc') (L : hl_mS y.cls idx y' b' nL' ret' hh' na) (hc : hl_Ctr G l d' y' b' nL' ret' hh' k' n' As h Q' X') (hst : st0 = As.reverse ++ st) (hna : As.length = na) (hdp : d' + 1 ≤ d ∧ 8 + (nL' + 11) + 64 * d' ≤ 64 * d) (hkk : k' ≤ k ∧ n' ≤ n) (hrm : (st.map fun v => v.category).sum ≤ 8)
    (kk : ∀ (r : Option Value) (h' : hk_H), Q' r h' → hk_W G l d y b nL ret hh Q X (k - k') (n - n') h' pc' lv (r.toList ++ st)) (kx : ∀ (E : String) (h' : hk_H), X' E h' → hk_WX G l d y b nL ret hh Q X (k - k') (n - n') h' pc lv st E) : hk_W G l d y b nL ret hh Q X k n h pc lv st0 := by
  subst hp
  subst hst
  intro p e s m args below meth c H locs cells slots mc ms ls C hk hn hO hL hl
  obtain ⟨l1, l2, l4, l5, l6, l7⟩ := L
  refine hk_after (vx_runSX (hh := hh') (own := y.cls) (As := As) (rest := st) ⟨C.exec, C.bytes, C.maxL, C.own, C.words⟩ hc (vx_cwSW na C.words (fun w hw => ?_) rfl rfl rfl ⟨l6.1, l6.2, l7⟩ hdp) ⟨hk_Pc_blind, fun U hU hW => hk_start C hO U hU hW⟩ rfl hna (hl.1.trans hL) rfl (lv_room hrm) hd ⟨Nat.le_trans (Nat.add_le_add_left hkk.1 _) hk, Nat.le_trans (Nat.add_le_add_left hkk.2 _) hn⟩) C hk hn hO hL hl hkk.1 hkk.2 kk kx
  rcases List.mem_append.mp hw with hw | hw
  · simp only [List.mem_cons, List.not_mem_nil, or_false] at hw
    rcases hw with rfl | rfl | rfl
    · exact hk_all_good _ l1
    · exact hk_all_good _ l2
    · exact hk_all_good _ l4
  · rcases List.mem_cons.mp hw with rfl | hw
    · exact hk_all_good _ l5
    · exact hk_all_good _ hw
-- a handler that takes what was thrown, past rows that name other classes
def hl_cv (z : Nat × Nat × Nat × Nat) (pc : Nat) : Bool := decide (z.1 ≤ pc) && decide (pc < z.2.1)
theorem hl_catch {E nm : String} (hy : y.cls = "HarbourmintLaw") (pre : List (Nat × Nat × Nat × Nat)) (x : Nat × Nat × Nat × Nat) (suf : List (Nat × Nat × Nat × Nat)) (hsplit : hh = pre ++ x :: suf) (hpass : ∀ z ∈ pre, z.2.2.2 ≠ 0 ∧ ∃ nm' : String, Cond.classLink "HarbourmintLaw" z.2.2.2 nm' ∈ hk_all ∧ (E, nm') ∈ hk_ncs) (hx : covers ⟨x.1, x.2.1, x.2.2.1, x.2.2.2⟩ pc = true) (h0 : x.2.2.2 ≠ 0) (hlink : Cond.classLink "HarbourmintLaw" x.2.2.2 nm ∈ hk_all) (hcast : Cond.castable E nm ∈ lw_tbl)
    (kk : ∀ q : Nat, hk_W G l d y b nL ret hh Q X k n h x.2.2.1 lv [.ref q]) : hk_WX G l d y b nL ret hh Q X k n h pc lv st E := by
  intro p e s m args below meth c H locs cells slots mc ms ls q ce C hk hn hO hL hl hce hcv hcl
  have hown := C.own
  rw [hy] at hown
  have hJ := C.F.2.2.2.2.2.2
  refine vx_catch hown (tableOf pre) ⟨x.1, x.2.1, x.2.2.1, x.2.2.2⟩ (tableOf suf) (by rw [C.table, hsplit]; simp [tableOf]) (fun z hz => ?_) hx h0 (C.words _ hlink) (hk_Nw_use (by rfl) (C.F.2.2.2.2.2.1 _ hcast rfl)) hce hcv hcl (kk q p e s m args below meth c H locs cells slots mc ms ls C hk hn hO hL hl)
  obtain ⟨z0, hz0, rfl⟩ := List.mem_map.mp hz
  obtain ⟨g1, nm', g2, g3⟩ := hpass z0 hz0
  exact Or.inr ⟨g1, nm', C.words _ g2, hJ.2.2.2.2.2.2.2.2.2.2.2 _ g3⟩
-- a call of the class's own, whose answer and end are known
theorem hl_cl {y' : MethodName} {b' : ByteArray} {nL' na k' n' d' idx : Nat} {A : Nat → Nat} {S S' : hs_S} {ret' : Option FieldType} {As st0 : List Value} {P' : Prop} {PX' : String → Prop} {v : Value} (hA : hs_inj A) (hyc : y'.cls = RX6) (hd : decode b pc = .ok (.invokevirtual idx, 3)) (hp : pc + 3 = pc') (L : hk_mV y.cls idx y' b' nL' ret' na) (hc : hk_Ctr G l d' y' b' nL' ret' k' n' (.ref (A 0) :: As) (hs_ov A S h) (cx_Q A h P' (some v) S') (cx_X A h S PX')) (hst : st0 = As.reverse ++ .ref (A 0) :: st) (hna : As.length = na) (hdp : d' + 1 ≤ d ∧ 8 + (nL' + 11) + 64 * d' ≤ 64 * d) (hkk : k' ≤ k ∧ n' ≤ n) (hrm : (st.map fun v => v.category).sum ≤ 8)
    (kk : P' → hk_W G l d y b nL ret hh Q X (k - k') (n - n') (hs_ov A S' h) pc' lv (v :: st)) (kx : ∀ E : String, PX' E → hk_WX G l d y b nL ret hh Q X (k - k') (n - n') (hs_ov A S h) pc lv st E) : hk_W G l d y b nL ret hh Q X k n (hs_ov A S h) pc lv st0 := by
  refine hk_callV hd hp L hc hst hna (by rw [hs_ov_get hA (by decide)]; rfl) rfl hyc.symm hdp hkk hrm (fun r h' q => ?_) (fun E h' q => ?_)
  · obtain ⟨q1, q2, q3⟩ := q
    subst q2
    subst q3
    exact kk q1
  · obtain ⟨q1, q2⟩ := q
    subst q2
    exact kx E q1
-- the script
theorem hl_slen {a : Nat} (ha : a = hk_K G 1100) (hd : decode b pc = .ok (.arraylength, 1)) (hp : pc + 1 = pc') (kk : hk_W G l d y b nL ret hh Q X k n h pc' lv (.int (nI (hk_K G 1101)) :: st)) : hk_W G l d y b nL ret hh Q X k n h pc lv (.ref a :: st) := by
  subst hp
  subst ha
  intro p e s m args below meth c H locs cells slots mc ms ls C hk hn hO hL hl
  obtain ⟨g1, g2, -⟩ := C.F.2.2.2.2.2.2.2.2.2.2.2.2.2.2
  have e8 : hk_K G 1100 < s.heap.size := by
    obtain ⟨scr, z, -⟩ := g1
    exact (Array.getElem?_eq_some_iff.mp z).1
  exact va_slen C.exec C.bytes g1 e8 g2 hO.2 hd (kk p e s m args below meth c H locs cells slots mc ms ls C hk hn hO hL hl)
theorem hl_sld {a i : Nat} (ha : a = hk_K G 1100) (hi : i < hk_K G 1101) (hd : decode b pc = .ok (.iaload, 1)) (hp : pc + 1 = pc') (hi2 : i < 2 ^ 31) (kk : hk_W G l d y b nL ret hh Q X k n h pc' lv (.int (nI (hk_K G (4000 + i))) :: st)) : hk_W G l d y b nL ret hh Q X k n h pc lv (.int (nI i) :: .ref a :: st) := by
  subst hp
  subst ha
  intro p e s m args below meth c H locs cells slots mc ms ls C hk hn hO hL hl
  obtain ⟨g1, g2, g3, -⟩ := C.F.2.2.2.2.2.2.2.2.2.2.2.2.2.2
  have e8 : hk_K G 1100 < s.heap.size := by
    obtain ⟨scr, z, -⟩ := g1
    exact (Array.getElem?_eq_some_iff.mp z).1
  refine va_sld C.exec C.bytes g1 e8 g2 hO.2 (vp_in_nI hi (by omega)) hd ?_
  rw [nI_clamp hi2]
  exact kk p e s m args below meth c H locs cells slots mc ms ls C hk hn hO hL hl
end HLX
-- TWO WORLDS: the class's cells lie over the reference's
theorem ov_hit {A : Nat → Nat} {S : hs_S} {h : hk_H} {q : Nat} : (∃ i, i < 30 ∧ A i = q) ∨ (∀ i, i < 30 → A i ≠ q) := by
  by_cases z : ∃ i, i < 30 ∧ A i = q
  · exact Or.inl z
  · exact Or.inr (fun i hi e => z ⟨i, hi, e⟩)
theorem ov_ha {D : Nat → Prop} {A Ac : Nat → Nat} {E : Nat → hk_E} {g : hk_H} {S' : hs_S} (hA : hs_inj Ac) (hk : ha_ok D A g) (hd : ∀ i, i < 30 → ha D A E g (Ac i) = none) : hs_ov Ac S' (ha D A E g) = ha D A E (hs_ov Ac S' g) ∧ ha_ok D A (hs_ov Ac S' g) := by
  have hne : ∀ i, i < 30 → ∀ j, D j → A j ≠ Ac i := fun i hi j hj => (ha_none hk.1 (hd i hi)).1 j hj
  refine ⟨funext fun q => ?_, hk.1, fun j hj => ?_⟩
  · by_cases z : ∃ i, i < 30 ∧ Ac i = q
    · obtain ⟨i, hi, rfl⟩ := z
      rw [hs_ov_get hA hi, ha_ne (hne i hi), hs_ov_get hA hi]
    · have z1 : ∀ i, i < 30 → Ac i ≠ q := fun i hi e => z ⟨i, hi, e⟩
      rw [hs_ov_ne z1]
      by_cases w : ∃ j, D j ∧ A j = q
      · obtain ⟨j, hj, rfl⟩ := w
        rw [ha_get hk.1 hj, ha_get hk.1 hj]
      · have w1 : ∀ j, D j → A j ≠ q := fun j hj e => w ⟨j, hj, e⟩
        rw [ha_ne w1, ha_ne w1, hs_ov_ne z1]
  · rw [hs_ov_ne (fun i hi e => hne i hi j hj e.symm)]
    exact hk.2 j hj
noncomputable def hl_cut (Ac : Nat → Nat) (g : hk_H) : hk_H := fun q => by
  classical
  exact if ∃ i, i < 30 ∧ Ac i = q then none else g q
theorem hl_cut_in {Ac : Nat → Nat} {g : hk_H} {i : Nat} (hi : i < 30) : hl_cut Ac g (Ac i) = none := by
  unfold hl_cut
  exact if_pos ⟨i, hi, rfl⟩
theorem hl_cut_ne {Ac : Nat → Nat} {g : hk_H} {q : Nat} (h : ∀ i, i < 30 → Ac i ≠ q) : hl_cut Ac g q = g q := by
  unfold hl_cut
  exact if_neg (fun ⟨i, hi, e⟩ => h i hi e)
theorem hl_cut_ov {Ac : Nat → Nat} {g : hk_H} {S : hs_S} (hA : hs_inj Ac) (hg : ∀ i, i < 30 → g (Ac i) = some (hs_E Ac S i)) : hs_ov Ac S (hl_cut Ac g) = g := by
  funext q
  by_cases z : ∃ i, i < 30 ∧ Ac i = q
  · obtain ⟨i, hi, rfl⟩ := z
    rw [hs_ov_get hA hi, hg i hi]
  · have z1 : ∀ i, i < 30 → Ac i ≠ q := fun i hi e => z ⟨i, hi, e⟩
    rw [hs_ov_ne z1, hl_cut_ne z1]
section HLW
variable {G : hk_G} {m c nc nb : Nat} {thr : Int32} {S S' S2 : hs_S} {Ac : Nat → Nat} {g g1 hm h1 : hk_H}
theorem hl_swap (hA : hs_inj Ac) (hw : hm_Wd G m S c nc nb thr g hm) (hd : ∀ i, i < 30 → hm (Ac i) = none) : hm_Wd G m S c nc nb thr (hs_ov Ac S' g) (hs_ov Ac S' hm) := by
  obtain ⟨A, M, e1, e2, ok, hk, rfl⟩ := hw
  obtain ⟨q1, q2⟩ := ov_ha (S' := S') hA hk hd
  exact ⟨A, M, e1, e2, ok, q2, q1⟩
theorem hl_back (hA : hs_inj Ac) (hw : hm_Wd G m S2 c nc nb thr g1 h1) (hg : ∀ i, i < 30 → g1 (Ac i) = some (hs_E Ac S' i)) : ∃ hm2 : hk_H, hm_Wd G m S2 c nc nb thr (hl_cut Ac g1) hm2 ∧ h1 = hs_ov Ac S' hm2 ∧ ∀ i, i < 30 → hm2 (Ac i) = none := by
  obtain ⟨A, M, e1, e2, ok, hk, rfl⟩ := hw
  have hne : ∀ i, i < 30 → ∀ j, hm_D S2 M j → A j ≠ Ac i := fun i hi j hj e => by
    have := hk.2 j hj
    rw [e, hg i hi] at this
    cases this
  have hk2 : ha_ok (hm_D S2 M) A (hl_cut Ac g1) := ⟨hk.1, fun j hj => by
    rw [hl_cut_ne (fun i hi e => hne i hi j hj e.symm)]
    exact hk.2 j hj⟩
  have hn : ∀ i, i < 30 → hm_h G S2 M A (hl_cut Ac g1) (Ac i) = none := fun i hi => by
    unfold hm_h
    rw [ha_ne (hne i hi), hl_cut_in hi]
  refine ⟨_, ⟨A, M, e1, e2, ok, hk2, rfl⟩, ?_, hn⟩
  have q := (ov_ha (S' := S') hA hk2 hn).1
  rw [hl_cut_ov hA hg] at q
  exact q.symm
theorem hl_out {o : Nat} {x y : hk_E} (hw : hm_Wd G m S c nc nb thr g hm) (ho : g o = some y) : hm_Wd G m S c nc nb thr (hk_set g o x) (hk_set hm o x) ∧ hm o = some y := by
  obtain ⟨A, M, e1, e2, ok, hk, rfl⟩ := hw
  obtain ⟨q1, q2⟩ := hm_sg (x := x) (G := G) hk ho
  exact ⟨⟨A, M, e1, e2, ok, q1, q2⟩, hm_gnd hk ho⟩
theorem hl_ovs {o : Nat} {x : hk_E} (hA : hs_inj Ac) (ho : ∀ i, i < 30 → Ac i ≠ o) : hk_set (hs_ov Ac S hm) o x = hs_ov Ac S (hk_set hm o x) := by
  funext q
  by_cases e : q = o
  · subst e
    rw [hk_set_eq, hs_ov_ne ho, hk_set_eq]
  · rw [hk_set_ne e]
    by_cases z : ∃ i, i < 30 ∧ Ac i = q
    · obtain ⟨i, hi, rfl⟩ := z
      rw [hs_ov_get hA hi, hs_ov_get hA hi]
    · have z1 : ∀ i, i < 30 → Ac i ≠ q := fun i hi e => z ⟨i, hi, e⟩
      rw [hs_ov_ne z1, hs_ov_ne z1, hk_set_ne e]
end HLW
-- what a call through the law's own wrapper answers
def hl_QL (A : Nat → Nat) (S : hs_S) (h : hk_H) (o cd tc : Nat) (S' : hs_S) (res : Int64) (v : Int32) (h1 : hk_H) : Prop := (cd = 0 ∧ v = nI 0 ∧ ∃ f : Nat → Int64, f 0 = res ∧ h1 = hs_ov A S' (hk_set h o (.inl (2, 1, .inr (.inl f))))) ∨ (¬ cd = 0 ∧ v = nI tc ∧ h1 = hs_ov A S h)
def hl_QD (A : Nat → Nat) (S : hs_S) (h : hk_H) (o cd tc : Nat) (S' : hs_S) (res : UInt64) (v : Int32) (h1 : hk_H) : Prop := (cd = 0 ∧ v = nI 0 ∧ ∃ f : Nat → UInt64, f 0 = res ∧ h1 = hs_ov A S' (hk_set h o (.inl (3, 1, .inr (.inr (.inr (.inl f))))))) ∨ (¬ cd = 0 ∧ v = nI tc ∧ h1 = hs_ov A S h)
theorem ls_L_122 : hl_mS RL 122 yL_addHouse cL_addHouse 4 (some .int) [(0, 9, 12, 13), (0, 9, 15, 15)] 3 := ⟨(hk_w (i := 352) (by decide +kernel) (by decide +kernel)), (hk_w (i := 353) (by decide +kernel) (by decide +kernel)), (hk_w (i := 45) (by decide +kernel) (by decide +kernel)), (hk_w (i := 354) (by decide +kernel) (by decide +kernel)), ⟨by decide +kernel, by decide +kernel⟩, by decide +kernel⟩
theorem ls_L_132 : hl_mS RL 132 yL_kindOf cL_kindOf 4 (some .int) [(0, 9, 12, 21)] 3 := ⟨(hk_w (i := 452) (by decide +kernel) (by decide +kernel)), (hk_w (i := 453) (by decide +kernel) (by decide +kernel)), (hk_w (i := 45) (by decide +kernel) (by decide +kernel)), (hk_w (i := 454) (by decide +kernel) (by decide +kernel)), ⟨by decide +kernel, by decide +kernel⟩, by decide +kernel⟩
theorem ls_L_136 : hl_mS RL 136 yL_dig cL_dig 6 (some .int) [(0, 12, 15, 21), (0, 12, 19, 13), (0, 12, 23, 15)] 5 := ⟨(hk_w (i := 504) (by decide +kernel) (by decide +kernel)), (hk_w (i := 505) (by decide +kernel) (by decide +kernel)), (hk_w (i := 45) (by decide +kernel) (by decide +kernel)), (hk_w (i := 506) (by decide +kernel) (by decide +kernel)), ⟨by decide +kernel, by decide +kernel⟩, by decide +kernel⟩
theorem ls_L_140 : hl_mS RL 140 yL_decree cL_decree 6 (some .int) [(0, 12, 15, 13)] 5 := ⟨(hk_w (i := 535) (by decide +kernel) (by decide +kernel)), (hk_w (i := 536) (by decide +kernel) (by decide +kernel)), (hk_w (i := 45) (by decide +kernel) (by decide +kernel)), (hk_w (i := 537) (by decide +kernel) (by decide +kernel)), ⟨by decide +kernel, by decide +kernel⟩, by decide +kernel⟩
theorem ls_L_144 : hl_mS RL 144 yL_mint cL_mint 6 (some .int) [(0, 12, 15, 21), (0, 12, 19, 13), (0, 12, 23, 15), (0, 12, 27, 34)] 5 := ⟨(hk_w (i := 554) (by decide +kernel) (by decide +kernel)), (hk_w (i := 555) (by decide +kernel) (by decide +kernel)), (hk_w (i := 45) (by decide +kernel) (by decide +kernel)), (hk_w (i := 556) (by decide +kernel) (by decide +kernel)), ⟨by decide +kernel, by decide +kernel⟩, by decide +kernel⟩
theorem ls_L_147 : hl_mS RL 147 yL_clip cL_clip 5 (some .int) [(0, 10, 13, 21), (0, 10, 17, 13), (0, 10, 21, 34)] 4 := ⟨(hk_w (i := 600) (by decide +kernel) (by decide +kernel)), (hk_w (i := 601) (by decide +kernel) (by decide +kernel)), (hk_w (i := 45) (by decide +kernel) (by decide +kernel)), (hk_w (i := 602) (by decide +kernel) (by decide +kernel)), ⟨by decide +kernel, by decide +kernel⟩, by decide +kernel⟩
theorem ls_L_151 : hl_mS RL 151 yL_hoard cL_hoard 5 (some .int) [(0, 17, 20, 21), (0, 17, 24, 34)] 4 := ⟨(hk_w (i := 634) (by decide +kernel) (by decide +kernel)), (hk_w (i := 635) (by decide +kernel) (by decide +kernel)), (hk_w (i := 45) (by decide +kernel) (by decide +kernel)), (hk_w (i := 636) (by decide +kernel) (by decide +kernel)), ⟨by decide +kernel, by decide +kernel⟩, by decide +kernel⟩
theorem ls_L_155 : hl_mS RL 155 yL_recoin cL_recoin 5 (some .int) [(0, 10, 13, 21), (0, 10, 17, 13), (0, 10, 21, 15)] 4 := ⟨(hk_w (i := 649) (by decide +kernel) (by decide +kernel)), (hk_w (i := 650) (by decide +kernel) (by decide +kernel)), (hk_w (i := 45) (by decide +kernel) (by decide +kernel)), (hk_w (i := 651) (by decide +kernel) (by decide +kernel)), ⟨by decide +kernel, by decide +kernel⟩, by decide +kernel⟩
theorem ls_L_159 : hl_mS RL 159 yL_pay cL_pay 7 (some .int) [(0, 14, 17, 21), (0, 14, 21, 13), (0, 14, 25, 15), (0, 14, 29, 34)] 6 := ⟨(hk_w (i := 664) (by decide +kernel) (by decide +kernel)), (hk_w (i := 665) (by decide +kernel) (by decide +kernel)), (hk_w (i := 45) (by decide +kernel) (by decide +kernel)), (hk_w (i := 666) (by decide +kernel) (by decide +kernel)), ⟨by decide +kernel, by decide +kernel⟩, by decide +kernel⟩
theorem ls_L_163 : hl_mS RL 163 yL_deposit cL_deposit 7 (some .int) [(0, 14, 17, 21), (0, 14, 21, 13), (0, 14, 25, 15), (0, 14, 29, 34)] 6 := ⟨(hk_w (i := 693) (by decide +kernel) (by decide +kernel)), (hk_w (i := 694) (by decide +kernel) (by decide +kernel)), (hk_w (i := 45) (by decide +kernel) (by decide +kernel)), (hk_w (i := 695) (by decide +kernel) (by decide +kernel)), ⟨by decide +kernel, by decide +kernel⟩, by decide +kernel⟩
theorem ls_L_166 : hl_mS RL 166 yL_withdraw cL_withdraw 7 (some .int) [(0, 14, 17, 21), (0, 14, 21, 13), (0, 14, 25, 15), (0, 14, 29, 34)] 6 := ⟨(hk_w (i := 706) (by decide +kernel) (by decide +kernel)), (hk_w (i := 707) (by decide +kernel) (by decide +kernel)), (hk_w (i := 45) (by decide +kernel) (by decide +kernel)), (hk_w (i := 708) (by decide +kernel) (by decide +kernel)), ⟨by decide +kernel, by decide +kernel⟩, by decide +kernel⟩
theorem ls_L_169 : hl_mS RL 169 yL_lend cL_lend 6 (some .int) [(0, 12, 15, 21), (0, 12, 19, 13), (0, 12, 23, 15)] 5 := ⟨(hk_w (i := 762) (by decide +kernel) (by decide +kernel)), (hk_w (i := 763) (by decide +kernel) (by decide +kernel)), (hk_w (i := 45) (by decide +kernel) (by decide +kernel)), (hk_w (i := 764) (by decide +kernel) (by decide +kernel)), ⟨by decide +kernel, by decide +kernel⟩, by decide +kernel⟩
theorem ls_L_173 : hl_mS RL 173 yL_hand cL_hand 7 (some .int) [(0, 14, 17, 21), (0, 14, 21, 13), (0, 14, 25, 15), (0, 14, 29, 34)] 6 := ⟨(hk_w (i := 769) (by decide +kernel) (by decide +kernel)), (hk_w (i := 770) (by decide +kernel) (by decide +kernel)), (hk_w (i := 45) (by decide +kernel) (by decide +kernel)), (hk_w (i := 771) (by decide +kernel) (by decide +kernel)), ⟨by decide +kernel, by decide +kernel⟩, by decide +kernel⟩
theorem ls_L_177 : hl_mS RL 177 yL_forgive cL_forgive 6 (some .int) [(0, 12, 15, 21), (0, 12, 19, 13), (0, 12, 23, 34)] 5 := ⟨(hk_w (i := 776) (by decide +kernel) (by decide +kernel)), (hk_w (i := 777) (by decide +kernel) (by decide +kernel)), (hk_w (i := 45) (by decide +kernel) (by decide +kernel)), (hk_w (i := 778) (by decide +kernel) (by decide +kernel)), ⟨by decide +kernel, by decide +kernel⟩, by decide +kernel⟩
theorem ls_L_180 : hl_mS RL 180 yL_claim cL_claim 5 (some .int) [(0, 10, 13, 21)] 4 := ⟨(hk_w (i := 783) (by decide +kernel) (by decide +kernel)), (hk_w (i := 784) (by decide +kernel) (by decide +kernel)), (hk_w (i := 45) (by decide +kernel) (by decide +kernel)), (hk_w (i := 785) (by decide +kernel) (by decide +kernel)), ⟨by decide +kernel, by decide +kernel⟩, by decide +kernel⟩
theorem ls_L_183 : hl_mS RL 183 yL_draw cL_draw 7 (some .int) [(0, 14, 17, 21), (0, 14, 21, 13), (0, 14, 25, 15), (0, 14, 29, 34)] 6 := ⟨(hk_w (i := 790) (by decide +kernel) (by decide +kernel)), (hk_w (i := 791) (by decide +kernel) (by decide +kernel)), (hk_w (i := 45) (by decide +kernel) (by decide +kernel)), (hk_w (i := 792) (by decide +kernel) (by decide +kernel)), ⟨by decide +kernel, by decide +kernel⟩, by decide +kernel⟩
theorem ls_L_186 : hl_mS RL 186 yL_endorse cL_endorse 5 (some .int) [(0, 10, 13, 21), (0, 10, 17, 13), (0, 10, 21, 15), (0, 10, 25, 34)] 4 := ⟨(hk_w (i := 802) (by decide +kernel) (by decide +kernel)), (hk_w (i := 803) (by decide +kernel) (by decide +kernel)), (hk_w (i := 45) (by decide +kernel) (by decide +kernel)), (hk_w (i := 804) (by decide +kernel) (by decide +kernel)), ⟨by decide +kernel, by decide +kernel⟩, by decide +kernel⟩
theorem ls_L_189 : hl_mS RL 189 yL_holderOf cL_holderOf 4 (some .int) [(0, 9, 12, 21)] 3 := ⟨(hk_w (i := 824) (by decide +kernel) (by decide +kernel)), (hk_w (i := 825) (by decide +kernel) (by decide +kernel)), (hk_w (i := 45) (by decide +kernel) (by decide +kernel)), (hk_w (i := 826) (by decide +kernel) (by decide +kernel)), ⟨by decide +kernel, by decide +kernel⟩, by decide +kernel⟩
theorem ls_L_196 : hl_mS RL 196 yL_addShare cL_addShare 6 (some .int) [(0, 12, 15, 21), (0, 12, 19, 13), (0, 12, 23, 15)] 5 := ⟨(hk_w (i := 831) (by decide +kernel) (by decide +kernel)), (hk_w (i := 832) (by decide +kernel) (by decide +kernel)), (hk_w (i := 45) (by decide +kernel) (by decide +kernel)), (hk_w (i := 833) (by decide +kernel) (by decide +kernel)), ⟨by decide +kernel, by decide +kernel⟩, by decide +kernel⟩
theorem ls_L_199 : hl_mS RL 199 yL_throwOver cL_throwOver 6 (some .int) [(0, 12, 15, 21), (0, 12, 19, 13), (0, 12, 23, 15), (0, 12, 27, 34)] 5 := ⟨(hk_w (i := 851) (by decide +kernel) (by decide +kernel)), (hk_w (i := 852) (by decide +kernel) (by decide +kernel)), (hk_w (i := 45) (by decide +kernel) (by decide +kernel)), (hk_w (i := 853) (by decide +kernel) (by decide +kernel)), ⟨by decide +kernel, by decide +kernel⟩, by decide +kernel⟩
theorem ls_L_202 : hl_mS RL 202 yL_coins cL_coins 5 (some .int) [(0, 10, 13, 21), (0, 10, 17, 13)] 4 := ⟨(hk_w (i := 880) (by decide +kernel) (by decide +kernel)), (hk_w (i := 881) (by decide +kernel) (by decide +kernel)), (hk_w (i := 45) (by decide +kernel) (by decide +kernel)), (hk_w (i := 882) (by decide +kernel) (by decide +kernel)), ⟨by decide +kernel, by decide +kernel⟩, by decide +kernel⟩
theorem ls_L_205 : hl_mS RL 205 yL_weightOf cL_weightOf 4 (some .int) [(0, 9, 12, 21)] 3 := ⟨(hk_w (i := 891) (by decide +kernel) (by decide +kernel)), (hk_w (i := 892) (by decide +kernel) (by decide +kernel)), (hk_w (i := 45) (by decide +kernel) (by decide +kernel)), (hk_w (i := 893) (by decide +kernel) (by decide +kernel)), ⟨by decide +kernel, by decide +kernel⟩, by decide +kernel⟩
theorem ls_L_208 : hl_mS RL 208 yL_ownerOf cL_ownerOf 4 (some .int) [(0, 9, 12, 21)] 3 := ⟨(hk_w (i := 898) (by decide +kernel) (by decide +kernel)), (hk_w (i := 899) (by decide +kernel) (by decide +kernel)), (hk_w (i := 45) (by decide +kernel) (by decide +kernel)), (hk_w (i := 900) (by decide +kernel) (by decide +kernel)), ⟨by decide +kernel, by decide +kernel⟩, by decide +kernel⟩
theorem ls_L_211 : hl_mS RL 211 yL_owners cL_owners 4 (some .int) [(0, 9, 12, 21)] 3 := ⟨(hk_w (i := 905) (by decide +kernel) (by decide +kernel)), (hk_w (i := 906) (by decide +kernel) (by decide +kernel)), (hk_w (i := 45) (by decide +kernel) (by decide +kernel)), (hk_w (i := 907) (by decide +kernel) (by decide +kernel)), ⟨by decide +kernel, by decide +kernel⟩, by decide +kernel⟩
theorem ls_L_214 : hl_mS RL 214 yL_ore cL_ore 5 (some .int) [(0, 10, 13, 21), (0, 10, 17, 13)] 4 := ⟨(hk_w (i := 916) (by decide +kernel) (by decide +kernel)), (hk_w (i := 917) (by decide +kernel) (by decide +kernel)), (hk_w (i := 45) (by decide +kernel) (by decide +kernel)), (hk_w (i := 918) (by decide +kernel) (by decide +kernel)), ⟨by decide +kernel, by decide +kernel⟩, by decide +kernel⟩
theorem ls_L_217 : hl_mS RL 217 yL_wealth cL_wealth 4 (some .int) [(0, 8, 11, 21)] 3 := ⟨(hk_w (i := 923) (by decide +kernel) (by decide +kernel)), (hk_w (i := 924) (by decide +kernel) (by decide +kernel)), (hk_w (i := 45) (by decide +kernel) (by decide +kernel)), (hk_w (i := 925) (by decide +kernel) (by decide +kernel)), ⟨by decide +kernel, by decide +kernel⟩, by decide +kernel⟩
theorem ls_L_225 : hl_mS RL 225 yL_lightShare cL_lightShare 3 (some .int) [(0, 8, 11, 112)] 2 := ⟨(hk_w (i := 930) (by decide +kernel) (by decide +kernel)), (hk_w (i := 931) (by decide +kernel) (by decide +kernel)), (hk_w (i := 45) (by decide +kernel) (by decide +kernel)), (hk_w (i := 932) (by decide +kernel) (by decide +kernel)), ⟨by decide +kernel, by decide +kernel⟩, by decide +kernel⟩
theorem ls_L_229 : hl_mS RL 229 yL_meanWeight cL_meanWeight 3 (some .int) [(0, 7, 10, 112)] 2 := ⟨(hk_w (i := 966) (by decide +kernel) (by decide +kernel)), (hk_w (i := 967) (by decide +kernel) (by decide +kernel)), (hk_w (i := 45) (by decide +kernel) (by decide +kernel)), (hk_w (i := 968) (by decide +kernel) (by decide +kernel)), ⟨by decide +kernel, by decide +kernel⟩, by decide +kernel⟩
theorem kx_13 : Cond.classLink "HarbourmintLaw" 13 "java/lang/IllegalArgumentException" ∈ hk_all := (hk_w (i := 355) (by decide +kernel) (by decide +kernel))
theorem kc_13 : Cond.castable "java/lang/IllegalArgumentException" "java/lang/IllegalArgumentException" ∈ lw_tbl := (List.mem_of_getElem? (i := 363) (by decide +kernel))
theorem kx_15 : Cond.classLink "HarbourmintLaw" 15 "java/lang/IllegalStateException" ∈ hk_all := (hk_w (i := 356) (by decide +kernel) (by decide +kernel))
theorem kc_15 : Cond.castable "java/lang/IllegalStateException" "java/lang/IllegalStateException" ∈ lw_tbl := (List.mem_of_getElem? (i := 438) (by decide +kernel))
theorem kx_21 : Cond.classLink "HarbourmintLaw" 21 "java/lang/IndexOutOfBoundsException" ∈ hk_all := (hk_w (i := 455) (by decide +kernel) (by decide +kernel))
theorem kc_21 : Cond.castable "java/lang/IndexOutOfBoundsException" "java/lang/IndexOutOfBoundsException" ∈ lw_tbl := (List.mem_of_getElem? (i := 489) (by decide +kernel))
theorem kx_34 : Cond.classLink "HarbourmintLaw" 34 "java/lang/UnsupportedOperationException" ∈ hk_all := (hk_w (i := 557) (by decide +kernel) (by decide +kernel))
theorem kc_34 : Cond.castable "java/lang/UnsupportedOperationException" "java/lang/UnsupportedOperationException" ∈ lw_tbl := (List.mem_of_getElem? (i := 564) (by decide +kernel))
theorem kx_112 : Cond.classLink "HarbourmintLaw" 112 "java/lang/ArithmeticException" ∈ hk_all := (hk_w (i := 933) (by decide +kernel) (by decide +kernel))
theorem kc_112 : Cond.castable "java/lang/ArithmeticException" "java/lang/ArithmeticException" ∈ lw_tbl := (List.mem_of_getElem? (i := 945) (by decide +kernel))
-- which numbers a call's outcome may have
def hl_in (L : List Nat) (k : Nat) : Prop := k = 0 ∨ k ∈ L
theorem in_sq {L : List Nat} {a b : Nat} (ha : hl_in L a) (hb : hl_in L b) : hl_in L (cs_sq a b) := by
  unfold cs_sq
  split
  · exact hb
  · exact ha
theorem in_H {L : List Nat} {c : Nat} {v : Int32} (h : 1 ∈ L) : hl_in L (cd_H c v) := by
  by_cases e : cd_H c v = 0
  · exact Or.inl e
  · rw [cd_H_1 e]; exact Or.inr h
theorem in_M {L : List Nat} {v : Int32} (h : 2 ∈ L) : hl_in L (cd_M v) := by
  by_cases e : cd_M v = 0
  · exact Or.inl e
  · rw [cd_M_2 e]; exact Or.inr h
theorem in_R {L : List Nat} {v : Int32} {k : Nat} (h : 2 ∈ L) : hl_in L (cd_R v k) := by
  by_cases e : cd_R v k = 0
  · exact Or.inl e
  · rw [cd_R_2 e]; exact Or.inr h
theorem in_O {L : List Nat} {S : hs_S} {a : Nat} (h : 3 ∈ L) : hl_in L (cd_O S a) := by
  by_cases e : cd_O S a = 0
  · exact Or.inl e
  · rw [cd_O_3 e]; exact Or.inr h
theorem in_if {L : List Nat} {p : Prop} {dp : Decidable p} {a b : Nat} (ha : hl_in L a) (hb : hl_in L b) : hl_in L (if p then a else b) := by
  split
  · exact ha
  · exact hb
theorem in_0 {L : List Nat} : hl_in L 0 := Or.inl rfl
theorem in_m {L : List Nat} {k : Nat} (h : k ∈ L) : hl_in L k := Or.inr h
theorem in_S {L : List Nat} {S : hs_S} {v : Nat} (h : 3 ∈ L) : ∀ n, hl_in L (cd_S S v n)
  | 0 => Or.inl rfl
  | n + 1 => in_sq (in_S h n) (in_if in_0 (in_O h))
theorem ml_tr_0 {L : List Nat} : ml_tr L 0 = 0 := rfl

section CM9
variable {G : hk_G} {l : Launch} {S : hs_S} {M : hm_M} {A : Nat → Nat} {c nc nb : Nat} {g h : hk_H}
-- a list of coins that lies in the ground
def hf_G (G : hk_G) (A : Nat → Nat) (g g2 : hk_H) (fl : Nat) (L : List Nat) : Prop := hm_x g g2 ∧ g fl = none ∧ ∃ (mc : Int32) (ed cap : Nat) (f : Nat → Option Nat), hk_al G g2 fl mc ed L.length cap f ∧ (∀ i, i < L.length → f i = some (A (100 + L.getD i 0))) ∧ (cap = 0 ∨ g ed = none)
def hf_st (S : hs_S) (a m K w j : Nat) (L : List Nat) : List Nat := if S.1 15 j = nI a then (if S.1 13 j = nI m then (if S.1 17 j = 0 then (if S.1 14 j = nI w then (if K ≤ L.length then L else L ++ [j]) else L) else L) else L) else L
def hf_in (S : hs_S) (a m K w : Nat) (L : List Nat) (n : Nat) : List Nat := cx_it (hf_st S a m K w) L n
theorem hf_in_s (S : hs_S) (a m K w : Nat) (L : List Nat) (j : Nat) : hf_in S a m K w L (j + 1) = hf_st S a m K w j (hf_in S a m K w L j) := rfl
def hf_ou (S : hs_S) (a m K nc : Nat) (W : Nat) : List Nat := cx_it (fun i L => hf_in S a m K (i + 1) L nc) [] W
theorem hf_ou_s (S : hs_S) (a m K nc i : Nat) : hf_ou S a m K nc (i + 1) = hf_in S a m K (i + 1) (hf_ou S a m K nc i) nc := rfl
theorem hf_st_le {S : hs_S} {a m K w j : Nat} {L : List Nat} (h : L.length ≤ K) : (hf_st S a m K w j L).length ≤ K := by
  unfold hf_st
  split <;> try exact h
  split <;> try exact h
  split <;> try exact h
  split <;> try exact h
  split
  · exact h
  · simp; omega
theorem hf_in_le {S : hs_S} {a m K w : Nat} {L : List Nat} (h : L.length ≤ K) : ∀ n, (hf_in S a m K w L n).length ≤ K
  | 0 => h
  | n + 1 => hf_st_le (hf_in_le h n)
theorem hf_ou_le {S : hs_S} {a m K nc : Nat} : ∀ n, (hf_ou S a m K nc n).length ≤ K
  | 0 => Nat.zero_le _
  | n + 1 => hf_in_le (hf_ou_le n) nc
theorem hf_st_lt {S : hs_S} {a m K w j nc : Nat} {L : List Nat} (h : ∀ x ∈ L, x < nc) (hj : j < nc) : ∀ x ∈ hf_st S a m K w j L, x < nc := by
  unfold hf_st
  split <;> try exact h
  split <;> try exact h
  split <;> try exact h
  split <;> try exact h
  split
  · exact h
  · intro x hx
    rcases List.mem_append.mp hx with q | q
    · exact h x q
    · rw [List.mem_singleton.mp q]; exact hj
theorem hf_in_lt {S : hs_S} {a m K w nc : Nat} {L : List Nat} (h : ∀ x ∈ L, x < nc) : ∀ n, n ≤ nc → ∀ x ∈ hf_in S a m K w L n, x < nc
  | 0, _ => h
  | n + 1, hn => hf_st_lt (hf_in_lt h n (by omega)) (by omega)
theorem hf_ou_lt {S : hs_S} {a m K nc : Nat} : ∀ n, ∀ x ∈ hf_ou S a m K nc n, x < nc
  | 0 => fun x hx => nomatch hx
  | n + 1 => hf_in_lt (hf_ou_lt n) nc (Nat.le_refl _)
theorem hf_set {g g2 : hk_H} {fl q : Nat} {L : List Nat} {x : hk_E} (hG : hf_G G A g g2 fl L) (hq : g2 q = none) : hf_G G A g (hk_set g2 q x) fl L := by
  obtain ⟨h1, h2, mc, ed, cap, f, ⟨h3, h4, h5, h6⟩, h7, h8⟩ := hG
  refine ⟨h1.tr (hm_x.nw hq), h2, mc, ed, cap, f, ⟨?_, h4, h5, ?_⟩, h7, h8⟩
  · rw [hk_set_ne (fun e => by rw [e, hq] at h3; cases h3)]; exact h3
  · rcases h6 with ⟨h6, h9⟩ | h6
    · exact Or.inl ⟨by rw [hk_set_ne (fun e => by rw [e, hq] at h6; cases h6)]; exact h6, h9⟩
    · exact Or.inr h6
-- the list's facts in a heap over the ground
theorem hf_al {D : Nat → Prop} {E : Nat → hk_E} {g2 : hk_H} {fl n cap ed : Nat} {mc : Int32} {f : Nat → Option Nat} (hk : ha_ok D A g2) (h : hk_al G g2 fl mc ed n cap f) : hk_al G (ha D A E g2) fl mc ed n cap f :=
  ⟨ha_gnd hk h.1, h.2.1, h.2.2.1, h.2.2.2.elim (fun q => Or.inl ⟨ha_gnd hk q.1, q.2⟩) Or.inr⟩
theorem hf_alS {g2 : hk_H} {fl n cap ed q : Nat} {mc : Int32} {f : Nat → Option Nat} {x : hk_E} (h : hk_al G g2 fl mc ed n cap f) (hq : g2 q = none) : hk_al G (hk_set g2 q x) fl mc ed n cap f := by
  obtain ⟨h3, h4, h5, h6⟩ := h
  refine ⟨by rw [hk_set_ne (fun e => by rw [e, hq] at h3; cases h3)]; exact h3, h4, h5, ?_⟩
  rcases h6 with ⟨h6, h9⟩ | h6
  · exact Or.inl ⟨by rw [hk_set_ne (fun e => by rw [e, hq] at h6; cases h6)]; exact h6, h9⟩
  · exact Or.inr h6
theorem hf_gd {L : List Nat} {i nc : Nat} (h : ∀ x ∈ L, x < nc) (hi : i < L.length) : L.getD i 0 < nc := by
  rw [List.getD_eq_getElem?_getD, List.getElem?_eq_getElem hi]
  exact h _ (List.getElem_mem hi)
-- a coin more at the end of the list, the iterator's cell beside it
theorem hf_add {g g2 : hk_H} {fl it j ed cap : Nat} {mc : Int32} {f : Nat → Option Nat} {L : List Nat} {x : hk_E} {h1 : hk_H} (hx : hm_x g g2) (hfl0 : g fl = none) (hal : hk_al G g2 fl mc ed L.length cap f) (hf : ∀ i, i < L.length → f i = some (A (100 + L.getD i 0))) (hed : cap = 0 ∨ g ed = none) (hit : g2 it = none) (hk : ∀ x, ha_ok (hm_D S M) A (hk_set g2 it x)) (hL : L.length < 150)
    (hgr : hk_grown (hm_h G S M A (hk_set g2 it x)) fl mc ed L.length cap f (A (100 + j)) h1) :
    ∃ g3 : hk_H, hf_G G A g g3 fl (L ++ [j]) ∧ g3 it = none ∧ (∀ x, ha_ok (hm_D S M) A (hk_set g3 it x)) ∧ h1 = hm_h G S M A (hk_set g3 it x) := by
  obtain ⟨h3, h4, h5, h6⟩ := hal
  have hflit : fl ≠ it := fun e => by rw [e, hit] at h3; cases h3
  have git : g it = none := by
    cases e : g it with
    | none => rfl
    | some y => rw [hx it y e] at hit; cases hit
  obtain ⟨e1, cap1, f1, r1, r2, r3, r4, r5, r6⟩ := hgr
  have he1 : e1 ≠ it ∧ e1 ≠ fl ∧ g e1 = none ∧ ((∃ y, (hk_set g2 it x) e1 = some y) ∨ hm_h G S M A (hk_set g2 it x) e1 = none) := by
    rcases r2 with ⟨p1, p2, p3⟩ | ⟨p1, p2⟩
    · subst p1
      obtain ⟨h6, h9⟩ := h6.resolve_right (fun q => by omega)
      have n1 : e1 ≠ it := fun e => by rw [e, hit] at h6; cases h6
      refine ⟨n1, fun e => (by rw [e, h3] at h6; cases h6), hed.resolve_left (by omega), Or.inl ⟨_, by rw [hk_set_ne n1]; exact h6⟩⟩
    · have n1 : e1 ≠ it := fun e => by rw [e, hm_gnd (hk x) hk_set_eq] at p1; cases p1
      have n2 : e1 ≠ fl := fun e => by rw [e, hm_gnd (hk x) ((hk_set_ne hflit).trans h3)] at p1; cases p1
      have n3 := (ha_none (hk x).1 p1).2
      rw [hk_set_ne n1] at n3
      refine ⟨n1, n2, ?_, Or.inr p1⟩
      cases e : g e1 with
      | none => rfl
      | some y => rw [hx e1 y e] at n3; cases n3
  obtain ⟨n1, n2, n3, n4⟩ := he1
  have hk2 : ha_ok (hm_D S M) A (hk_set (hk_set g2 it x) e1 (.inl (5, cap1, .inr (.inr (.inr (.inr f1)))))) ∧ hk_set (hm_h G S M A (hk_set g2 it x)) e1 (.inl (5, cap1, .inr (.inr (.inr (.inr f1))))) = hm_h G S M A (hk_set (hk_set g2 it x) e1 (.inl (5, cap1, .inr (.inr (.inr (.inr f1)))))) := by
    rcases n4 with ⟨y, n4⟩ | n4
    · exact hm_sg (hk x) n4
    · exact ⟨(hm_okg (hk x) n4).1, (hm_okg (hk x) n4).2.1⟩
  have hk3 := hm_sg (x := .inr (6, [.int (mc + nI 1), .ref e1, .int (nI (L.length + 1))])) (G := G) (S := S) (M := M) hk2.1 (by rw [hk_set_ne n2.symm, hk_set_ne hflit]; exact h3)
  have hcm : hk_set (hk_set (hk_set g2 it x) e1 (.inl (5, cap1, .inr (.inr (.inr (.inr f1)))))) fl (.inr (6, [.int (mc + nI 1), .ref e1, .int (nI (L.length + 1))])) = hk_set (hk_set (hk_set g2 e1 (.inl (5, cap1, .inr (.inr (.inr (.inr f1)))))) fl (.inr (6, [.int (mc + nI 1), .ref e1, .int (nI (L.length + 1))]))) it x := by
    rw [hk_set_comm n1.symm, hk_set_comm hflit.symm]
  refine ⟨hk_set (hk_set g2 e1 (.inl (5, cap1, .inr (.inr (.inr (.inr f1)))))) fl (.inr (6, [.int (mc + nI 1), .ref e1, .int (nI (L.length + 1))])), ⟨?_, hfl0, mc + nI 1, e1, cap1, f1, ⟨?_, ?_, ?_, Or.inl ⟨?_, ?_⟩⟩, ?_, Or.inr n3⟩, ?_, ?_, ?_⟩
  · intro q y hy
    rw [hk_set_ne (fun e => by rw [e, hfl0] at hy; cases hy), hk_set_ne (fun e => by rw [e, n3] at hy; cases hy)]
    exact hx q y hy
  · rw [List.length_append]; exact hk_set_eq
  · rw [List.length_append]; exact r3
  · rcases r2 with ⟨p1, p2, p3⟩ | ⟨p1, p2⟩ <;> omega
  · rw [hk_set_ne n2]; exact hk_set_eq
  · omega
  · intro i hi
    rw [List.length_append] at hi
    have hi2 : i < L.length + 1 := hi
    by_cases z : i = L.length
    · rw [z, r6]
      simp
    · rw [r5 i (by omega), hf i (by omega)]
      rw [List.getD_eq_getElem?_getD, List.getD_eq_getElem?_getD, List.getElem?_append_left (by omega)]
  · rw [hk_set_ne hflit.symm, hk_set_ne n1.symm]; exact hit
  · have := hk3.1
    rw [hcm] at this
    intro y
    refine ⟨this.1, fun i hi => ?_⟩
    have h0 := this.2 i hi
    have hne : A i ≠ it := fun e => by rw [e, hk_set_eq] at h0; cases h0
    rw [hk_set_ne hne] at h0 ⊢
    exact h0
  · rw [r1, hk2.2, hk3.2, hcm]
theorem cm_lightest {a m K : Nat} (hfl : l.stackTraces = false) (hk : ha_ok (hm_D S M) A g) (ok : hm_ok G S M A c nc nb) (ha : a < 6) (hm : m < 2) (hK : K ≤ 90) : hk_Ctr G l 8 yX9_lightest cX9_lightest 8 (some (.object "java/util/List")) (K + 10) (hm_bd K + 39) [.ref (A 0), .int (nI a), .int (nI m), .int (nI K)] (hm_h G S M A g) (hk_qo fun rv h1 => ∃ (fl : Nat) (g2 : hk_H), h1 = hm_h G S M A g2 ∧ ha_ok (hm_D S M) A g2 ∧ hf_G G A g g2 fl (hf_ou S a m K nc 9) ∧ rv = (if K ≤ (hf_ou S a m K nc 9).length then some fl else none)) hk_no := by
  have hnc := ok.2.1.2
  have hnb := ok.2.2.1.2
  refine hk_enter (by decide) hfl (Nat.le_of_ble_eq_true rfl) rfl ?_
  refine hk_new dX9_lightest_0 rfl nw_X9_13 ⟨by omega, by omega⟩ (fun fl hfl0 => ?_)
  obtain ⟨hk5, e5, x5⟩ := hm_okg (x := .inr (6, [.int 0, .null, .int 0])) hk hfl0
  refine hx_cg e5 ?_
  refine hk_dup dX9_lightest_3 rfl rfl ?_
  refine hk_callI dX9_lightest_4 rfl mi_X9_15 (cj_alinit hfl (hm_gnd hk5 hk_set_eq)) rfl rfl (by decide) ⟨by omega, by omega⟩ (Nat.le_of_ble_eq_true rfl) (hk_kv fun h1 q1 => ?_) hk_nx
  subst q1
  obtain ⟨hk7, e7⟩ := hm_sg (x := .inr (6, [.int 0, .ref (hk_K G 1001), .int (nI 0)])) hk5 (hk_set_eq (a := fl))
  rw [hk_set_set] at hk7 e7
  refine hx_cg e7 ?_
  have gfl : g fl = none := (ha_none hk.1 hfl0).2
  have hG7 : hf_G G A g (hk_set g fl (.inr (6, [.int 0, .ref (hk_K G 1001), .int (nI 0)]))) fl (hf_ou S a m K nc 0) := ⟨hm_x.nw gfl, gfl, 0, hk_K G 1001, 0, fun _ => none, ⟨hk_set_eq, Nat.le_refl _, by omega, Or.inr ⟨rfl, rfl⟩⟩, fun i hi => absurd hi (Nat.not_lt_zero i), Or.inl rfl⟩
  refine hk_astore dX9_lightest_7 rfl (by decide) rfl ?_
  refine hk_iconst (v := nI 1) dX9_lightest_9 rfl (by decide) ?_
  refine hk_istore dX9_lightest_10 rfl (by decide) rfl ?_
  have lp12 : ∀ f i : Nat, i ≤ 9 → 9 - i < f → ∀ (g2 : hk_H) (lvE lvF : Option Value), ha_ok (hm_D S M) A g2 → hf_G G A g g2 fl (hf_ou S a m K nc i) → hk_W G l 8 yX9_lightest cX9_lightest 8 (some (.object "java/util/List")) [] (hk_qo fun rv h1 => ∃ (fl : Nat) (g2 : hk_H), h1 = hm_h G S M A g2 ∧ ha_ok (hm_D S M) A g2 ∧ hf_G G A g g2 fl (hf_ou S a m K nc 9) ∧ rv = (if K ≤ (hf_ou S a m K nc 9).length then some fl else none)) hk_no ((K - (hf_ou S a m K nc i).length) + (9 - i)) (hm_bd K - hm_bd (hf_ou S a m K nc i).length + 4 * (9 - i)) (hm_h G S M A g2) 12 [some (.ref (A 0)), some (.int (nI a)), some (.int (nI m)), some (.int (nI K)), some (.ref fl), some (.int (nI (i + 1))), lvE, lvF] [] := by
    intro f
    induction f with
    | zero => intro i hi hf; exact absurd hf (by omega)
    | succ f ih9 =>
      intro i hi hf9 g2 lvE lvF hkg hG
      have hL9 := hf_ou_le (S := S) (a := a) (m := m) (K := K) (nc := nc) i
      refine hk_iload dX9_lightest_12 rfl rfl ?_
      refine hk_bipush (v := nI 10) dX9_lightest_14 rfl (by decide) ?_
      refine cx_icmp_ge (tgt := 118) (by omega) (by omega) dX9_lightest_16 (by decide) rfl (fun z16 => ?_) (fun z16 => ?_)
      · skip
        have ei : i = 9 := (by omega)
        subst ei
        refine hk_aload dX9_lightest_118 rfl rfl ?_
        obtain ⟨hx3, gfl3, mc, ed, cap, f9, hal, hff, hed⟩ := id hG
        have hal2 : hk_al G (hm_h G S M A g2) fl mc ed _ cap f9 := hf_al hkg hal
        refine hk_callF dX9_lightest_120 rfl mf_X9_56 (cj_size hfl hal2.1) rfl rfl hal2.1 rfl rfl (by decide) ⟨Nat.zero_le _, Nat.zero_le _⟩ (Nat.le_of_ble_eq_true rfl) (hk_ki fun y1 h1 q1 => ?_) hk_nx
        obtain ⟨rfl, rfl⟩ := q1
        refine hk_iload_n dX9_lightest_125 rfl rfl rfl ?_
        refine cx_icmp_ge (tgt := 133) (by omega) (by omega) dX9_lightest_126 (by decide) rfl (fun z126 => ?_) (fun z126 => ?_)
        · skip
          refine hk_aload dX9_lightest_133 rfl rfl ?_
          exact hk_areturn rfl (Or.inl ⟨_, rfl⟩) ((by first | exact Or.inl rfl | exact Or.inr ⟨_, rfl⟩)) dX9_lightest_135 (by first | exact ⟨none, rfl, fl, g2, rfl, hkg, hG, (if_neg (by omega)).symm⟩ | exact ⟨some fl, rfl, fl, g2, rfl, hkg, hG, (if_pos (by omega)).symm⟩)
        · skip
          refine hk_null dX9_lightest_129 rfl ?_
          refine hk_goto (tgt := 135) dX9_lightest_130 (by decide) ?_
          exact hk_areturn rfl (Or.inl ⟨_, rfl⟩) ((by first | exact Or.inl rfl | exact Or.inr ⟨_, rfl⟩)) dX9_lightest_135 (by first | exact ⟨none, rfl, fl, g2, rfl, hkg, hG, (if_neg (by omega)).symm⟩ | exact ⟨some fl, rfl, fl, g2, rfl, hkg, hG, (if_pos (by omega)).symm⟩)
      · skip
        refine hk_aload_n dX9_lightest_19 rfl rfl rfl ?_
        refine hk_getf dX9_lightest_20 rfl fl_X9_32 (hm_g0 hkg) rfl ?_
        refine hk_callF dX9_lightest_23 rfl mf_X9_122 (cj_iter hfl (hm_l1 hkg ok)) rfl rfl (hm_l1 hkg ok) rfl rfl (by decide) ⟨by omega, by omega⟩ (Nat.le_of_ble_eq_true rfl) (hk_kr fun it h1 q1 => ?_) hk_nx
        obtain ⟨hit, rfl⟩ := q1
        have hkI := fun x => (hm_okg (x := x) hkg hit).1
        have hit0 : g2 it = none := (ha_none hkg.1 hit).2
        refine hx_cg (hm_okg hkg hit).2.1 ?_
        refine hk_astore dX9_lightest_28 rfl (by decide) rfl ?_
        have lp30 : ∀ f j : Nat, ∀ lr : Int32, ∀ (g3 : hk_H) (lvF : Option Value), j ≤ nc → nc - j < f → g3 it = none → (∀ x, ha_ok (hm_D S M) A (hk_set g3 it x)) → hf_G G A g g3 fl (hf_in S a m K (i + 1) (hf_ou S a m K nc i) j) → hk_W G l 8 yX9_lightest cX9_lightest 8 (some (.object "java/util/List")) [] (hk_qo fun rv h1 => ∃ (fl : Nat) (g2 : hk_H), h1 = hm_h G S M A g2 ∧ ha_ok (hm_D S M) A g2 ∧ hf_G G A g g2 fl (hf_ou S a m K nc 9) ∧ rv = (if K ≤ (hf_ou S a m K nc 9).length then some fl else none)) hk_no ((K - (hf_in S a m K (i + 1) (hf_ou S a m K nc i) j).length) + (8 - i)) (hm_bd K - hm_bd (hf_in S a m K (i + 1) (hf_ou S a m K nc i) j).length + 4 * (8 - i)) (hm_h G S M A (hk_set g3 it (hm_it M A j lr))) 30 [some (.ref (A 0)), some (.int (nI a)), some (.int (nI m)), some (.int (nI K)), some (.ref fl), some (.int (nI (i + 1))), some (.ref it), lvF] [] := by
          intro f
          induction f with
          | zero => intro j lr g3 lvF hj hf; exact absurd hf (by omega)
          | succ f ih =>
            intro j lr g3 lvF hj hf hit3 hkI3 hG3
            have hL3 : (hf_in S a m K (i + 1) (hf_ou S a m K nc i) j).length ≤ K := hf_in_le hL9 j
            refine hk_aload dX9_lightest_30 rfl rfl ?_
            refine hk_callF dX9_lightest_32 rfl mf_X9_126 (cj_hasNext hfl (hm_gnd (hkI3 _) hk_set_eq) (hm_l1 (hkI3 _) ok) hj (by omega)) rfl rfl (hm_gnd (hkI3 _) hk_set_eq) rfl rfl (by decide) ⟨Nat.zero_le _, Nat.zero_le _⟩ (Nat.le_of_ble_eq_true rfl) (hk_ki fun v h1 q => ?_) hk_nx
            obtain ⟨rfl, rfl⟩ := q
            refine cx_ifb_eq (tgt := 112) dX9_lightest_37 (by decide) rfl (fun z37 => ?_) (fun z37 => ?_)
            · skip
              have ej : j = nc := (by have := of_decide_eq_false z37; omega)
              have ho : hf_ou S a m K nc (i + 1) = hf_in S a m K (i + 1) (hf_ou S a m K nc i) j := (by rw [hf_ou_s, ej])
              refine hk_iinc dX9_lightest_112 rfl rfl (nI_1 _) (by decide) rfl ?_
              refine hk_goto (tgt := 12) dX9_lightest_115 (by decide) ?_
              refine hk_bud (by rw [ho]; omega) (by rw [ho]; omega) (ih9 (i + 1) (by omega) (by omega) (hk_set g3 it (hm_it M A j lr)) _ _ (hkI3 _) (by rw [ho]; exact hf_set hG3 hit3))
            · skip
              refine hk_aload dX9_lightest_40 rfl rfl ?_
              have hjn : j < nc := of_decide_eq_true z37
              have hgj := hm_c1g (j := j) ok hjn
              refine hk_callF dX9_lightest_42 rfl mf_X9_132 (cj_next hfl (hm_gnd (hkI3 _) hk_set_eq) (hm_l1 (hkI3 _) ok) (hm_r (i := 1) (hkI3 _) ok (by omega) hgj.1) hjn (by rw [← hm_n1 ok]; exact (hm_cap ok hgj.1).1) (Nat.lt_of_le_of_lt (hm_cap ok hgj.1).2.2 (by decide)) hgj.2) rfl rfl (hm_gnd (hkI3 _) hk_set_eq) rfl rfl (by decide) ⟨Nat.zero_le _, Nat.zero_le _⟩ (Nat.le_of_ble_eq_true rfl) (hk_kr fun v h1 q => ?_) hk_nx
              obtain ⟨rfl, rfl⟩ := q
              refine hx_cg (hm_sgI (hkI3 _)) ?_
              refine hk_castO dX9_lightest_47 rfl (hm_coi (hkI3 _) ok (by omega)) rfl kl_X9_94 ?_
              refine hk_astore dX9_lightest_50 rfl (by decide) rfl ?_
              refine hk_aload dX9_lightest_52 rfl rfl ?_
              refine hk_getf dX9_lightest_54 rfl fl_X9_112 (hm_coi (hkI3 _) ok (by omega)) rfl ?_
              refine hk_iload_n dX9_lightest_57 rfl rfl rfl ?_
              refine hk_icmp_ne (tgt := 109) dX9_lightest_58 (by decide) rfl (fun z58 => ?_) (fun z58 => ?_)
              · skip
                refine hk_goto (tgt := 30) dX9_lightest_109 (by decide) ?_
                first | (have hs : hf_in S a m K (i + 1) (hf_ou S a m K nc i) (j + 1) = hf_in S a m K (i + 1) (hf_ou S a m K nc i) j := (by rw [hf_in_s]; unfold hf_st; rw [if_neg z58]); refine hk_bud (by rw [hs]; exact Nat.le_refl _) (by rw [hs]; exact Nat.le_refl _) (ih (j + 1) (nI j) g3 _ (by omega) (by omega) hit3 hkI3 (by rw [hs]; exact hG3))) | (have hs : hf_in S a m K (i + 1) (hf_ou S a m K nc i) (j + 1) = hf_in S a m K (i + 1) (hf_ou S a m K nc i) j := (by rw [hf_in_s]; unfold hf_st; rw [if_pos z58, if_neg z67]); refine hk_bud (by rw [hs]; exact Nat.le_refl _) (by rw [hs]; exact Nat.le_refl _) (ih (j + 1) (nI j) g3 _ (by omega) (by omega) hit3 hkI3 (by rw [hs]; exact hG3))) | (have hs : hf_in S a m K (i + 1) (hf_ou S a m K nc i) (j + 1) = hf_in S a m K (i + 1) (hf_ou S a m K nc i) j := (by rw [hf_in_s]; unfold hf_st; rw [if_pos z58, if_pos z67, if_neg z75]); refine hk_bud (by rw [hs]; exact Nat.le_refl _) (by rw [hs]; exact Nat.le_refl _) (ih (j + 1) (nI j) g3 _ (by omega) (by omega) hit3 hkI3 (by rw [hs]; exact hG3))) | (have hs : hf_in S a m K (i + 1) (hf_ou S a m K nc i) (j + 1) = hf_in S a m K (i + 1) (hf_ou S a m K nc i) j := (by rw [hf_in_s]; unfold hf_st; rw [if_pos z58, if_pos z67, if_pos z75, if_neg z85]); refine hk_bud (by rw [hs]; exact Nat.le_refl _) (by rw [hs]; exact Nat.le_refl _) (ih (j + 1) (nI j) g3 _ (by omega) (by omega) hit3 hkI3 (by rw [hs]; exact hG3))) | (have hs : hf_in S a m K (i + 1) (hf_ou S a m K nc i) (j + 1) = hf_in S a m K (i + 1) (hf_ou S a m K nc i) j := (by rw [hf_in_s]; unfold hf_st; rw [if_pos z58, if_pos z67, if_pos z75, if_pos z85, if_pos z96]); refine hk_bud (by rw [hs]; exact Nat.le_refl _) (by rw [hs]; exact Nat.le_refl _) (ih (j + 1) (nI j) g3 _ (by omega) (by omega) hit3 hkI3 (by rw [hs]; exact hG3))) | (have hs4 : hf_in S a m K (i + 1) (hf_ou S a m K nc i) (j + 1) = hf_in S a m K (i + 1) (hf_ou S a m K nc i) j ++ [j] := (by rw [hf_in_s]; unfold hf_st; rw [if_pos z58, if_pos z67, if_pos z75, if_pos z85, if_neg z96]); have hl4 : (hf_in S a m K (i + 1) (hf_ou S a m K nc i) (j + 1)).length = (hf_in S a m K (i + 1) (hf_ou S a m K nc i) j).length + 1 := (by rw [hs4, List.length_append]; rfl); refine hk_bud (by rw [hl4]; omega) (by rw [hl4, hm_bd_s]; rw [hm_bd_s] at hb1; omega) (ih (j + 1) (nI j) g4 _ (by omega) (by omega) hit4 hkI4 (by rw [hs4]; exact hG4)))
              · skip
                refine hk_aload dX9_lightest_61 rfl rfl ?_
                refine hk_getf dX9_lightest_63 rfl fl_X9_115 (hm_coi (hkI3 _) ok (by omega)) rfl ?_
                refine hk_iload_n dX9_lightest_66 rfl rfl rfl ?_
                refine hk_icmp_ne (tgt := 109) dX9_lightest_67 (by decide) rfl (fun z67 => ?_) (fun z67 => ?_)
                · skip
                  refine hk_goto (tgt := 30) dX9_lightest_109 (by decide) ?_
                  first | (have hs : hf_in S a m K (i + 1) (hf_ou S a m K nc i) (j + 1) = hf_in S a m K (i + 1) (hf_ou S a m K nc i) j := (by rw [hf_in_s]; unfold hf_st; rw [if_neg z58]); refine hk_bud (by rw [hs]; exact Nat.le_refl _) (by rw [hs]; exact Nat.le_refl _) (ih (j + 1) (nI j) g3 _ (by omega) (by omega) hit3 hkI3 (by rw [hs]; exact hG3))) | (have hs : hf_in S a m K (i + 1) (hf_ou S a m K nc i) (j + 1) = hf_in S a m K (i + 1) (hf_ou S a m K nc i) j := (by rw [hf_in_s]; unfold hf_st; rw [if_pos z58, if_neg z67]); refine hk_bud (by rw [hs]; exact Nat.le_refl _) (by rw [hs]; exact Nat.le_refl _) (ih (j + 1) (nI j) g3 _ (by omega) (by omega) hit3 hkI3 (by rw [hs]; exact hG3))) | (have hs : hf_in S a m K (i + 1) (hf_ou S a m K nc i) (j + 1) = hf_in S a m K (i + 1) (hf_ou S a m K nc i) j := (by rw [hf_in_s]; unfold hf_st; rw [if_pos z58, if_pos z67, if_neg z75]); refine hk_bud (by rw [hs]; exact Nat.le_refl _) (by rw [hs]; exact Nat.le_refl _) (ih (j + 1) (nI j) g3 _ (by omega) (by omega) hit3 hkI3 (by rw [hs]; exact hG3))) | (have hs : hf_in S a m K (i + 1) (hf_ou S a m K nc i) (j + 1) = hf_in S a m K (i + 1) (hf_ou S a m K nc i) j := (by rw [hf_in_s]; unfold hf_st; rw [if_pos z58, if_pos z67, if_pos z75, if_neg z85]); refine hk_bud (by rw [hs]; exact Nat.le_refl _) (by rw [hs]; exact Nat.le_refl _) (ih (j + 1) (nI j) g3 _ (by omega) (by omega) hit3 hkI3 (by rw [hs]; exact hG3))) | (have hs : hf_in S a m K (i + 1) (hf_ou S a m K nc i) (j + 1) = hf_in S a m K (i + 1) (hf_ou S a m K nc i) j := (by rw [hf_in_s]; unfold hf_st; rw [if_pos z58, if_pos z67, if_pos z75, if_pos z85, if_pos z96]); refine hk_bud (by rw [hs]; exact Nat.le_refl _) (by rw [hs]; exact Nat.le_refl _) (ih (j + 1) (nI j) g3 _ (by omega) (by omega) hit3 hkI3 (by rw [hs]; exact hG3))) | (have hs4 : hf_in S a m K (i + 1) (hf_ou S a m K nc i) (j + 1) = hf_in S a m K (i + 1) (hf_ou S a m K nc i) j ++ [j] := (by rw [hf_in_s]; unfold hf_st; rw [if_pos z58, if_pos z67, if_pos z75, if_pos z85, if_neg z96]); have hl4 : (hf_in S a m K (i + 1) (hf_ou S a m K nc i) (j + 1)).length = (hf_in S a m K (i + 1) (hf_ou S a m K nc i) j).length + 1 := (by rw [hs4, List.length_append]; rfl); refine hk_bud (by rw [hl4]; omega) (by rw [hl4, hm_bd_s]; rw [hm_bd_s] at hb1; omega) (ih (j + 1) (nI j) g4 _ (by omega) (by omega) hit4 hkI4 (by rw [hs4]; exact hG4)))
                · skip
                  refine hk_aload dX9_lightest_70 rfl rfl ?_
                  refine hk_getf dX9_lightest_72 rfl fl_X9_118 (hm_coi (hkI3 _) ok (by omega)) rfl ?_
                  refine hk_if_ne (tgt := 109) dX9_lightest_75 (by decide) rfl (fun z75 => ?_) (fun z75 => ?_)
                  · skip
                    refine hk_goto (tgt := 30) dX9_lightest_109 (by decide) ?_
                    first | (have hs : hf_in S a m K (i + 1) (hf_ou S a m K nc i) (j + 1) = hf_in S a m K (i + 1) (hf_ou S a m K nc i) j := (by rw [hf_in_s]; unfold hf_st; rw [if_neg z58]); refine hk_bud (by rw [hs]; exact Nat.le_refl _) (by rw [hs]; exact Nat.le_refl _) (ih (j + 1) (nI j) g3 _ (by omega) (by omega) hit3 hkI3 (by rw [hs]; exact hG3))) | (have hs : hf_in S a m K (i + 1) (hf_ou S a m K nc i) (j + 1) = hf_in S a m K (i + 1) (hf_ou S a m K nc i) j := (by rw [hf_in_s]; unfold hf_st; rw [if_pos z58, if_neg z67]); refine hk_bud (by rw [hs]; exact Nat.le_refl _) (by rw [hs]; exact Nat.le_refl _) (ih (j + 1) (nI j) g3 _ (by omega) (by omega) hit3 hkI3 (by rw [hs]; exact hG3))) | (have hs : hf_in S a m K (i + 1) (hf_ou S a m K nc i) (j + 1) = hf_in S a m K (i + 1) (hf_ou S a m K nc i) j := (by rw [hf_in_s]; unfold hf_st; rw [if_pos z58, if_pos z67, if_neg z75]); refine hk_bud (by rw [hs]; exact Nat.le_refl _) (by rw [hs]; exact Nat.le_refl _) (ih (j + 1) (nI j) g3 _ (by omega) (by omega) hit3 hkI3 (by rw [hs]; exact hG3))) | (have hs : hf_in S a m K (i + 1) (hf_ou S a m K nc i) (j + 1) = hf_in S a m K (i + 1) (hf_ou S a m K nc i) j := (by rw [hf_in_s]; unfold hf_st; rw [if_pos z58, if_pos z67, if_pos z75, if_neg z85]); refine hk_bud (by rw [hs]; exact Nat.le_refl _) (by rw [hs]; exact Nat.le_refl _) (ih (j + 1) (nI j) g3 _ (by omega) (by omega) hit3 hkI3 (by rw [hs]; exact hG3))) | (have hs : hf_in S a m K (i + 1) (hf_ou S a m K nc i) (j + 1) = hf_in S a m K (i + 1) (hf_ou S a m K nc i) j := (by rw [hf_in_s]; unfold hf_st; rw [if_pos z58, if_pos z67, if_pos z75, if_pos z85, if_pos z96]); refine hk_bud (by rw [hs]; exact Nat.le_refl _) (by rw [hs]; exact Nat.le_refl _) (ih (j + 1) (nI j) g3 _ (by omega) (by omega) hit3 hkI3 (by rw [hs]; exact hG3))) | (have hs4 : hf_in S a m K (i + 1) (hf_ou S a m K nc i) (j + 1) = hf_in S a m K (i + 1) (hf_ou S a m K nc i) j ++ [j] := (by rw [hf_in_s]; unfold hf_st; rw [if_pos z58, if_pos z67, if_pos z75, if_pos z85, if_neg z96]); have hl4 : (hf_in S a m K (i + 1) (hf_ou S a m K nc i) (j + 1)).length = (hf_in S a m K (i + 1) (hf_ou S a m K nc i) j).length + 1 := (by rw [hs4, List.length_append]; rfl); refine hk_bud (by rw [hl4]; omega) (by rw [hl4, hm_bd_s]; rw [hm_bd_s] at hb1; omega) (ih (j + 1) (nI j) g4 _ (by omega) (by omega) hit4 hkI4 (by rw [hs4]; exact hG4)))
                  · skip
                    refine hk_aload dX9_lightest_78 rfl rfl ?_
                    refine hk_getf dX9_lightest_80 rfl fl_X9_103 (hm_coi (hkI3 _) ok (by omega)) rfl ?_
                    refine hk_iload dX9_lightest_83 rfl rfl ?_
                    refine hk_icmp_ne (tgt := 109) dX9_lightest_85 (by decide) rfl (fun z85 => ?_) (fun z85 => ?_)
                    · skip
                      refine hk_goto (tgt := 30) dX9_lightest_109 (by decide) ?_
                      first | (have hs : hf_in S a m K (i + 1) (hf_ou S a m K nc i) (j + 1) = hf_in S a m K (i + 1) (hf_ou S a m K nc i) j := (by rw [hf_in_s]; unfold hf_st; rw [if_neg z58]); refine hk_bud (by rw [hs]; exact Nat.le_refl _) (by rw [hs]; exact Nat.le_refl _) (ih (j + 1) (nI j) g3 _ (by omega) (by omega) hit3 hkI3 (by rw [hs]; exact hG3))) | (have hs : hf_in S a m K (i + 1) (hf_ou S a m K nc i) (j + 1) = hf_in S a m K (i + 1) (hf_ou S a m K nc i) j := (by rw [hf_in_s]; unfold hf_st; rw [if_pos z58, if_neg z67]); refine hk_bud (by rw [hs]; exact Nat.le_refl _) (by rw [hs]; exact Nat.le_refl _) (ih (j + 1) (nI j) g3 _ (by omega) (by omega) hit3 hkI3 (by rw [hs]; exact hG3))) | (have hs : hf_in S a m K (i + 1) (hf_ou S a m K nc i) (j + 1) = hf_in S a m K (i + 1) (hf_ou S a m K nc i) j := (by rw [hf_in_s]; unfold hf_st; rw [if_pos z58, if_pos z67, if_neg z75]); refine hk_bud (by rw [hs]; exact Nat.le_refl _) (by rw [hs]; exact Nat.le_refl _) (ih (j + 1) (nI j) g3 _ (by omega) (by omega) hit3 hkI3 (by rw [hs]; exact hG3))) | (have hs : hf_in S a m K (i + 1) (hf_ou S a m K nc i) (j + 1) = hf_in S a m K (i + 1) (hf_ou S a m K nc i) j := (by rw [hf_in_s]; unfold hf_st; rw [if_pos z58, if_pos z67, if_pos z75, if_neg z85]); refine hk_bud (by rw [hs]; exact Nat.le_refl _) (by rw [hs]; exact Nat.le_refl _) (ih (j + 1) (nI j) g3 _ (by omega) (by omega) hit3 hkI3 (by rw [hs]; exact hG3))) | (have hs : hf_in S a m K (i + 1) (hf_ou S a m K nc i) (j + 1) = hf_in S a m K (i + 1) (hf_ou S a m K nc i) j := (by rw [hf_in_s]; unfold hf_st; rw [if_pos z58, if_pos z67, if_pos z75, if_pos z85, if_pos z96]); refine hk_bud (by rw [hs]; exact Nat.le_refl _) (by rw [hs]; exact Nat.le_refl _) (ih (j + 1) (nI j) g3 _ (by omega) (by omega) hit3 hkI3 (by rw [hs]; exact hG3))) | (have hs4 : hf_in S a m K (i + 1) (hf_ou S a m K nc i) (j + 1) = hf_in S a m K (i + 1) (hf_ou S a m K nc i) j ++ [j] := (by rw [hf_in_s]; unfold hf_st; rw [if_pos z58, if_pos z67, if_pos z75, if_pos z85, if_neg z96]); have hl4 : (hf_in S a m K (i + 1) (hf_ou S a m K nc i) (j + 1)).length = (hf_in S a m K (i + 1) (hf_ou S a m K nc i) j).length + 1 := (by rw [hs4, List.length_append]; rfl); refine hk_bud (by rw [hl4]; omega) (by rw [hl4, hm_bd_s]; rw [hm_bd_s] at hb1; omega) (ih (j + 1) (nI j) g4 _ (by omega) (by omega) hit4 hkI4 (by rw [hs4]; exact hG4)))
                    · skip
                      refine hk_aload dX9_lightest_88 rfl rfl ?_
                      obtain ⟨hx3, gfl3, mc, ed, cap, f9, hal, hff, hed⟩ := id hG3
                      have hal2 : hk_al G (hm_h G S M A (hk_set g3 it (hm_it M A (j + 1) (nI j)))) fl mc ed _ cap f9 := hf_al (hkI3 _) (hf_alS hal hit3)
                      refine hk_callF dX9_lightest_90 rfl mf_X9_56 (cj_size hfl hal2.1) rfl rfl hal2.1 rfl rfl (by decide) ⟨Nat.zero_le _, Nat.zero_le _⟩ (Nat.le_of_ble_eq_true rfl) (hk_ki fun y1 h1 q1 => ?_) hk_nx
                      obtain ⟨rfl, rfl⟩ := q1
                      refine hk_iload_n dX9_lightest_95 rfl rfl rfl ?_
                      refine cx_icmp_ge (tgt := 109) (by omega) (by omega) dX9_lightest_96 (by decide) rfl (fun z96 => ?_) (fun z96 => ?_)
                      · skip
                        refine hk_goto (tgt := 30) dX9_lightest_109 (by decide) ?_
                        first | (have hs : hf_in S a m K (i + 1) (hf_ou S a m K nc i) (j + 1) = hf_in S a m K (i + 1) (hf_ou S a m K nc i) j := (by rw [hf_in_s]; unfold hf_st; rw [if_neg z58]); refine hk_bud (by rw [hs]; exact Nat.le_refl _) (by rw [hs]; exact Nat.le_refl _) (ih (j + 1) (nI j) g3 _ (by omega) (by omega) hit3 hkI3 (by rw [hs]; exact hG3))) | (have hs : hf_in S a m K (i + 1) (hf_ou S a m K nc i) (j + 1) = hf_in S a m K (i + 1) (hf_ou S a m K nc i) j := (by rw [hf_in_s]; unfold hf_st; rw [if_pos z58, if_neg z67]); refine hk_bud (by rw [hs]; exact Nat.le_refl _) (by rw [hs]; exact Nat.le_refl _) (ih (j + 1) (nI j) g3 _ (by omega) (by omega) hit3 hkI3 (by rw [hs]; exact hG3))) | (have hs : hf_in S a m K (i + 1) (hf_ou S a m K nc i) (j + 1) = hf_in S a m K (i + 1) (hf_ou S a m K nc i) j := (by rw [hf_in_s]; unfold hf_st; rw [if_pos z58, if_pos z67, if_neg z75]); refine hk_bud (by rw [hs]; exact Nat.le_refl _) (by rw [hs]; exact Nat.le_refl _) (ih (j + 1) (nI j) g3 _ (by omega) (by omega) hit3 hkI3 (by rw [hs]; exact hG3))) | (have hs : hf_in S a m K (i + 1) (hf_ou S a m K nc i) (j + 1) = hf_in S a m K (i + 1) (hf_ou S a m K nc i) j := (by rw [hf_in_s]; unfold hf_st; rw [if_pos z58, if_pos z67, if_pos z75, if_neg z85]); refine hk_bud (by rw [hs]; exact Nat.le_refl _) (by rw [hs]; exact Nat.le_refl _) (ih (j + 1) (nI j) g3 _ (by omega) (by omega) hit3 hkI3 (by rw [hs]; exact hG3))) | (have hs : hf_in S a m K (i + 1) (hf_ou S a m K nc i) (j + 1) = hf_in S a m K (i + 1) (hf_ou S a m K nc i) j := (by rw [hf_in_s]; unfold hf_st; rw [if_pos z58, if_pos z67, if_pos z75, if_pos z85, if_pos z96]); refine hk_bud (by rw [hs]; exact Nat.le_refl _) (by rw [hs]; exact Nat.le_refl _) (ih (j + 1) (nI j) g3 _ (by omega) (by omega) hit3 hkI3 (by rw [hs]; exact hG3))) | (have hs4 : hf_in S a m K (i + 1) (hf_ou S a m K nc i) (j + 1) = hf_in S a m K (i + 1) (hf_ou S a m K nc i) j ++ [j] := (by rw [hf_in_s]; unfold hf_st; rw [if_pos z58, if_pos z67, if_pos z75, if_pos z85, if_neg z96]); have hl4 : (hf_in S a m K (i + 1) (hf_ou S a m K nc i) (j + 1)).length = (hf_in S a m K (i + 1) (hf_ou S a m K nc i) j).length + 1 := (by rw [hs4, List.length_append]; rfl); refine hk_bud (by rw [hl4]; omega) (by rw [hl4, hm_bd_s]; rw [hm_bd_s] at hb1; omega) (ih (j + 1) (nI j) g4 _ (by omega) (by omega) hit4 hkI4 (by rw [hs4]; exact hG4)))
                      · skip
                        refine hk_aload dX9_lightest_99 rfl rfl ?_
                        refine hk_aload dX9_lightest_101 rfl rfl ?_
                        have hb1 := hm_bd_le ((hf_in S a m K (i + 1) (hf_ou S a m K nc i) j).length + 1) (K - ((hf_in S a m K (i + 1) (hf_ou S a m K nc i) j).length + 1))
                        rw [show (hf_in S a m K (i + 1) (hf_ou S a m K nc i) j).length + 1 + (K - ((hf_in S a m K (i + 1) (hf_ou S a m K nc i) j).length + 1)) = K by omega] at hb1
                        have hb2 := hm_bd_s (hf_in S a m K (i + 1) (hf_ou S a m K nc i) j).length
                        have hLl := hf_in_lt (S := S) (a := a) (m := m) (K := K) (w := i + 1) (hf_ou_lt (S := S) (a := a) (m := m) (K := K) (nc := nc) i) j hj
                        refine hk_callF dX9_lightest_103 rfl mf_X9_50 (cj_add hfl hal2 (fun i9 v9 hi9 hv9 => by rw [hff i9 hi9] at hv9; cases hv9; exact Or.inr (Or.inr ⟨15, _, hm_coi (hkI3 _) ok (hf_gd hLl hi9), Or.inr rfl⟩)) (Or.inr (Or.inr ⟨15, _, hm_coi (hkI3 _) ok hjn, Or.inr rfl⟩))) rfl rfl hal2.1 rfl rfl (by decide) ⟨by omega, by omega⟩ (Nat.le_of_ble_eq_true rfl) (hk_ki fun y1 h1 q1 => ?_) hk_nx
                        obtain ⟨rfl, hgr⟩ := q1
                        obtain ⟨g4, hG4, hit4, hkI4, rfl⟩ := hf_add hx3 gfl3 hal hff hed hit3 hkI3 (by omega) hgr
                        refine hk_pop dX9_lightest_108 rfl rfl ?_
                        refine hk_goto (tgt := 30) dX9_lightest_109 (by decide) ?_
                        first | (have hs : hf_in S a m K (i + 1) (hf_ou S a m K nc i) (j + 1) = hf_in S a m K (i + 1) (hf_ou S a m K nc i) j := (by rw [hf_in_s]; unfold hf_st; rw [if_neg z58]); refine hk_bud (by rw [hs]; exact Nat.le_refl _) (by rw [hs]; exact Nat.le_refl _) (ih (j + 1) (nI j) g3 _ (by omega) (by omega) hit3 hkI3 (by rw [hs]; exact hG3))) | (have hs : hf_in S a m K (i + 1) (hf_ou S a m K nc i) (j + 1) = hf_in S a m K (i + 1) (hf_ou S a m K nc i) j := (by rw [hf_in_s]; unfold hf_st; rw [if_pos z58, if_neg z67]); refine hk_bud (by rw [hs]; exact Nat.le_refl _) (by rw [hs]; exact Nat.le_refl _) (ih (j + 1) (nI j) g3 _ (by omega) (by omega) hit3 hkI3 (by rw [hs]; exact hG3))) | (have hs : hf_in S a m K (i + 1) (hf_ou S a m K nc i) (j + 1) = hf_in S a m K (i + 1) (hf_ou S a m K nc i) j := (by rw [hf_in_s]; unfold hf_st; rw [if_pos z58, if_pos z67, if_neg z75]); refine hk_bud (by rw [hs]; exact Nat.le_refl _) (by rw [hs]; exact Nat.le_refl _) (ih (j + 1) (nI j) g3 _ (by omega) (by omega) hit3 hkI3 (by rw [hs]; exact hG3))) | (have hs : hf_in S a m K (i + 1) (hf_ou S a m K nc i) (j + 1) = hf_in S a m K (i + 1) (hf_ou S a m K nc i) j := (by rw [hf_in_s]; unfold hf_st; rw [if_pos z58, if_pos z67, if_pos z75, if_neg z85]); refine hk_bud (by rw [hs]; exact Nat.le_refl _) (by rw [hs]; exact Nat.le_refl _) (ih (j + 1) (nI j) g3 _ (by omega) (by omega) hit3 hkI3 (by rw [hs]; exact hG3))) | (have hs : hf_in S a m K (i + 1) (hf_ou S a m K nc i) (j + 1) = hf_in S a m K (i + 1) (hf_ou S a m K nc i) j := (by rw [hf_in_s]; unfold hf_st; rw [if_pos z58, if_pos z67, if_pos z75, if_pos z85, if_pos z96]); refine hk_bud (by rw [hs]; exact Nat.le_refl _) (by rw [hs]; exact Nat.le_refl _) (ih (j + 1) (nI j) g3 _ (by omega) (by omega) hit3 hkI3 (by rw [hs]; exact hG3))) | (have hs4 : hf_in S a m K (i + 1) (hf_ou S a m K nc i) (j + 1) = hf_in S a m K (i + 1) (hf_ou S a m K nc i) j ++ [j] := (by rw [hf_in_s]; unfold hf_st; rw [if_pos z58, if_pos z67, if_pos z75, if_pos z85, if_neg z96]); have hl4 : (hf_in S a m K (i + 1) (hf_ou S a m K nc i) (j + 1)).length = (hf_in S a m K (i + 1) (hf_ou S a m K nc i) j).length + 1 := (by rw [hs4, List.length_append]; rfl); refine hk_bud (by rw [hl4]; omega) (by rw [hl4, hm_bd_s]; rw [hm_bd_s] at hb1; omega) (ih (j + 1) (nI j) g4 _ (by omega) (by omega) hit4 hkI4 (by rw [hs4]; exact hG4)))
        refine hk_bud (by show _ ≤ _; rw [show hf_in S a m K (i + 1) (hf_ou S a m K nc i) 0 = hf_ou S a m K nc i from rfl]; omega) (by show _ ≤ _; rw [show hf_in S a m K (i + 1) (hf_ou S a m K nc i) 0 = hf_ou S a m K nc i from rfl]; omega) (lp30 (nc + 1) 0 (-1) g2 _ (by omega) (by omega) hit0 hkI hG)
  refine hk_bud (by rw [show hf_ou S a m K nc 0 = [] from rfl]; exact Nat.le_refl _) (by rw [show hf_ou S a m K nc 0 = [] from rfl]; exact Nat.le_refl _) (lp12 10 0 (by omega) (by omega) _ none none hk7 hG7)
end CM9

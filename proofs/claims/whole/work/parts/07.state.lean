-- THE CLASS'S STATE: a memory of ints (row i: array number i; rows 30..33: the scalars) and a long
abbrev hs_S : Type := (Nat → Nat → Int32) × Int64
def hs_len (i : Nat) : Nat := match i with
  | 7 => 6
  | 8 => 6
  | 9 => 2
  | 10 => 2
  | 11 => 2
  | 12 => 12
  | 13 => 90
  | 14 => 90
  | 15 => 90
  | 16 => 90
  | 17 => 90
  | 18 => 90
  | 19 => 36
  | 20 => 12
  | 21 => 12
  | 22 => 12
  | 23 => 12
  | 24 => 12
  | 25 => 60
  | 26 => 12
  | 27 => 24
  | 28 => 6
  | 29 => 6
  | _ => 0
def hs_tag (i : Nat) : Nat := match i with
  | 7 => 4
  | 8 => 1
  | 17 => 1
  | _ => 0
def hs_E (A : Nat → Nat) (S : hs_S) (i : Nat) : hk_E := match i with
  | 0 => .inr (13, [.ref (A 1), .ref (A 2), .ref (A 3), .ref (A 4), .ref (A 5), .ref (A 6), .long S.2])
  | 1 => .inr (10, [.ref (A 7), .ref (A 8), .int (S.1 30 0)])
  | 2 => .inr (11, [.ref (A 9), .ref (A 10), .ref (A 11), .ref (A 12)])
  | 3 => .inr (9, [.ref (A 13), .ref (A 14), .ref (A 15), .ref (A 16), .ref (A 17), .ref (A 18), .int (S.1 31 0)])
  | 4 => .inr (8, [.ref (A 19)])
  | 5 => .inr (7, [.ref (A 20), .ref (A 21), .ref (A 22), .ref (A 23), .ref (A 24), .ref (A 25), .ref (A 26), .int (S.1 32 0), .int (S.1 33 0)])
  | 6 => .inr (12, [.ref (A 27), .ref (A 28), .ref (A 29)])
  | i => .inl (hs_tag i, hs_len i, .inl (S.1 i))
def hs_ov (A : Nat → Nat) (S : hs_S) (h : hk_H) : hk_H := fun q => match (List.range 30).find? (fun i => A i == q) with
  | some i => some (hs_E A S i)
  | none => h q
def hs_inj (A : Nat → Nat) : Prop := ∀ i j : Nat, i < 30 → j < 30 → A i = A j → i = j
theorem hs_find {A : Nat → Nat} (hA : hs_inj A) {i : Nat} (hi : i < 30) : (List.range 30).find? (fun k => A k == A i) = some i := by
  cases hf : (List.range 30).find? (fun k => A k == A i) with
  | none =>
    have := List.find?_eq_none.mp hf i (List.mem_range.mpr hi)
    simp at this
  | some k =>
    have h1 := List.find?_some hf
    have h2 := List.mem_range.mp (List.mem_of_find?_eq_some hf)
    simp only [beq_iff_eq] at h1
    rw [hA k i h2 hi h1]
theorem hs_ov_get {A : Nat → Nat} {S : hs_S} {h : hk_H} (hA : hs_inj A) {i : Nat} (hi : i < 30) : hs_ov A S h (A i) = some (hs_E A S i) := by
  unfold hs_ov
  rw [hs_find hA hi]
theorem hs_ov_ne {A : Nat → Nat} {S : hs_S} {h : hk_H} {q : Nat} (hq : ∀ i : Nat, i < 30 → A i ≠ q) : hs_ov A S h q = h q := by
  unfold hs_ov
  have : (List.range 30).find? (fun i => A i == q) = none := List.find?_eq_none.mpr (fun i hi => by simp [hq i (List.mem_range.mp hi)])
  rw [this]
theorem hs_ov_set {A : Nat → Nat} {S S' : hs_S} {h : hk_H} {i : Nat} {x : hk_E} (hA : hs_inj A) (hi : i < 30) (hx : hs_E A S' i = x) (ho : ∀ j : Nat, j < 30 → j ≠ i → hs_E A S' j = hs_E A S j) : hk_set (hs_ov A S h) (A i) x = hs_ov A S' h := by
  funext q
  by_cases hq : ∃ j : Nat, j < 30 ∧ A j = q
  · obtain ⟨j, hj, rfl⟩ := hq
    rw [hs_ov_get hA hj]
    by_cases e : j = i
    · subst e
      rw [hk_set_eq, hx]
    · rw [hk_set_ne (fun z => e (hA j i hj hi z)), hs_ov_get hA hj, ho j hj e]
  · have hq' : ∀ j : Nat, j < 30 → A j ≠ q := fun j hj z => hq ⟨j, hj, z⟩
    rw [hk_set_ne (fun z => hq' i hi z.symm), hs_ov_ne hq', hs_ov_ne hq']
def hs_su (S : hs_S) (i j : Nat) (v : Int32) : hs_S := (fun a => if a = i then upd (S.1 i) j v else S.1 a, S.2)
def hs_sl (S : hs_S) (v : Int64) : hs_S := (S.1, v)
theorem hs_su_eq (S : hs_S) (i j : Nat) (v : Int32) : (hs_su S i j v).1 i = upd (S.1 i) j v := by simp [hs_su]
theorem hs_su_ne (S : hs_S) {i a : Nat} (j : Nat) (v : Int32) (ha : a ≠ i) : (hs_su S i j v).1 a = S.1 a := by simp [hs_su, ha]
theorem hs_E_arr (A : Nat → Nat) (S : hs_S) {i : Nat} (hi : 7 ≤ i) : hs_E A S i = .inl (hs_tag i, hs_len i, .inl (S.1 i)) := by
  match i, hi with
  | n + 7, _ => rfl
theorem hs_E_su {A : Nat → Nat} {S : hs_S} {i j k : Nat} {v : Int32} (hi : 7 ≤ i) (hi2 : i < 30) (hk : k ≠ i) : hs_E A (hs_su S i j v) k = hs_E A S k := by
  have h30 : (hs_su S i j v).1 30 0 = S.1 30 0 := by rw [hs_su_ne S j v (by omega)]
  have h31 : (hs_su S i j v).1 31 0 = S.1 31 0 := by rw [hs_su_ne S j v (by omega)]
  have h32 : (hs_su S i j v).1 32 0 = S.1 32 0 := by rw [hs_su_ne S j v (by omega)]
  have h33 : (hs_su S i j v).1 33 0 = S.1 33 0 := by rw [hs_su_ne S j v (by omega)]
  match k, hk with
  | 0, _ => rfl
  | 1, _ => simp only [hs_E, h30]
  | 2, _ => rfl
  | 3, _ => simp only [hs_E, h31]
  | 4, _ => rfl
  | 5, _ => simp only [hs_E, h32, h33]
  | 6, _ => rfl
  | n + 7, hk => rw [hs_E_arr A _ (by omega), hs_E_arr A _ (by omega), hs_su_ne S j v hk]
theorem hs_ov_arr {A : Nat → Nat} {S : hs_S} {h : hk_H} {i j : Nat} {v : Int32} (hA : hs_inj A) (h1 : 7 ≤ i) (h2 : i < 30) : hk_set (hs_ov A S h) (A i) (.inl (hs_tag i, hs_len i, .inl (upd (S.1 i) j v))) = hs_ov A (hs_su S i j v) h :=
  hs_ov_set hA h2 (by rw [hs_E_arr A _ h1, hs_su_eq]) (fun k _ hk => hs_E_su h1 h2 hk)
theorem hs_sc30 {A : Nat → Nat} {S : hs_S} {v : Int32} (j : Nat) (hj : j < 30) : hs_E A (hs_su S 30 0 v) j = if j = 1 then .inr (10, [.ref (A 7), .ref (A 8), .int (S.1 30 0)].set 2 (.int v)) else hs_E A S j := by
  match j, hj with
  | 0, _ => rfl
  | 1, _ => rfl
  | 2, _ => rfl
  | 3, _ => rfl
  | 4, _ => rfl
  | 5, _ => rfl
  | 6, _ => rfl
  | n + 7, hj => rw [if_neg (by omega), hs_E_arr A _ (by omega), hs_E_arr A _ (by omega), hs_su_ne S 0 v (by omega)]
theorem hs_sc31 {A : Nat → Nat} {S : hs_S} {v : Int32} (j : Nat) (hj : j < 30) : hs_E A (hs_su S 31 0 v) j = if j = 3 then .inr (9, [.ref (A 13), .ref (A 14), .ref (A 15), .ref (A 16), .ref (A 17), .ref (A 18), .int (S.1 31 0)].set 6 (.int v)) else hs_E A S j := by
  match j, hj with
  | 0, _ => rfl
  | 1, _ => rfl
  | 2, _ => rfl
  | 3, _ => rfl
  | 4, _ => rfl
  | 5, _ => rfl
  | 6, _ => rfl
  | n + 7, hj => rw [if_neg (by omega), hs_E_arr A _ (by omega), hs_E_arr A _ (by omega), hs_su_ne S 0 v (by omega)]
theorem hs_sc32 {A : Nat → Nat} {S : hs_S} {v : Int32} (j : Nat) (hj : j < 30) : hs_E A (hs_su S 32 0 v) j = if j = 5 then .inr (7, [.ref (A 20), .ref (A 21), .ref (A 22), .ref (A 23), .ref (A 24), .ref (A 25), .ref (A 26), .int (S.1 32 0), .int (S.1 33 0)].set 7 (.int v)) else hs_E A S j := by
  match j, hj with
  | 0, _ => rfl
  | 1, _ => rfl
  | 2, _ => rfl
  | 3, _ => rfl
  | 4, _ => rfl
  | 5, _ => rfl
  | 6, _ => rfl
  | n + 7, hj => rw [if_neg (by omega), hs_E_arr A _ (by omega), hs_E_arr A _ (by omega), hs_su_ne S 0 v (by omega)]
theorem hs_sc33 {A : Nat → Nat} {S : hs_S} {v : Int32} (j : Nat) (hj : j < 30) : hs_E A (hs_su S 33 0 v) j = if j = 5 then .inr (7, [.ref (A 20), .ref (A 21), .ref (A 22), .ref (A 23), .ref (A 24), .ref (A 25), .ref (A 26), .int (S.1 32 0), .int (S.1 33 0)].set 8 (.int v)) else hs_E A S j := by
  match j, hj with
  | 0, _ => rfl
  | 1, _ => rfl
  | 2, _ => rfl
  | 3, _ => rfl
  | 4, _ => rfl
  | 5, _ => rfl
  | 6, _ => rfl
  | n + 7, hj => rw [if_neg (by omega), hs_E_arr A _ (by omega), hs_E_arr A _ (by omega), hs_su_ne S 0 v (by omega)]
theorem hs_scL {A : Nat → Nat} {S : hs_S} {v : Int64} (j : Nat) (hj : j < 30) : hs_E A (hs_sl S v) j = if j = 0 then .inr (13, [.ref (A 1), .ref (A 2), .ref (A 3), .ref (A 4), .ref (A 5), .ref (A 6), .long S.2].set 6 (.long v)) else hs_E A S j := by
  match j, hj with
  | 0, _ => rfl
  | 1, _ => rfl
  | 2, _ => rfl
  | 3, _ => rfl
  | 4, _ => rfl
  | 5, _ => rfl
  | 6, _ => rfl
  | n + 7, hj => rfl
section CX
variable {G : hk_G} {l : Launch} {d : Nat} {y : MethodName} {b : ByteArray} {nL : Nat} {ret : Option FieldType} {hh : List (Nat × Nat × Nat × Nat)} {Q : Option Value → hk_H → Prop} {X : String → hk_H → Prop} {k n : Nat} {h h' : hk_H} {pc pc' : Nat} {lv lv' : List (Option Value)} {st : List Value} {A : Nat → Nat} {S S' : hs_S}
theorem cx_top {v v' : Int32} (e : v = v') (kk : hk_W G l d y b nL ret hh Q X k n h pc lv (.int v' :: st)) : hk_W G l d y b nL ret hh Q X k n h pc lv (.int v :: st) := by subst e; exact kk
theorem cx_topl {v v' : Int64} (e : v = v') (kk : hk_W G l d y b nL ret hh Q X k n h pc lv (.long v' :: st)) : hk_W G l d y b nL ret hh Q X k n h pc lv (.long v :: st) := by subst e; exact kk
theorem cx_cg (e1 : h = h') (e2 : lv = lv') (kk : hk_W G l d y b nL ret hh Q X k n h' pc lv' st) : hk_W G l d y b nL ret hh Q X k n h pc lv st := by subst e1; subst e2; exact kk
theorem cx_fg (i : Nat) (kk : hk_W G l d y b nL ret hh Q X k n h pc (hk_s lv i none) st) : hk_W G l d y b nL ret hh Q X k n h pc lv st := by
  intro p e s m args below meth c H locs cells slots mc ms ls C hk hn hO hL hl
  refine kk p e s m args below meth c H locs cells slots mc ms ls C hk hn hO (by rw [hk_s_len]; exact hL) ?_
  refine ⟨by rw [hk_s_len]; exact hl.1, hl.2.1, fun j v hj => hl.2.2 j v ?_⟩
  rw [hk_s_eq] at hj
  by_cases e : i = j
  · subst e
    by_cases hlt : i < lv.length
    · rw [List.getElem?_set_self hlt] at hj
      cases hj
    · rw [List.getElem?_eq_none (by rw [List.length_set]; omega)] at hj
      cases hj
  · rwa [List.getElem?_set_ne e] at hj
theorem cx_ne1 {n : Nat} (hn : n < 2 ^ 31) : ¬ nI n = -1 := fun z => nI_pos hn (by rw [z]; decide)
theorem cx_nmul (a c : Nat) : nI a * nI c = nI (a * c) := (Int32.ofNat_mul a c).symm
theorem cx_nsub {a c : Nat} (h : c ≤ a) : nI a - nI c = nI (a - c) := pk_sub h
theorem cx_getf {ob f idx ci : Nat} {fs : List Value} {v : Value} (hA : hs_inj A) (ho : ob < 30) (he : hs_E A S ob = .inr (ci, fs)) (hd : decode b pc = .ok (.getfield idx, 3)) (hp : pc + 3 = pc') (L : hk_fl y.cls idx ci f) (hv : fs[f]? = some v) (kk : hk_W G l d y b nL ret hh Q X k n (hs_ov A S h) pc' lv (v :: st)) : hk_W G l d y b nL ret hh Q X k n (hs_ov A S h) pc lv (.ref (A ob) :: st) := hk_getf hd hp L (by rw [hs_ov_get hA ho, he]) hv kk
theorem cx_putf {ob f idx ci : Nat} {fs : List Value} {v : Value} {t : FieldType} (hA : hs_inj A) (ho : ob < 30) (he : hs_E A S ob = .inr (ci, fs)) (hd : decode b pc = .ok (.putfield idx, 3)) (hp : pc + 3 = pc') (L : hk_fw y idx ci f t) (hn1 : narrow t v = v) (hn2 : fits t v = true) (hlen : f < fs.length) (hE : ∀ j : Nat, j < 30 → hs_E A S' j = if j = ob then .inr (ci, fs.set f v) else hs_E A S j) (kk : hk_W G l d y b nL ret hh Q X k n (hs_ov A S' h) pc' lv st) : hk_W G l d y b nL ret hh Q X k n (hs_ov A S h) pc lv (v :: .ref (A ob) :: st) := hk_putf hd hp L (by rw [hs_ov_get hA ho, he]) hn1 hn2 hlen (by
  rw [hs_ov_set hA ho (S' := S') (by rw [hE ob ho, if_pos rfl]) (fun j hj hne => by rw [hE j hj, if_neg hne])]
  exact kk)
theorem cx_iald {i j : Nat} (hA : hs_inj A) (hd : decode b pc = .ok (.iaload, 1)) (hp : pc + 1 = pc') (ht : hs_tag i = 0) (hi : 7 ≤ i ∧ i < 30 ∧ hs_len i < 2 ^ 31) (hj : j < hs_len i) (kk : hk_W G l d y b nL ret hh Q X k n (hs_ov A S h) pc' lv (.int (S.1 i j) :: st)) : hk_W G l d y b nL ret hh Q X k n (hs_ov A S h) pc lv (.int (nI j) :: .ref (A i) :: st) := by
  refine hk_iald (cnt := hs_len i) (f := S.1 i) hd hp (by rw [hs_ov_get hA hi.2.1, hs_E_arr A S hi.1, ht]) (vp_in_nI hj hi.2.2) ?_
  rw [nI_clamp (by omega)]
  exact kk
theorem cx_zald {i j : Nat} (hA : hs_inj A) (hd : decode b pc = .ok (.baload, 1)) (hp : pc + 1 = pc') (ht : hs_tag i = 1) (hi : 7 ≤ i ∧ i < 30 ∧ hs_len i < 2 ^ 31) (hj : j < hs_len i) (kk : hk_W G l d y b nL ret hh Q X k n (hs_ov A S h) pc' lv (.int (S.1 i j) :: st)) : hk_W G l d y b nL ret hh Q X k n (hs_ov A S h) pc lv (.int (nI j) :: .ref (A i) :: st) := by
  refine hk_zald (cnt := hs_len i) (f := S.1 i) hd hp (by rw [hs_ov_get hA hi.2.1, hs_E_arr A S hi.1, ht]) (vp_in_nI hj hi.2.2) ?_
  rw [nI_clamp (by omega)]
  exact kk
theorem cx_cald {i j : Nat} (hA : hs_inj A) (hd : decode b pc = .ok (.caload, 1)) (hp : pc + 1 = pc') (ht : hs_tag i = 4) (hi : 7 ≤ i ∧ i < 30 ∧ hs_len i < 2 ^ 31) (hj : j < hs_len i) (kk : hk_W G l d y b nL ret hh Q X k n (hs_ov A S h) pc' lv (.int (S.1 i j) :: st)) : hk_W G l d y b nL ret hh Q X k n (hs_ov A S h) pc lv (.int (nI j) :: .ref (A i) :: st) := by
  refine hk_cald (cnt := hs_len i) (f := S.1 i) hd hp (by rw [hs_ov_get hA hi.2.1, hs_E_arr A S hi.1, ht]) (vp_in_nI hj hi.2.2) ?_
  rw [nI_clamp (by omega)]
  exact kk
theorem cx_iast {i j : Nat} {x : Int32} (hA : hs_inj A) (hd : decode b pc = .ok (.iastore, 1)) (hp : pc + 1 = pc') (ht : hs_tag i = 0) (hi : 7 ≤ i ∧ i < 30 ∧ hs_len i < 2 ^ 31) (hj : j < hs_len i) (kk : hk_W G l d y b nL ret hh Q X k n (hs_ov A (hs_su S i j x) h) pc' lv st) : hk_W G l d y b nL ret hh Q X k n (hs_ov A S h) pc lv (.int x :: .int (nI j) :: .ref (A i) :: st) := by
  refine hk_iast (cnt := hs_len i) (f := S.1 i) hd hp (by rw [hs_ov_get hA hi.2.1, hs_E_arr A S hi.1, ht]) (vp_in_nI hj hi.2.2) ?_
  rw [nI_clamp (by omega)]
  have e := hs_ov_arr (h := h) (S := S) (j := j) (v := x) hA hi.1 hi.2.1
  rw [ht] at e
  rw [e]
  exact kk
theorem cx_zast {i j : Nat} {x : Int32} (hA : hs_inj A) (hd : decode b pc = .ok (.bastore, 1)) (hp : pc + 1 = pc') (ht : hs_tag i = 1) (hi : 7 ≤ i ∧ i < 30 ∧ hs_len i < 2 ^ 31) (hj : j < hs_len i) (hx : narrow .boolean (.int x) = .int x) (kk : hk_W G l d y b nL ret hh Q X k n (hs_ov A (hs_su S i j x) h) pc' lv st) : hk_W G l d y b nL ret hh Q X k n (hs_ov A S h) pc lv (.int x :: .int (nI j) :: .ref (A i) :: st) := by
  refine hk_zast (cnt := hs_len i) (f := S.1 i) hd hp (by rw [hs_ov_get hA hi.2.1, hs_E_arr A S hi.1, ht]) (vp_in_nI hj hi.2.2) hx ?_
  rw [nI_clamp (by omega)]
  have e := hs_ov_arr (h := h) (S := S) (j := j) (v := x) hA hi.1 hi.2.1
  rw [ht] at e
  rw [e]
  exact kk
theorem cx_cast {i j : Nat} {x : Int32} (hA : hs_inj A) (hd : decode b pc = .ok (.castore, 1)) (hp : pc + 1 = pc') (ht : hs_tag i = 4) (hi : 7 ≤ i ∧ i < 30 ∧ hs_len i < 2 ^ 31) (hj : j < hs_len i) (hx : narrow .char (.int x) = .int x) (kk : hk_W G l d y b nL ret hh Q X k n (hs_ov A (hs_su S i j x) h) pc' lv st) : hk_W G l d y b nL ret hh Q X k n (hs_ov A S h) pc lv (.int x :: .int (nI j) :: .ref (A i) :: st) := by
  refine hk_cast (cnt := hs_len i) (f := S.1 i) hd hp (by rw [hs_ov_get hA hi.2.1, hs_E_arr A S hi.1, ht]) (vp_in_nI hj hi.2.2) hx ?_
  rw [nI_clamp (by omega)]
  have e := hs_ov_arr (h := h) (S := S) (j := j) (v := x) hA hi.1 hi.2.1
  rw [ht] at e
  rw [e]
  exact kk
theorem cx_icmp_eq {a c : Nat} {off : Int} {tgt : Nat} (ha : a < 2 ^ 31) (hc : c < 2 ^ 31) (hd : decode b pc = .ok (.if_icmp .eq off, 3)) (ht : (pc : Int) + off = (tgt : Int)) (hp : pc + 3 = pc') (kt : a = c → hk_W G l d y b nL ret hh Q X k n h tgt lv st) (kf : ¬ a = c → hk_W G l d y b nL ret hh Q X k n h pc' lv st) : hk_W G l d y b nL ret hh Q X k n h pc lv (.int (nI c) :: .int (nI a) :: st) := hk_icmp_eq hd ht hp (fun z => kt ((nI_eq ha hc).mp z)) (fun z => kf (fun y => z ((nI_eq ha hc).mpr y)))
theorem cx_icmp_ne {a c : Nat} {off : Int} {tgt : Nat} (ha : a < 2 ^ 31) (hc : c < 2 ^ 31) (hd : decode b pc = .ok (.if_icmp .ne off, 3)) (ht : (pc : Int) + off = (tgt : Int)) (hp : pc + 3 = pc') (kt : ¬ a = c → hk_W G l d y b nL ret hh Q X k n h tgt lv st) (kf : a = c → hk_W G l d y b nL ret hh Q X k n h pc' lv st) : hk_W G l d y b nL ret hh Q X k n h pc lv (.int (nI c) :: .int (nI a) :: st) := hk_icmp_ne hd ht hp (fun z => kt (fun y => z ((nI_eq ha hc).mpr y))) (fun z => kf ((nI_eq ha hc).mp z))
theorem cx_icmp_lt {a c : Nat} {off : Int} {tgt : Nat} (ha : a < 2 ^ 31) (hc : c < 2 ^ 31) (hd : decode b pc = .ok (.if_icmp .lt off, 3)) (ht : (pc : Int) + off = (tgt : Int)) (hp : pc + 3 = pc') (kt : a < c → hk_W G l d y b nL ret hh Q X k n h tgt lv st) (kf : ¬ a < c → hk_W G l d y b nL ret hh Q X k n h pc' lv st) : hk_W G l d y b nL ret hh Q X k n h pc lv (.int (nI c) :: .int (nI a) :: st) := hk_icmp_lt hd ht hp (fun z => kt ((nI_ltI ha hc).mp z)) (fun z => kf (fun y => z ((nI_ltI ha hc).mpr y)))
theorem cx_icmp_ge {a c : Nat} {off : Int} {tgt : Nat} (ha : a < 2 ^ 31) (hc : c < 2 ^ 31) (hd : decode b pc = .ok (.if_icmp .ge off, 3)) (ht : (pc : Int) + off = (tgt : Int)) (hp : pc + 3 = pc') (kt : c ≤ a → hk_W G l d y b nL ret hh Q X k n h tgt lv st) (kf : ¬ c ≤ a → hk_W G l d y b nL ret hh Q X k n h pc' lv st) : hk_W G l d y b nL ret hh Q X k n h pc lv (.int (nI c) :: .int (nI a) :: st) := hk_icmp_ge hd ht hp (fun z => kt ((nI_leI hc ha).mp z)) (fun z => kf (fun y => z ((nI_leI hc ha).mpr y)))
theorem cx_icmp_gt {a c : Nat} {off : Int} {tgt : Nat} (ha : a < 2 ^ 31) (hc : c < 2 ^ 31) (hd : decode b pc = .ok (.if_icmp .gt off, 3)) (ht : (pc : Int) + off = (tgt : Int)) (hp : pc + 3 = pc') (kt : c < a → hk_W G l d y b nL ret hh Q X k n h tgt lv st) (kf : ¬ c < a → hk_W G l d y b nL ret hh Q X k n h pc' lv st) : hk_W G l d y b nL ret hh Q X k n h pc lv (.int (nI c) :: .int (nI a) :: st) := hk_icmp_gt hd ht hp (fun z => kt ((nI_ltI hc ha).mp z)) (fun z => kf (fun y => z ((nI_ltI hc ha).mpr y)))
theorem cx_icmp_le {a c : Nat} {off : Int} {tgt : Nat} (ha : a < 2 ^ 31) (hc : c < 2 ^ 31) (hd : decode b pc = .ok (.if_icmp .le off, 3)) (ht : (pc : Int) + off = (tgt : Int)) (hp : pc + 3 = pc') (kt : a ≤ c → hk_W G l d y b nL ret hh Q X k n h tgt lv st) (kf : ¬ a ≤ c → hk_W G l d y b nL ret hh Q X k n h pc' lv st) : hk_W G l d y b nL ret hh Q X k n h pc lv (.int (nI c) :: .int (nI a) :: st) := hk_icmp_le hd ht hp (fun z => kt ((nI_leI ha hc).mp z)) (fun z => kf (fun y => z ((nI_leI ha hc).mpr y)))
theorem cx_ifn_eq {a : Nat} {off : Int} {tgt : Nat} (ha : a < 2 ^ 31) (hd : decode b pc = .ok (.ifCond .eq off, 3)) (ht : (pc : Int) + off = (tgt : Int)) (hp : pc + 3 = pc') (kt : a = 0 → hk_W G l d y b nL ret hh Q X k n h tgt lv st) (kf : ¬ a = 0 → hk_W G l d y b nL ret hh Q X k n h pc' lv st) : hk_W G l d y b nL ret hh Q X k n h pc lv (.int (nI a) :: st) := hk_if_eq hd ht hp (fun z => kt (by
  by_cases y : a = 0
  · exact y
  · exact absurd z (nI_ne0 (by omega) ha))) (fun z => kf (fun y => z (by rw [y]; rfl)))
theorem cx_ifn_ne {a : Nat} {off : Int} {tgt : Nat} (ha : a < 2 ^ 31) (hd : decode b pc = .ok (.ifCond .ne off, 3)) (ht : (pc : Int) + off = (tgt : Int)) (hp : pc + 3 = pc') (kt : ¬ a = 0 → hk_W G l d y b nL ret hh Q X k n h tgt lv st) (kf : a = 0 → hk_W G l d y b nL ret hh Q X k n h pc' lv st) : hk_W G l d y b nL ret hh Q X k n h pc lv (.int (nI a) :: st) := hk_if_ne hd ht hp (fun z => kt (fun y => z (by rw [y]; rfl))) (fun z => kf (by
  by_cases y : a = 0
  · exact y
  · exact absurd z (nI_ne0 (by omega) ha)))
-- a contract whose answer and end are known
def cx_Q (A : Nat → Nat) (h : hk_H) (P : Prop) (r : Option Value) (S' : hs_S) : Option Value → hk_H → Prop := fun r0 h' => P ∧ r0 = r ∧ h' = hs_ov A S' h
def cx_X (A : Nat → Nat) (h : hk_H) (S : hs_S) (P : String → Prop) : String → hk_H → Prop := fun E h' => P E ∧ h' = hs_ov A S h
theorem cx_callv {y' : MethodName} {b' : ByteArray} {nL' na k' n' d' idx ob ci : Nat} {fs : List Value} {r : vw_C} {ret' : Option FieldType} {As st0 : List Value} {P' : Prop} {PX' : String → Prop} (hA : hs_inj A) (ho : ob < 30) (he : hs_E A S ob = .inr (ci, fs)) (hcl : vwCl[ci]? = some r) (hrc : r.1 = y'.cls) (hd : decode b pc = .ok (.invokevirtual idx, 3)) (hp : pc + 3 = pc') (L : hk_mV y.cls idx y' b' nL' ret' na) (hc : hk_Ctr G l d' y' b' nL' ret' k' n' (.ref (A ob) :: As) (hs_ov A S h) (cx_Q A h P' none S') (cx_X A h S PX')) (hst : st0 = As.reverse ++ .ref (A ob) :: st) (hna : As.length = na) (hdp : d' + 1 ≤ d ∧ 8 + (nL' + 11) + 64 * d' ≤ 64 * d) (hkk : k' ≤ k ∧ n' ≤ n) (hrm : (st.map fun v => v.category).sum ≤ 8)
    (kk : P' → hk_W G l d y b nL ret [] Q X (k - k') (n - n') (hs_ov A S' h) pc' lv (st)) (kx : ∀ E : String, PX' E → X E (hs_ov A S h)) : hk_W G l d y b nL ret [] Q X k n (hs_ov A S h) pc lv st0 := by
  refine hk_callV hd hp L hc hst hna (by rw [hs_ov_get hA ho, he]) hcl hrc hdp hkk hrm (fun r h' q => ?_) (hk_kx fun E h' q => ?_)
  · obtain ⟨q1, q2, q3⟩ := q
    subst q2
    subst q3
    exact kk q1
  · obtain ⟨q1, q2⟩ := q
    subst q2
    exact kx E q1
theorem cx_calli {y' : MethodName} {b' : ByteArray} {nL' na k' n' d' idx ob ci : Nat} {fs : List Value} {r : vw_C} {ret' : Option FieldType} {As st0 : List Value} {P' : Prop} {PX' : String → Prop} {v : Int32} (hA : hs_inj A) (ho : ob < 30) (he : hs_E A S ob = .inr (ci, fs)) (hcl : vwCl[ci]? = some r) (hrc : r.1 = y'.cls) (hd : decode b pc = .ok (.invokevirtual idx, 3)) (hp : pc + 3 = pc') (L : hk_mV y.cls idx y' b' nL' ret' na) (hc : hk_Ctr G l d' y' b' nL' ret' k' n' (.ref (A ob) :: As) (hs_ov A S h) (cx_Q A h P' (some (.int v)) S') (cx_X A h S PX')) (hst : st0 = As.reverse ++ .ref (A ob) :: st) (hna : As.length = na) (hdp : d' + 1 ≤ d ∧ 8 + (nL' + 11) + 64 * d' ≤ 64 * d) (hkk : k' ≤ k ∧ n' ≤ n) (hrm : (st.map fun v => v.category).sum ≤ 8)
    (kk : P' → hk_W G l d y b nL ret [] Q X (k - k') (n - n') (hs_ov A S' h) pc' lv ((.int v) :: st)) (kx : ∀ E : String, PX' E → X E (hs_ov A S h)) : hk_W G l d y b nL ret [] Q X k n (hs_ov A S h) pc lv st0 := by
  refine hk_callV hd hp L hc hst hna (by rw [hs_ov_get hA ho, he]) hcl hrc hdp hkk hrm (fun r h' q => ?_) (hk_kx fun E h' q => ?_)
  · obtain ⟨q1, q2, q3⟩ := q
    subst q2
    subst q3
    exact kk q1
  · obtain ⟨q1, q2⟩ := q
    subst q2
    exact kx E q1
theorem cx_calll {y' : MethodName} {b' : ByteArray} {nL' na k' n' d' idx ob ci : Nat} {fs : List Value} {r : vw_C} {ret' : Option FieldType} {As st0 : List Value} {P' : Prop} {PX' : String → Prop} {v : Int64} (hA : hs_inj A) (ho : ob < 30) (he : hs_E A S ob = .inr (ci, fs)) (hcl : vwCl[ci]? = some r) (hrc : r.1 = y'.cls) (hd : decode b pc = .ok (.invokevirtual idx, 3)) (hp : pc + 3 = pc') (L : hk_mV y.cls idx y' b' nL' ret' na) (hc : hk_Ctr G l d' y' b' nL' ret' k' n' (.ref (A ob) :: As) (hs_ov A S h) (cx_Q A h P' (some (.long v)) S') (cx_X A h S PX')) (hst : st0 = As.reverse ++ .ref (A ob) :: st) (hna : As.length = na) (hdp : d' + 1 ≤ d ∧ 8 + (nL' + 11) + 64 * d' ≤ 64 * d) (hkk : k' ≤ k ∧ n' ≤ n) (hrm : (st.map fun v => v.category).sum ≤ 8)
    (kk : P' → hk_W G l d y b nL ret [] Q X (k - k') (n - n') (hs_ov A S' h) pc' lv ((.long v) :: st)) (kx : ∀ E : String, PX' E → X E (hs_ov A S h)) : hk_W G l d y b nL ret [] Q X k n (hs_ov A S h) pc lv st0 := by
  refine hk_callV hd hp L hc hst hna (by rw [hs_ov_get hA ho, he]) hcl hrc hdp hkk hrm (fun r h' q => ?_) (hk_kx fun E h' q => ?_)
  · obtain ⟨q1, q2, q3⟩ := q
    subst q2
    subst q3
    exact kk q1
  · obtain ⟨q1, q2⟩ := q
    subst q2
    exact kx E q1
theorem cx_callf {y' : MethodName} {b' : ByteArray} {nL' na k' n' d' idx ob ci : Nat} {fs : List Value} {r : vw_C} {ret' : Option FieldType} {As st0 : List Value} {P' : Prop} {PX' : String → Prop} {v : UInt32} (hA : hs_inj A) (ho : ob < 30) (he : hs_E A S ob = .inr (ci, fs)) (hcl : vwCl[ci]? = some r) (hrc : r.1 = y'.cls) (hd : decode b pc = .ok (.invokevirtual idx, 3)) (hp : pc + 3 = pc') (L : hk_mV y.cls idx y' b' nL' ret' na) (hc : hk_Ctr G l d' y' b' nL' ret' k' n' (.ref (A ob) :: As) (hs_ov A S h) (cx_Q A h P' (some (.float v)) S') (cx_X A h S PX')) (hst : st0 = As.reverse ++ .ref (A ob) :: st) (hna : As.length = na) (hdp : d' + 1 ≤ d ∧ 8 + (nL' + 11) + 64 * d' ≤ 64 * d) (hkk : k' ≤ k ∧ n' ≤ n) (hrm : (st.map fun v => v.category).sum ≤ 8)
    (kk : P' → hk_W G l d y b nL ret [] Q X (k - k') (n - n') (hs_ov A S' h) pc' lv ((.float v) :: st)) (kx : ∀ E : String, PX' E → X E (hs_ov A S h)) : hk_W G l d y b nL ret [] Q X k n (hs_ov A S h) pc lv st0 := by
  refine hk_callV hd hp L hc hst hna (by rw [hs_ov_get hA ho, he]) hcl hrc hdp hkk hrm (fun r h' q => ?_) (hk_kx fun E h' q => ?_)
  · obtain ⟨q1, q2, q3⟩ := q
    subst q2
    subst q3
    exact kk q1
  · obtain ⟨q1, q2⟩ := q
    subst q2
    exact kx E q1
theorem cx_calld {y' : MethodName} {b' : ByteArray} {nL' na k' n' d' idx ob ci : Nat} {fs : List Value} {r : vw_C} {ret' : Option FieldType} {As st0 : List Value} {P' : Prop} {PX' : String → Prop} {v : UInt64} (hA : hs_inj A) (ho : ob < 30) (he : hs_E A S ob = .inr (ci, fs)) (hcl : vwCl[ci]? = some r) (hrc : r.1 = y'.cls) (hd : decode b pc = .ok (.invokevirtual idx, 3)) (hp : pc + 3 = pc') (L : hk_mV y.cls idx y' b' nL' ret' na) (hc : hk_Ctr G l d' y' b' nL' ret' k' n' (.ref (A ob) :: As) (hs_ov A S h) (cx_Q A h P' (some (.double v)) S') (cx_X A h S PX')) (hst : st0 = As.reverse ++ .ref (A ob) :: st) (hna : As.length = na) (hdp : d' + 1 ≤ d ∧ 8 + (nL' + 11) + 64 * d' ≤ 64 * d) (hkk : k' ≤ k ∧ n' ≤ n) (hrm : (st.map fun v => v.category).sum ≤ 8)
    (kk : P' → hk_W G l d y b nL ret [] Q X (k - k') (n - n') (hs_ov A S' h) pc' lv ((.double v) :: st)) (kx : ∀ E : String, PX' E → X E (hs_ov A S h)) : hk_W G l d y b nL ret [] Q X k n (hs_ov A S h) pc lv st0 := by
  refine hk_callV hd hp L hc hst hna (by rw [hs_ov_get hA ho, he]) hcl hrc hdp hkk hrm (fun r h' q => ?_) (hk_kx fun E h' q => ?_)
  · obtain ⟨q1, q2, q3⟩ := q
    subst q2
    subst q3
    exact kk q1
  · obtain ⟨q1, q2⟩ := q
    subst q2
    exact kx E q1
end CX
def cx_it {α : Type} (f : Nat → α → α) (a : α) : Nat → α
  | 0 => a
  | j + 1 => f j (cx_it f a j)
theorem cx_it0 {α : Type} (f : Nat → α → α) (a : α) : cx_it f a 0 = a := rfl
theorem cx_it1 {α : Type} (f : Nat → α → α) (a : α) (j : Nat) : cx_it f a (j + 1) = f j (cx_it f a j) := rfl

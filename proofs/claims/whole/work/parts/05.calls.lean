section HK2
variable {G : hk_G} {l : Launch} {d : Nat} {y : MethodName} {b : ByteArray} {nL : Nat} {ret : Option FieldType} {hh : List (Nat × Nat × Nat × Nat)} {Q : Option Value → hk_H → Prop} {X : String → hk_H → Prop} {k n : Nat} {h : hk_H} {pc pc' : Nat} {lv : List (Option Value)} {st : List Value}
theorem hk_ireturn {v : Int32} {t : FieldType} (hr : ret = some t) (hv : narrow t (.int v) = .int v) (hd : decode b pc = .ok (.ireturn, 1)) (hq : Q (some (.int v)) h) : hk_W G l d y b nL ret hh Q X k n h pc lv [.int v] := by
  intro p e s m args below meth c H locs cells slots mc ms ls C hk hn hO hL hl
  refine vx_ret (W.widen (k := mc) (n := ms) (by omega) (by omega) ?_)
  exact W.zret C.exec C.bytes (C.returns.trans hr) hv (fun t ht hW => ⟨_, h, rfl, hq, by rw [ht]; exact hO.1, hO.2.F ht⟩) hO.2.2.2 hd C.locks
theorem hk_lreturn {v : Int64} (hr : ret = some .long) (hd : decode b pc = .ok (.lreturn, 1)) (hq : Q (some (.long v)) h) : hk_W G l d y b nL ret hh Q X k n h pc lv [.long v] := by
  intro p e s m args below meth c H locs cells slots mc ms ls C hk hn hO hL hl
  refine vx_ret (W.widen (k := mc) (n := ms) (by omega) (by omega) ?_)
  exact W.lret C.exec C.bytes (C.returns.trans hr) (fun t ht hW => ⟨_, h, rfl, hq, by rw [ht]; exact hO.1, hO.2.F ht⟩) hO.2.2.2 hd C.locks
theorem hk_freturn {v : UInt32} (hr : ret = some .float) (hd : decode b pc = .ok (.freturn, 1)) (hq : Q (some (.float v)) h) : hk_W G l d y b nL ret hh Q X k n h pc lv [.float v] := by
  intro p e s m args below meth c H locs cells slots mc ms ls C hk hn hO hL hl
  refine vx_ret (W.widen (k := mc) (n := ms) (by omega) (by omega) ?_)
  exact W.fret C.exec C.bytes (C.returns.trans hr) (fun t ht hW => ⟨_, h, rfl, hq, by rw [ht]; exact hO.1, hO.2.F ht⟩) hO.2.2.2 hd C.locks
theorem hk_dreturn {v : UInt64} (hr : ret = some .double) (hd : decode b pc = .ok (.dreturn, 1)) (hq : Q (some (.double v)) h) : hk_W G l d y b nL ret hh Q X k n h pc lv [.double v] := by
  intro p e s m args below meth c H locs cells slots mc ms ls C hk hn hO hL hl
  refine vx_ret (W.widen (k := mc) (n := ms) (by omega) (by omega) ?_)
  exact W.dret C.exec C.bytes (C.returns.trans hr) (fun t ht hW => ⟨_, h, rfl, hq, by rw [ht]; exact hO.1, hO.2.F ht⟩) hO.2.2.2 hd C.locks
theorem hk_areturn {v : Value} {t : FieldType} (hr : ret = some t) (hrt : (∃ n, t = .object n) ∨ ∃ t1, t = .array t1) (hv : v = .null ∨ ∃ a, v = .ref a) (hd : decode b pc = .ok (.areturn, 1)) (hq : Q (some (v)) h) : hk_W G l d y b nL ret hh Q X k n h pc lv [v] := by
  intro p e s m args below meth c H locs cells slots mc ms ls C hk hn hO hL hl
  refine vx_ret (W.widen (k := mc) (n := ms) (by omega) (by omega) ?_)
  exact W.aret C.exec C.bytes (C.returns.trans hr) hrt hv (fun t ht hW => ⟨_, h, rfl, hq, by rw [ht]; exact hO.1, hO.2.F ht⟩) hO.2.2.2 hd C.locks
theorem hk_vreturn (hr : ret = none) (hd : decode b pc = .ok (.return_, 1)) (hq : Q none h) : hk_W G l d y b nL ret hh Q X k n h pc lv [] := by
  intro p e s m args below meth c H locs cells slots mc ms ls C hk hn hO hL hl
  refine vx_ret (W.widen (k := mc) (n := ms) (by omega) (by omega) ?_)
  exact W.vret C.exec C.bytes (C.returns.trans hr) (fun t ht hW => ⟨_, h, rfl, hq, by rw [ht]; exact hO.1, hO.2.F ht⟩) hO.2.2.2 hd C.locks
theorem hk_out {E : String} (hx : X E h) : hk_WX G l d y b nL ret [] Q X k n h pc lv st E := by
  intro p e s m args below meth c H locs cells slots mc ms ls q ce C hk hn hO hL hl hce hcv hcl
  exact vx_out (by intro x hx; rw [C.table] at hx; cases hx) C.locks hce hcv hcl (fun t ht hA => ⟨h, hx, by rw [ht]; exact hO.1, hO.2.F ht⟩) hO.2.2.2 (by omega) (by omega)
-- a method's contract out of its walk
theorem hk_enter {As : List Value} {lv : List (Option Value)} (hp : plainName y.cls = true) (hfl : l.stackTraces = false) (hlen : (hk_l0 As).length ≤ nL) (hlv : hk_l0 As ++ List.replicate (nL - (hk_l0 As).length) none = lv) (hw : hk_W G l d y b nL ret [] Q X k n h 0 lv []) : hk_Ctr G l d y b nL ret k n As h Q X := by
  refine vx_ofW (cc := b) (maxL := nL) (ret := ret) hp rfl ?_
  intro p e s m args below meth c s₁ B hml htb hv
  obtain ⟨rfl, hF, hP, hB⟩ := hv
  have hts := atoms_spec (ws := hk_ws y b nL ret) B.pre
  have hl := lv_entry As (n := nL) (by rw [← hk_l0_len]; exact hlen)
  rw [lg_entry_eq]
  have hLv : lv.length = nL := by
    rw [← hlv, List.length_append, List.length_replicate]
    omega
  have ht0 : c.exceptionTable.toList = [] := List.eq_nil_iff_forall_not_mem.mpr (fun x hx => htb x hx)
  refine hw p e s m _ below meth c s.heap [] 0 0 k n _ ⟨B.exec, B.bytes, B.returns, hml, findClass_of_methodNamed B.named, fun w hw => hts w (List.mem_cons_of_mem _ hw), B.notSynchronized, (name_of_methodNamed B.named B.method).1, by rw [ht0]; rfl, hF, hfl, hB⟩ (by omega) (by omega) ⟨hP, va_S.rf⟩ hLv ⟨hl.1.trans hLv.symm, hl.2.1, fun i v hi => ?_⟩
  refine hl.2.2 (i, v) ?_
  have h9 : (hk_l0 As)[i]? = some (some v) := by
    rw [← hlv] at hi
    by_cases hlt : i < (hk_l0 As).length
    · rwa [List.getElem?_append_left hlt] at hi
    · rw [List.getElem?_append_right (by omega), List.getElem?_replicate] at hi
      split at hi <;> cases hi
  have h8 := hk_l0_in As 0 i v h9
  rwa [Nat.zero_add] at h8
-- what an answer says, by its kind
def hk_qi (P : Int32 → hk_H → Prop) : Option Value → hk_H → Prop := fun r h => ∃ v : Int32, r = some (.int v) ∧ P v h
def hk_ql (P : Int64 → hk_H → Prop) : Option Value → hk_H → Prop := fun r h => ∃ v : Int64, r = some (.long v) ∧ P v h
def hk_qf (P : UInt32 → hk_H → Prop) : Option Value → hk_H → Prop := fun r h => ∃ v : UInt32, r = some (.float v) ∧ P v h
def hk_qd (P : UInt64 → hk_H → Prop) : Option Value → hk_H → Prop := fun r h => ∃ v : UInt64, r = some (.double v) ∧ P v h
def hk_qv (P : hk_H → Prop) : Option Value → hk_H → Prop := fun r h => r = none ∧ P h
def hk_qr (P : Nat → hk_H → Prop) : Option Value → hk_H → Prop := fun r h => ∃ v : Nat, r = some (.ref v) ∧ P v h
def hk_qo (P : Option Nat → hk_H → Prop) : Option Value → hk_H → Prop := fun r h => ∃ v : Option Nat, r = some (va_rf v) ∧ P v h
def hk_no : String → hk_H → Prop := fun _ _ => False

theorem hk_ki {P : Int32 → hk_H → Prop} (kk : ∀ (v : Int32) (h' : hk_H), P v h' → hk_W G l d y b nL ret hh Q X k n h' pc lv (.int v :: st)) : ∀ (r : Option Value) (h' : hk_H), hk_qi P r h' → hk_W G l d y b nL ret hh Q X k n h' pc lv (r.toList ++ st) := fun r h' hq => by
  obtain ⟨v, rfl, hp⟩ := hq
  exact kk v h' hp
theorem hk_kl {P : Int64 → hk_H → Prop} (kk : ∀ (v : Int64) (h' : hk_H), P v h' → hk_W G l d y b nL ret hh Q X k n h' pc lv (.long v :: st)) : ∀ (r : Option Value) (h' : hk_H), hk_ql P r h' → hk_W G l d y b nL ret hh Q X k n h' pc lv (r.toList ++ st) := fun r h' hq => by
  obtain ⟨v, rfl, hp⟩ := hq
  exact kk v h' hp
theorem hk_kf {P : UInt32 → hk_H → Prop} (kk : ∀ (v : UInt32) (h' : hk_H), P v h' → hk_W G l d y b nL ret hh Q X k n h' pc lv (.float v :: st)) : ∀ (r : Option Value) (h' : hk_H), hk_qf P r h' → hk_W G l d y b nL ret hh Q X k n h' pc lv (r.toList ++ st) := fun r h' hq => by
  obtain ⟨v, rfl, hp⟩ := hq
  exact kk v h' hp
theorem hk_kd {P : UInt64 → hk_H → Prop} (kk : ∀ (v : UInt64) (h' : hk_H), P v h' → hk_W G l d y b nL ret hh Q X k n h' pc lv (.double v :: st)) : ∀ (r : Option Value) (h' : hk_H), hk_qd P r h' → hk_W G l d y b nL ret hh Q X k n h' pc lv (r.toList ++ st) := fun r h' hq => by
  obtain ⟨v, rfl, hp⟩ := hq
  exact kk v h' hp
theorem hk_kr {P : Nat → hk_H → Prop} (kk : ∀ (v : Nat) (h' : hk_H), P v h' → hk_W G l d y b nL ret hh Q X k n h' pc lv (.ref v :: st)) : ∀ (r : Option Value) (h' : hk_H), hk_qr P r h' → hk_W G l d y b nL ret hh Q X k n h' pc lv (r.toList ++ st) := fun r h' hq => by
  obtain ⟨v, rfl, hp⟩ := hq
  exact kk v h' hp
theorem hk_ko {P : Option Nat → hk_H → Prop} (kk : ∀ (v : Option Nat) (h' : hk_H), P v h' → hk_W G l d y b nL ret hh Q X k n h' pc lv (va_rf v :: st)) : ∀ (r : Option Value) (h' : hk_H), hk_qo P r h' → hk_W G l d y b nL ret hh Q X k n h' pc lv (r.toList ++ st) := fun r h' hq => by
  obtain ⟨v, rfl, hp⟩ := hq
  exact kk v h' hp
theorem hk_kv {P : hk_H → Prop} (kk : ∀ (h' : hk_H), P h' → hk_W G l d y b nL ret hh Q X k n h' pc lv st) : ∀ (r : Option Value) (h' : hk_H), hk_qv P r h' → hk_W G l d y b nL ret hh Q X k n h' pc lv (r.toList ++ st) := fun r h' hq => by
  obtain ⟨rfl, hp⟩ := hq
  exact kk h' hp
theorem hk_kx {X' : String → hk_H → Prop} (hx : ∀ (E : String) (h' : hk_H), X' E h' → X E h') : ∀ (E : String) (h' : hk_H), X' E h' → hk_WX G l d y b nL ret [] Q X k n h' pc lv st E := fun E h' z => hk_out (hx E h' z)
theorem hk_nx : ∀ (E : String) (h' : hk_H), hk_no E h' → hk_WX G l d y b nL ret hh Q X k n h' pc lv st E := fun E h' z => z.elim
-- behind a call
theorem hk_after {p : Program} {e : Env} {s : State} {m : MethodId} {args : Array Value} {below : List Frame} {meth : Method} {c : Code} {H : Heap} {locs : List Loc} {cells slots mc ms k' n' : Nat} {ls : Array Slot} {st0 : List Value} {Q' : Option Value → hk_H → Prop} {X' : String → hk_H → Prop} {A9 : Array Value}
    (hr : vx_Run p l e (hk_rm d mc ms) s m args below meth c H locs cells slots k' n' (F0 m pc ls st0) st (hk_Qc G Q' A9) (hk_XC G X') (hk_A G)) (C : hk_C G l y b nL ret hh p s m args meth c) (hk : cells + k ≤ mc) (hn : slots + n ≤ ms) (hO : hk_O G h s H locs) (hL : lv.length = nL) (hl : hk_L ls lv) (hkk : k' ≤ k) (hnn : n' ≤ n)
    (kk : ∀ (r : Option Value) (h' : hk_H), Q' r h' → hk_W G l d y b nL ret hh Q X (k - k') (n - n') h' (pc + 3) lv (r.toList ++ st))
    (kx : ∀ (E : String) (h' : hk_H), X' E h' → hk_WX G l d y b nL ret hh Q X (k - k') (n - n') h' pc lv st E) :
    W p l e (hk_rm d mc ms) s m args below meth c H locs cells slots (vx_MQ below (hk_Qc G Q) (hk_XC G X) args s mc ms (hk_A G)) (F0 m pc ls st0) := by
  intro T hT X0
  rcases hr T hT X0 with ⟨v, st₀, t, T', L, h0, X', hL', e1, e2, ⟨r, h', hv, hq, hP', hF'⟩, hg⟩ | ⟨q, st₀, t, T', L, E, ce, h0, X', hL', e1, e2, ⟨h', hx, hP', hF'⟩, hce, hcv, hcl, hg⟩
  · cases hv
    obtain ⟨k1, k2, k3⟩ := vx_keep h0 e1 hO.2 (fun q _ z => z) (fun q z => z) hL' hF'
    obtain ⟨t2, a1, b1⟩ := kk v h' hq p e s m args below meth c T'.heap (locs ++ L) (cells + k') (slots + n') mc ms ls C (by omega) (by omega) ⟨by rw [e1]; exact hP', k3⟩ hL hl T' rfl X'
    exact ⟨t2, hg t2 a1, b1⟩
  · obtain ⟨k1, k2, k3⟩ := vx_keep h0 e1 hO.2 (fun q _ z => z) (fun q z => z) hL' hF'
    obtain ⟨t2, a1, b1⟩ := kx E h' hx p e s m args below meth c T'.heap (locs ++ L) (cells + k') (slots + n') mc ms ls q ce C (by omega) (by omega) ⟨by rw [e1]; exact hP', k3⟩ hL hl (by rw [e1]; exact hce) hcv hcl T' rfl X'
    exact ⟨t2, hg.trans a1, b1⟩
theorem hk_start {s : State} {H : Heap} {locs : List Loc} {As : List Value} {p : Program} {m : MethodId} {args : Array Value} {meth : Method} {c : Code} (C : hk_C G l y b nL ret hh p s m args meth c) (hO : hk_O G h s H locs) (U : State) (hU : U.heap = H) (hW : s.WarmedH U.vm) : hk_Pc G h As As.toArray U :=
  ⟨rfl, hk_F.warm hW (fun a h1 h2 => by rw [hU]; exact hO.2.2.1 a h1 h2) C.F, by rw [hU]; exact hO.1, by rw [hU]; exact Nat.le_trans C.base hO.2.1⟩
-- a method by its entry
def hk_mV (own : String) (idx : Nat) (y' : MethodName) (b' : ByteArray) (nL' : Nat) (ret' : Option FieldType) (na : Nat) : Prop := Cond.methodLink own idx y' ∈ hk_all ∧ Cond.instanceMethod y' ∈ hk_all ∧ Cond.selects y'.cls y' y' ∈ hk_all ∧ Cond.initialized y'.cls ∈ hk_all ∧ Cond.code y' b' nL' ret' ∈ hk_all ∧ (y'.cls ≠ "java/lang/invoke/MethodHandle" ∧ y'.cls ≠ "java/lang/invoke/VarHandle") ∧ (parseMethodDescriptor y'.desc).map (fun d => d.parameters.length) = some na
def hk_mS (own : String) (idx : Nat) (y' : MethodName) (b' : ByteArray) (nL' : Nat) (ret' : Option FieldType) (na : Nat) : Prop := Cond.methodLink own idx y' ∈ hk_all ∧ Cond.static y' ∈ hk_all ∧ Cond.initialized y'.cls ∈ hk_all ∧ Cond.code y' b' nL' ret' ∈ hk_all ∧ (y'.cls ≠ "java/lang/invoke/MethodHandle" ∧ y'.cls ≠ "java/lang/invoke/VarHandle") ∧ (parseMethodDescriptor y'.desc).map (fun d => d.parameters.length) = some na
def hk_mI (own : String) (idx : Nat) (y' : MethodName) (b' : ByteArray) (nL' : Nat) (na : Nat) : Prop := ((Cond.methodLink own idx y' ∈ hk_all) ∨ ∃ host : String, Cond.methodLinkNest own idx y' host ∈ lw_tbl) ∧ Cond.instanceMethod y' ∈ hk_all ∧ y'.name = "<init>" ∧ Cond.initialized y'.cls ∈ hk_all ∧ Cond.code y' b' nL' none ∈ hk_all ∧ (y'.cls ≠ "java/lang/invoke/MethodHandle" ∧ y'.cls ≠ "java/lang/invoke/VarHandle") ∧ (parseMethodDescriptor y'.desc).map (fun d => d.parameters.length) = some na
theorem hk_good {y' : MethodName} {b' : ByteArray} {nL' : Nat} {ret' : Option FieldType} (hc : Cond.code y' b' nL' ret' ∈ hk_all) : GoodIn hk_all (hk_ws y' b' nL' ret') := fun w hw => (List.mem_cons.mp hw).elim (fun e => by rw [e]; exact hk_all_good _ hc) (fun z => hk_all_good w z)
theorem hk_recv {s : State} {H : Heap} {locs : List Loc} {p : Program} {m : MethodId} {args : Array Value} {meth : Method} {c : Code} (C : hk_C G l y b nL ret hh p s m args meth c) (hO : hk_O G h s H locs) {a ci : Nat} {fs : List Value} (ha : h a = some (.inr (ci, fs))) {r : vw_C} (hc : vwCl[ci]? = some r) : ∃ cell : Cell, H[a]? = some cell ∧ cell.vm.isStatics = false ∧ s.vm.findClass r.1 = some cell.cls := by
  obtain ⟨q', h1, cell, g1, g2, g3, -⟩ := (hO.1 a _ ha).2
  exact ⟨cell, g1, by rw [g3]; rfl, by rw [g2]; exact (C.F.1 ci r hc).2.1⟩
theorem hk_callV {y' : MethodName} {b' : ByteArray} {nL' na k' n' d' idx : Nat} {a ci : Nat} {fs : List Value} {r : vw_C} {ret' : Option FieldType} {As st0 : List Value} {Q' : Option Value → hk_H → Prop} {X' : String → hk_H → Prop} (hd : decode b pc = .ok (.invokevirtual idx, 3)) (hp : pc + 3 = pc') (L : hk_mV y.cls idx y' b' nL' ret' na) (hc : hk_Ctr G l d' y' b' nL' ret' k' n' (.ref a :: As) h Q' X') (hst : st0 = As.reverse ++ .ref a :: st) (hna : As.length = na) (ha : h a = some (.inr (ci, fs))) (hcl : vwCl[ci]? = some r) (hrc : r.1 = y'.cls) (hdp : d' + 1 ≤ d ∧ 8 + (nL' + 11) + 64 * d' ≤ 64 * d) (hkk : k' ≤ k ∧ n' ≤ n) (hrm : (st.map fun v => v.category).sum ≤ 8)
    (kk : ∀ (r : Option Value) (h' : hk_H), Q' r h' → hk_W G l d y b nL ret hh Q X (k - k') (n - n') h' pc' lv (r.toList ++ st)) (kx : ∀ (E : String) (h' : hk_H), X' E h' → hk_WX G l d y b nL ret hh Q X (k - k') (n - n') h' pc lv st E) : hk_W G l d y b nL ret hh Q X k n h pc lv st0 := by
  subst hp
  subst hst
  intro p e s m args below meth c H locs cells slots mc ms ls C hk hn hO hL hl
  obtain ⟨l1, l2, l3, l4, l5, l6, l7⟩ := L
  have hrecv := hk_recv C hO ha hcl
  rw [hrc] at hrecv
  refine hk_after (vx_runV (own := y.cls) (C := y'.cls) (As := As) (rest := st) ⟨C.exec, C.bytes, C.maxL, C.own, C.words⟩ hc (cwV na C.words (fun w hw => ?_) rfl rfl rfl ⟨rfl, l6.1, l6.2, l7⟩ hdp) ⟨hk_Pc_blind, hrecv, fun U hU hW => hk_start C hO U hU hW⟩ rfl hna (hl.1.trans hL) rfl (lv_room hrm) hd ⟨Nat.le_trans (Nat.add_le_add_left hkk.1 _) hk, Nat.le_trans (Nat.add_le_add_left hkk.2 _) hn⟩) C hk hn hO hL hl hkk.1 hkk.2 kk kx
  rcases List.mem_append.mp hw with hw | hw
  · simp only [List.mem_cons, List.not_mem_nil, or_false] at hw
    rcases hw with rfl | rfl | rfl | rfl
    · exact hk_all_good _ l1
    · exact hk_all_good _ l2
    · exact hk_all_good _ l3
    · exact hk_all_good _ l4
  · exact hk_good l5 w hw
theorem hk_callS {y' : MethodName} {b' : ByteArray} {nL' na k' n' d' idx : Nat} {ret' : Option FieldType} {As st0 : List Value} {Q' : Option Value → hk_H → Prop} {X' : String → hk_H → Prop} (hd : decode b pc = .ok (.invokestatic idx, 3)) (hp : pc + 3 = pc') (L : hk_mS y.cls idx y' b' nL' ret' na) (hc : hk_Ctr G l d' y' b' nL' ret' k' n' As h Q' X') (hst : st0 = As.reverse ++ st) (hna : As.length = na) (hdp : d' + 1 ≤ d ∧ 8 + (nL' + 11) + 64 * d' ≤ 64 * d) (hkk : k' ≤ k ∧ n' ≤ n) (hrm : (st.map fun v => v.category).sum ≤ 8)
    (kk : ∀ (r : Option Value) (h' : hk_H), Q' r h' → hk_W G l d y b nL ret hh Q X (k - k') (n - n') h' pc' lv (r.toList ++ st)) (kx : ∀ (E : String) (h' : hk_H), X' E h' → hk_WX G l d y b nL ret hh Q X (k - k') (n - n') h' pc lv st E) : hk_W G l d y b nL ret hh Q X k n h pc lv st0 := by
  subst hp
  subst hst
  intro p e s m args below meth c H locs cells slots mc ms ls C hk hn hO hL hl
  obtain ⟨l1, l2, l4, l5, l6, l7⟩ := L
  exact hk_after (vx_runS (own := y.cls) (As := As) (rest := st) ⟨C.exec, C.bytes, C.maxL, C.own, C.words⟩ hc ⟨callB_of na C.words (hk_good l5) rfl rfl rfl (C.words _ l4) (C.words _ l1) ⟨l6.1, l6.2, l7⟩ hdp, C.words _ l2⟩ ⟨hk_Pc_blind, fun U hU hW => hk_start C hO U hU hW⟩ rfl hna (hl.1.trans hL) rfl (lv_room hrm) hd ⟨Nat.le_trans (Nat.add_le_add_left hkk.1 _) hk, Nat.le_trans (Nat.add_le_add_left hkk.2 _) hn⟩) C hk hn hO hL hl hkk.1 hkk.2 kk kx
theorem hk_callI {y' : MethodName} {b' : ByteArray} {nL' na k' n' d' idx : Nat} {a : Nat} {As st0 : List Value} {Q' : Option Value → hk_H → Prop} {X' : String → hk_H → Prop} (hd : decode b pc = .ok (.invokespecial idx, 3)) (hp : pc + 3 = pc') (L : hk_mI y.cls idx y' b' nL' na) (hc : hk_Ctr G l d' y' b' nL' none k' n' (.ref a :: As) h Q' X') (hst : st0 = As.reverse ++ .ref a :: st) (hna : As.length = na) (hdp : d' + 1 ≤ d ∧ 8 + (nL' + 11) + 64 * d' ≤ 64 * d) (hkk : k' ≤ k ∧ n' ≤ n) (hrm : (st.map fun v => v.category).sum ≤ 8)
    (kk : ∀ (r : Option Value) (h' : hk_H), Q' r h' → hk_W G l d y b nL ret hh Q X (k - k') (n - n') h' pc' lv (r.toList ++ st)) (kx : ∀ (E : String) (h' : hk_H), X' E h' → hk_WX G l d y b nL ret hh Q X (k - k') (n - n') h' pc lv st E) : hk_W G l d y b nL ret hh Q X k n h pc lv st0 := by
  subst hp
  subst hst
  intro p e s m args below meth c H locs cells slots mc ms ls C hk hn hO hL hl
  obtain ⟨l1, l2, l3, l4, l5, l6, l7⟩ := L
  rcases l1 with l1 | ⟨host, l1⟩
  · exact hk_after (vx_runI (own := y.cls) (As := As) (rest := st) ⟨C.exec, C.bytes, C.maxL, C.own, C.words⟩ hc ⟨callB_of na C.words (hk_good l5) rfl rfl rfl (C.words _ l4) (C.words _ l1) ⟨l6.1, l6.2, l7⟩ hdp, l3, C.words _ l2⟩ ⟨hk_Pc_blind, fun U hU hW => hk_start C hO U hU hW⟩ rfl hna (hl.1.trans hL) rfl (lv_room hrm) hd ⟨Nat.le_trans (Nat.add_le_add_left hkk.1 _) hk, Nat.le_trans (Nat.add_le_add_left hkk.2 _) hn⟩) C hk hn hO hL hl hkk.1 hkk.2 kk kx
  · exact hk_after (vx_runIN (own := y.cls) (host := host) (As := As) (rest := st) ⟨C.exec, C.bytes, C.maxL, C.own, C.words⟩ hc ⟨va_cnB na C.words (hk_good l5) rfl rfl rfl (C.F.2.2.2.2.2.1 _ l1 rfl) (C.words _ l4) ⟨l6.1, l6.2, l7⟩ hdp, l3, C.words _ l2⟩ ⟨hk_Pc_blind, fun U hU hW => hk_start C hO U hU hW⟩ rfl hna (hl.1.trans hL) rfl (lv_room hrm) hd ⟨Nat.le_trans (Nat.add_le_add_left hkk.1 _) hk, Nat.le_trans (Nat.add_le_add_left hkk.2 _) hn⟩) C hk hn hO hL hl hkk.1 hkk.2 kk kx
theorem hk_objInit {a idx : Nat} (hd : decode b pc = .ok (.invokespecial idx, 3)) (hp : pc + 3 = pc') (L : Cond.methodLink y.cls idx objectInit ∈ hk_all ∧ Cond.instanceMethod objectInit ∈ hk_all ∧ Cond.code objectInit ⟨#[0xb1]⟩ 1 none ∈ hk_all) (hd1 : 1 ≤ d) (hrm : st = []) (kk : hk_W G l d y b nL ret hh Q X k n h pc' lv st) : hk_W G l d y b nL ret hh Q X k n h pc lv (.ref a :: st) := by
  subst hp
  subst hrm
  intro p e s m args below meth c H locs cells slots mc ms ls C hk hn hO hL hl
  refine W.objInit C.exec C.bytes C.own (C.words _ L.1) (C.words _ L.2.1) (C.words _ L.2.2) rfl (by rw [C.maxL]; exact hl.1.trans hL) rfl hd ?_ ?_ ?_
  · show 1 ≤ d
    exact hd1
  · show _ ≤ 64 * d
    simp
    omega
  · exact W.eq (g2 := F0 m (pc + 3) ls []) rfl (kk p e s m args below meth c H locs cells slots mc ms ls C hk hn hO hL hl)
-- a new object of class ci
def hk_nw (own : String) (idx ci N : Nat) (fs : List Value) : Prop := ∃ (K : String) (T : u_T) (ty : Nat → FieldType), hk_cls ci K T N ty ∧ Cond.classLink own idx K ∈ hk_all ∧ Cond.instantiable K N ∈ hk_all ∧ Cond.initialized K ∈ hk_all ∧ ∀ j, j < N → defaultValue (ty j) = vp_V fs j
theorem hk_new {idx ci N : Nat} {fs : List Value} (hd : decode b pc = .ok (.new idx, 3)) (hp : pc + 3 = pc') (L : hk_nw y.cls idx ci N fs) (hb : 1 ≤ k ∧ N ≤ n) (kk : ∀ q : Nat, h q = none → hk_W G l d y b nL ret hh Q X (k - 1) (n - N) (hk_set h q (.inr (ci, fs))) pc' lv (.ref q :: st)) : hk_W G l d y b nL ret hh Q X k n h pc lv st := by
  subst hp
  intro p e s m args below meth c H locs cells slots mc ms ls C hk hn hO hL hl
  obtain ⟨K, T, ty, hc, h1, h2, h3, h4⟩ := L
  have hKn := C.F.1 ci _ hc.1
  refine W.newcK C.exec C.bytes C.own (C.words _ h1) (C.words _ h2) (C.words _ h3) rfl hd (by show cells + 1 ≤ mc; omega) (by show slots + N ≤ ms; omega) hKn.2.1 rfl fun H1 kC hkC e1 z1 o1 => ?_
  have hA : hk_A G H.size := Nat.le_trans C.base hO.2.1
  obtain ⟨g1, g2⟩ := hO.1.push (x' := .inr (ci, fs)) hA ⟨_, hc.1, (u_born ty C.words hc.2.1 hKn hkC e1 hc.2.2.1).to h4⟩ o1
  exact kk H.size g1 p e s m args below meth c H1 locs (cells + 1) (slots + N) mc ms ls C (by omega) (by omega) ⟨g2, ⟨Nat.le_trans hO.2.1 (by omega), fun x hx1 hx2 => (o1 x (Nat.lt_of_lt_of_le hx1 hO.2.1)).trans (hO.2.2.1 x hx1 hx2), hO.2.2.2⟩⟩ hL hl
theorem hk_newa {at9 : ArrayType} {t N : Nat} {z : Int32} (hd : decode b pc = .ok (.newarray at9, 2)) (hp : pc + 2 = pc') (ht : t < 7) (hty : newarray.typeOf at9 = hk_ty t) (hdf : defaultValue (hk_ty t) = .int 0) (hra : ∀ (U : State) (cA : ClassId), va_RA U cA (hk_ty t) → U.vm.findClass ("[" ++ (hk_ty t).toString) = some cA) (hw : Cond.arrayClass (hk_ty t) ∈ hk_all) (hz : ¬ z < 0) (hN : z.toNatClampNeg = N) (hby : N * componentBytes (hk_ty t) ≤ 536870912) (hb : 1 ≤ k ∧ N ≤ n) (kk : ∀ q : Nat, h q = none → hk_W G l d y b nL ret hh Q X (k - 1) (n - N) (hk_set h q (.inl (t, N, .inl (fun _ => 0)))) pc' lv (.ref q :: st)) : hk_W G l d y b nL ret hh Q X k n h pc lv (.int z :: st) := by
  subst hp
  intro p e s m args below meth c H locs cells slots mc ms ls C hk hn hO hL hl
  refine va_newaK C.exec C.bytes (by rw [hty]; exact C.words _ hw) rfl hd rfl hz hN (by rw [hty]; exact hby) (by show cells + 1 ≤ mc; omega) (by show slots + N ≤ ms; omega) rfl fun H1 cA e1 z1 o1 hAr hNm => ?_
  have hcA : cA = hk_dA G t := by
    have h1 := hra s _ (C.F.2.1 t ht).2
    rw [hty] at hNm
    exact Option.some.inj (hNm.symm.trans h1)
  subst hcA
  have hA : hk_A G H.size := Nat.le_trans C.base hO.2.1
  obtain ⟨g1, g2⟩ := hO.1.push (x' := .inl (t, N, .inl (fun _ => 0))) hA (by show H1[H.size]? = some (arrV (hk_dA G t) N (fun _ => .int 0)); rw [e1, hty, hdf]) o1
  exact kk H.size g1 p e s m args below meth c H1 locs (cells + 1) (slots + N) mc ms ls C (by omega) (by omega) ⟨g2, ⟨Nat.le_trans hO.2.1 (by omega), fun x hx1 hx2 => (o1 x (Nat.lt_of_lt_of_le hx1 hO.2.1)).trans (hO.2.2.1 x hx1 hx2), hO.2.2.2⟩⟩ hL hl
theorem hk_newaL {at9 : ArrayType} {t N : Nat} {z : Int32} (hd : decode b pc = .ok (.newarray at9, 2)) (hp : pc + 2 = pc') (ht : t < 7) (hty : newarray.typeOf at9 = hk_ty t) (hdf : defaultValue (hk_ty t) = .long 0) (hra : ∀ (U : State) (cA : ClassId), va_RA U cA (hk_ty t) → U.vm.findClass ("[" ++ (hk_ty t).toString) = some cA) (hw : Cond.arrayClass (hk_ty t) ∈ hk_all) (hz : ¬ z < 0) (hN : z.toNatClampNeg = N) (hby : N * componentBytes (hk_ty t) ≤ 536870912) (hb : 1 ≤ k ∧ N ≤ n) (kk : ∀ q : Nat, h q = none → hk_W G l d y b nL ret hh Q X (k - 1) (n - N) (hk_set h q (.inl (t, N, .inr (.inl (fun _ => 0))))) pc' lv (.ref q :: st)) : hk_W G l d y b nL ret hh Q X k n h pc lv (.int z :: st) := by
  subst hp
  intro p e s m args below meth c H locs cells slots mc ms ls C hk hn hO hL hl
  refine va_newaK C.exec C.bytes (by rw [hty]; exact C.words _ hw) rfl hd rfl hz hN (by rw [hty]; exact hby) (by show cells + 1 ≤ mc; omega) (by show slots + N ≤ ms; omega) rfl fun H1 cA e1 z1 o1 hAr hNm => ?_
  have hcA : cA = hk_dA G t := by
    have h1 := hra s _ (C.F.2.1 t ht).2
    rw [hty] at hNm
    exact Option.some.inj (hNm.symm.trans h1)
  subst hcA
  have hA : hk_A G H.size := Nat.le_trans C.base hO.2.1
  obtain ⟨g1, g2⟩ := hO.1.push (x' := .inl (t, N, .inr (.inl (fun _ => 0)))) hA (by show H1[H.size]? = some (arrV (hk_dA G t) N (fun _ => .long 0)); rw [e1, hty, hdf]) o1
  exact kk H.size g1 p e s m args below meth c H1 locs (cells + 1) (slots + N) mc ms ls C (by omega) (by omega) ⟨g2, ⟨Nat.le_trans hO.2.1 (by omega), fun x hx1 hx2 => (o1 x (Nat.lt_of_lt_of_le hx1 hO.2.1)).trans (hO.2.2.1 x hx1 hx2), hO.2.2.2⟩⟩ hL hl
theorem hk_newaD {at9 : ArrayType} {t N : Nat} {z : Int32} (hd : decode b pc = .ok (.newarray at9, 2)) (hp : pc + 2 = pc') (ht : t < 7) (hty : newarray.typeOf at9 = hk_ty t) (hdf : defaultValue (hk_ty t) = .double 0) (hra : ∀ (U : State) (cA : ClassId), va_RA U cA (hk_ty t) → U.vm.findClass ("[" ++ (hk_ty t).toString) = some cA) (hw : Cond.arrayClass (hk_ty t) ∈ hk_all) (hz : ¬ z < 0) (hN : z.toNatClampNeg = N) (hby : N * componentBytes (hk_ty t) ≤ 536870912) (hb : 1 ≤ k ∧ N ≤ n) (kk : ∀ q : Nat, h q = none → hk_W G l d y b nL ret hh Q X (k - 1) (n - N) (hk_set h q (.inl (t, N, .inr (.inr (.inr (.inl (fun _ => 0))))))) pc' lv (.ref q :: st)) : hk_W G l d y b nL ret hh Q X k n h pc lv (.int z :: st) := by
  subst hp
  intro p e s m args below meth c H locs cells slots mc ms ls C hk hn hO hL hl
  refine va_newaK C.exec C.bytes (by rw [hty]; exact C.words _ hw) rfl hd rfl hz hN (by rw [hty]; exact hby) (by show cells + 1 ≤ mc; omega) (by show slots + N ≤ ms; omega) rfl fun H1 cA e1 z1 o1 hAr hNm => ?_
  have hcA : cA = hk_dA G t := by
    have h1 := hra s _ (C.F.2.1 t ht).2
    rw [hty] at hNm
    exact Option.some.inj (hNm.symm.trans h1)
  subst hcA
  have hA : hk_A G H.size := Nat.le_trans C.base hO.2.1
  obtain ⟨g1, g2⟩ := hO.1.push (x' := .inl (t, N, .inr (.inr (.inr (.inl (fun _ => 0)))))) hA (by show H1[H.size]? = some (arrV (hk_dA G t) N (fun _ => .double 0)); rw [e1, hty, hdf]) o1
  exact kk H.size g1 p e s m args below meth c H1 locs (cells + 1) (slots + N) mc ms ls C (by omega) (by omega) ⟨g2, ⟨Nat.le_trans hO.2.1 (by omega), fun x hx1 hx2 => (o1 x (Nat.lt_of_lt_of_le hx1 hO.2.1)).trans (hO.2.2.1 x hx1 hx2), hO.2.2.2⟩⟩ hL hl
-- throw new E("text")
def hk_th (ik ic : Nat) (E : String) : Prop := Bundle.fit E = true ∧ Cond.classLink RX6 ik E ∈ hk_all ∧ Cond.initialized E ∈ hk_all ∧ (∀ w ∈ (vx_atS RX6 ic E ["java/lang/RuntimeException", "java/lang/Exception"]).filter goodWord, w ∈ lw_tbl) ∧ (∀ w ∈ (vx_atS RX6 ic E ["java/lang/RuntimeException", "java/lang/Exception"]).filter (fun w => !goodWord w), w ∈ lw_tbl ∧ hk_isN w = true) ∧ ∀ w ∈ Cond.classLink RX6 ik E :: Cond.initialized E :: vx_atS RX6 ic E ["java/lang/RuntimeException", "java/lang/Exception"], vx_ot w = true
theorem hk_Nw_use {w : Cond} (hw : hk_isN w = true) {A : Array Value} {U : State} (h : va_Nw w U) : w.before A U = true := va_Nw.use (by cases w <;> simp_all [hk_isN, Cond.onTables]) h
theorem hk_throw {ik ic is : Nat} {E tx : String} (hy : y.cls = RX6) (hh0 : hh = []) (L : hk_th ik ic E) (hs : (is, tx) ∈ hk_strs) (d0 : decode b pc = .ok (.new ik, 3)) (d3 : decode b (pc + 3) = .ok (.dup, 1)) (d4 : decode b (pc + 4) = .ok (.ldc is, 2)) (d6 : decode b (pc + 6) = .ok (.invokespecial ic, 3)) (d9 : decode b (pc + 9) = .ok (.athrow, 1)) (hd6 : 6 ≤ d) (hb : 1 ≤ k ∧ 6 ≤ n) (hrm : (st.map fun v => v.category).sum ≤ 8) (hx : X E h) : hk_W G l d y b nL ret hh Q X k n h pc lv st := by
  subst hh0
  intro p e s m args below meth c H locs cells slots mc ms ls C hk hn hO hL hl
  obtain ⟨l1, l2, l3, l4, l5, l6⟩ := L
  have hown := C.own
  rw [hy] at hown
  have hat : ∀ w ∈ vx_atS RX6 ic E ["java/lang/RuntimeException", "java/lang/Exception"], w.before args s = true := fun w hw => by
    by_cases g : goodWord w = true
    · exact C.words w (List.mem_filter.mpr ⟨l4 w (List.mem_filter.mpr ⟨hw, g⟩), g⟩)
    · obtain ⟨q1, q2⟩ := l5 w (List.mem_filter.mpr ⟨hw, by simp [g]⟩)
      exact hk_Nw_use q2 (C.F.2.2.2.2.2.1 w q1 q2)
  exact vx_throwS C.exec C.bytes C.flag hown l1 (by decide) (C.words _ l2) (C.words _ l3) (C.F.2.2.2.2.1 _ hs) hat l6 C.F.2.2.1 C.F.2.2.2.1 hO.2 ((hl.1.trans hL).trans C.maxL.symm) d0 d3 d4 d6 d9 (by intro x hx; rw [C.table] at hx; cases hx) (by show 2 + 3 < d; omega) (by show _ ≤ 64 * d; simp only [List.length_cons, List.length_nil]; omega) (by show cells + 1 ≤ mc; omega) (by show slots + 6 ≤ ms; omega) C.locks (fun t hA hz ho => ⟨h, hx, fun a x hax => ⟨(hO.1 a x hax).1, (hO.1 a x hax).2.kept (ho a (hO.1.lt hax))⟩, ⟨Nat.le_trans hO.2.1 hz, fun q h1 h2 => (ho q (Nat.lt_of_lt_of_le h1 hO.2.1)).trans (hO.2.2.1 q h1 h2)⟩⟩) hO.2.2.2 (by omega) (by omega)
theorem hk_throwW {ik ic is : Nat} {E tx : String} (hy : y.cls = RX6) (hh0 : hh = []) (L : hk_th ik ic E) (hs : (is, tx) ∈ hk_strs) (d0 : decode b pc = .ok (.new ik, 3)) (d3 : decode b (pc + 3) = .ok (.dup, 1)) (d4 : decode b (pc + 4) = .ok (.ldc_w is, 3)) (d6 : decode b (pc + 7) = .ok (.invokespecial ic, 3)) (d9 : decode b (pc + 10) = .ok (.athrow, 1)) (hd6 : 6 ≤ d) (hb : 1 ≤ k ∧ 6 ≤ n) (hrm : (st.map fun v => v.category).sum ≤ 8) (hx : X E h) : hk_W G l d y b nL ret hh Q X k n h pc lv st := by
  subst hh0
  intro p e s m args below meth c H locs cells slots mc ms ls C hk hn hO hL hl
  obtain ⟨l1, l2, l3, l4, l5, l6⟩ := L
  have hown := C.own
  rw [hy] at hown
  have hat : ∀ w ∈ vx_atS RX6 ic E ["java/lang/RuntimeException", "java/lang/Exception"], w.before args s = true := fun w hw => by
    by_cases g : goodWord w = true
    · exact C.words w (List.mem_filter.mpr ⟨l4 w (List.mem_filter.mpr ⟨hw, g⟩), g⟩)
    · obtain ⟨q1, q2⟩ := l5 w (List.mem_filter.mpr ⟨hw, by simp [g]⟩)
      exact hk_Nw_use q2 (C.F.2.2.2.2.2.1 w q1 q2)
  exact vx_throwSW C.exec C.bytes C.flag hown l1 (by decide) (C.words _ l2) (C.words _ l3) (C.F.2.2.2.2.1 _ hs) hat l6 C.F.2.2.1 C.F.2.2.2.1 hO.2 ((hl.1.trans hL).trans C.maxL.symm) d0 d3 d4 d6 d9 (by intro x hx; rw [C.table] at hx; cases hx) (by show 2 + 3 < d; omega) (by show _ ≤ 64 * d; simp only [List.length_cons, List.length_nil]; omega) (by show cells + 1 ≤ mc; omega) (by show slots + 6 ≤ ms; omega) C.locks (fun t hA hz ho => ⟨h, hx, fun a x hax => ⟨(hO.1 a x hax).1, (hO.1 a x hax).2.kept (ho a (hO.1.lt hax))⟩, ⟨Nat.le_trans hO.2.1 hz, fun q h1 h2 => (ho q (Nat.lt_of_lt_of_le h1 hO.2.1)).trans (hO.2.2.1 q h1 h2)⟩⟩) hO.2.2.2 (by omega) (by omega)
end HK2

-- THE LAYER: a walk over an abstract heap. h : address -> contents; everything at or above the law's own start (G's base) is the system's
abbrev hk_E : Type := (Nat × vp_A) ⊕ (Nat × List Value)
abbrev hk_H : Type := Nat → Option hk_E
-- class numbers, slots, array classes by tag, the base, known addresses below it
abbrev hk_G : Type := (Nat → ClassId) × (Nat → Nat → Nat) × (Nat → ClassId) × Nat × (Nat → Nat)
def hk_D (G : hk_G) : va_G := (G.1, G.2.1)
def hk_dA (G : hk_G) : Nat → ClassId := G.2.2.1
def hk_B (G : hk_G) : Nat := G.2.2.2.1
def hk_K (G : hk_G) : Nat → Nat := G.2.2.2.2
def hk_A (G : hk_G) : Nat → Prop := fun q => hk_B G ≤ q
def hk_ty (t : Nat) : FieldType := match t with
  | 0 => .int
  | 1 => .boolean
  | 2 => .long
  | 3 => .double
  | 4 => .char
  | 5 => .object "java/lang/Object"
  | _ => .array .int
def hk_cv (G : hk_G) (x : hk_E) : va_E := match x with
  | .inl a => .inl (hk_dA G a.1, a.2)
  | .inr o => .inr o
def hk_P (G : hk_G) (h : hk_H) (H : Heap) : Prop := ∀ (a : Nat) (x : hk_E), h a = some x → hk_A G a ∧ va_at (hk_D G) vwCl (a, hk_cv G x) H
def hk_set (h : hk_H) (a : Nat) (x : hk_E) : hk_H := fun q => if q = a then some x else h q
theorem hk_set_eq {h : hk_H} {a : Nat} {x : hk_E} : hk_set h a x a = some x := if_pos rfl
theorem hk_set_ne {h : hk_H} {a q : Nat} {x : hk_E} (hq : q ≠ a) : hk_set h a x q = h q := if_neg hq
theorem hk_P.set {G : hk_G} {h : hk_H} {H H1 : Heap} {a : Nat} {x x' : hk_E} (hP : hk_P G h H) (ha : h a = some x) (he : va_at (hk_D G) vwCl (a, hk_cv G x') H1) (oq : ∀ q : Nat, q ≠ a → H1[q]? = H[q]?) : hk_P G (hk_set h a x') H1 := by
  intro q y hy
  by_cases hq : q = a
  · subst hq
    rw [hk_set_eq] at hy
    cases hy
    exact ⟨(hP q x ha).1, he⟩
  · rw [hk_set_ne hq] at hy
    exact ⟨(hP q y hy).1, (hP q y hy).2.kept (oq q hq)⟩
theorem hk_P.lt {G : hk_G} {h : hk_H} {H : Heap} (hP : hk_P G h H) {a : Nat} {x : hk_E} (ha : h a = some x) : a < H.size := (hP a x ha).2.lt
theorem hk_P.push {G : hk_G} {h : hk_H} {H H1 : Heap} {x' : hk_E} (hP : hk_P G h H) (hA : hk_A G H.size) (he : va_at (hk_D G) vwCl (H.size, hk_cv G x') H1) (oq : ∀ q : Nat, q < H.size → H1[q]? = H[q]?) : h H.size = none ∧ hk_P G (hk_set h H.size x') H1 := by
  have hn : h H.size = none := by
    cases hz : h H.size with
    | none => rfl
    | some y => exact absurd (hP.lt hz) (Nat.lt_irrefl _)
  refine ⟨hn, fun q y hy => ?_⟩
  by_cases hq : q = H.size
  · subst hq
    rw [hk_set_eq] at hy
    cases hy
    exact ⟨hA, he⟩
  · rw [hk_set_ne hq] at hy
    exact ⟨(hP q y hy).1, (hP q y hy).2.kept (oq q (hP.lt hy))⟩
-- what lies still and is known: the classes, the array classes, statics, String constants, words that are no good ones
def hk_isN (w : Cond) : Bool := match w with
  | .fieldLinkNest .. => true
  | .methodLinkNest .. => true
  | .castable .. => true
  | .declares .. => true
  | _ => false
theorem hk_Nw_warm {s U : State} (hW : s.WarmedH U.vm) : ∀ (w : Cond), hk_isN w = true → va_Nw w s → va_Nw w U
  | .fieldLinkNest a i b n d hh, _, h => va_Nw.warmF hW h
  | .methodLinkNest a i x hh, _, h => va_Nw.warmM hW h
  | .castable C T, _, h => va_Nw.warmC hW h
  | .declares x, _, h => va_Nw.warmD hW h
def hk_strs : List (Nat × String) := [(57, "no such kind"), (68, "no more houses"), (276, "no such house"), (285, "no such metal"), (287, "a number is out of range"), (293, "the house failed"), (113, "not enough ore"), (119, "too many coins"), (279, "there never was such a coin"), (295, "the coin was melted"), (135, "too little would be left"), (289, "the houses are the same"), (297, "not so many coins"), (291, "it is no bank"), (299, "the claim is less"), (188, "no more bills"), (281, "no such bill"), (199, "the bill came due"), (204, "no more endorsers"), (283, "no such voyage"), (230, "no share"), (306, "there are no coins")]
-- interface calls of the lists: the class, the interface's method, the class's own
def hk_fws : List (String × MethodName × MethodName) := [
  (RJx4a65c, ⟨"java/util/List", "add", "(Ljava/lang/Object;)Z"⟩, yJx4a65c_add_9ea2d), (RJx4a65c, ⟨"java/util/List", "size", "()I"⟩, yJx4a65c_size_8abf5), (RJx4a65c, ⟨"java/util/List", "get", "(I)Ljava/lang/Object;"⟩, yJx4a65c_get_915e3),
  (RJx4a65c, ⟨"java/util/List", "iterator", "()Ljava/util/Iterator;"⟩, yJx4a65c_iterator_32c93), (RJx35411, ⟨"java/util/Iterator", "hasNext", "()Z"⟩, yJx35411_hasNext_aae02), (RJx35411, ⟨"java/util/Iterator", "next", "()Ljava/lang/Object;"⟩, yJx35411_next_0502b),
  (RJx4a65c, ⟨"java/util/List", "set", "(ILjava/lang/Object;)Ljava/lang/Object;"⟩, yJx4a65c_set_bcc79), (RJx4a65c, ⟨"java/util/List", "add", "(ILjava/lang/Object;)V"⟩, yJx4a65c_add_7a177), (RJx4a65c, ⟨"java/util/List", "addAll", "(Ljava/util/Collection;)Z"⟩, yJx4a65c_addAll_f0b43), (RJx4a65c, ⟨"java/util/Collection", "toArray", "()[Ljava/lang/Object;"⟩, yJx4a65c_toArray_d5877)]
theorem hk_fws_mh : ∀ q ∈ hk_fws, q.2.1.cls ≠ "java/lang/invoke/MethodHandle" ∧ q.2.1.cls ≠ "java/lang/invoke/VarHandle" := by decide +kernel
def hk_AOA (U : State) : Prop := (Cond.arrayOver (.array .int)).before #[] U = true
theorem hk_AOA.moved {u U : State} (hvm : u.vm.Alike U.vm) (h : hk_AOA u) : hk_AOA U := by
  unfold hk_AOA Cond.before Cond.holds at h ⊢
  simp only [Cond.value, beq_iff_eq] at h ⊢
  obtain ⟨comp, h1, h2⟩ := Option.bind_eq_some_iff.mp h
  obtain ⟨c, h3, h4⟩ := Option.bind_eq_some_iff.mp h2
  obtain ⟨k, h5, h6⟩ := Option.map_eq_some_iff.mp h4
  obtain ⟨k', hk', he⟩ := hvm.2.2 _ _ h5
  have hi := (va_idx_bare U.vm comp).symm
  first | rw [hvm.bare_eq] at hi | rw [← hvm.bare_eq] at hi
  have hi2 := hi.trans (va_idx_bare u.vm comp)
  refine Option.bind_eq_some_iff.mpr ⟨comp, by rw [hvm.findClass]; exact h1, Option.bind_eq_some_iff.mpr ⟨c, hi2.trans h3, Option.map_eq_some_iff.mpr ⟨k', hk', ?_⟩⟩⟩
  rw [show k'.kind = k.kind from by rw [he]]
  rw [hvm.findClass]
  exact h6
-- exceptions that are none of another class
def hk_ncs : List (String × String) := [("java/lang/IllegalArgumentException", "java/lang/IndexOutOfBoundsException"), ("java/lang/IllegalStateException", "java/lang/IndexOutOfBoundsException"), ("java/lang/UnsupportedOperationException", "java/lang/IndexOutOfBoundsException"), ("java/lang/IllegalStateException", "java/lang/IllegalArgumentException"), ("java/lang/UnsupportedOperationException", "java/lang/IllegalArgumentException"), ("java/lang/UnsupportedOperationException", "java/lang/IllegalStateException")]
-- the law's script: its address, its length, its ints
def hk_scr (G : hk_G) (U : State) (H : Heap) : Prop := va_X (hk_K G 1100) (hk_K G 1101) (fun j => nI (hk_K G (4000 + j))) U H ∧ ¬ hk_A G (hk_K G 1100) ∧ hk_K G 1101 ≤ 2560 ∧ ∀ q ∈ hk_ncs, va_Nc q.1 q.2 U
-- what of the JDK lies still and is known: the empty list's row, the small Characters and Integers, the String "gs", the class object of Object[]
def hk_J (G : hk_G) (U : State) (H : Heap) : Prop :=
  (va_Z "java/util/ArrayList" "DEFAULTCAPACITY_EMPTY_ELEMENTDATA" "[Ljava/lang/Object;" (.ref (hk_K G 1001)) (hk_A G) U H ∧ va_T (.object "java/lang/Object") (hk_K G 1001) 0 (fun _ => .null) (hk_A G) U H ∧ va_O "[Ljava/lang/Object;" (hk_K G 1001) (hk_A G) U H) ∧
  (va_Z "java/lang/Character$CharacterCache" "cache" "[Ljava/lang/Character;" (.ref (hk_K G 1002)) (hk_A G) U H ∧ va_T (.object "java/lang/Character") (hk_K G 1002) 128 (fun i => .ref (hk_K G (2000 + i))) (hk_A G) U H ∧
    (∀ i : Nat, i < 128 → va_O "java/lang/Character" (hk_K G (2000 + i)) (hk_A G) U H ∧ va_OF "java/lang/Character" "value" "C" (.int (nI i)) (hk_K G (2000 + i)) (hk_A G) U H)) ∧
  (va_Z "java/lang/Integer$IntegerCache" "high" "I" (.int 127) (hk_A G) U H ∧ va_Z "java/lang/Integer$IntegerCache" "cache" "[Ljava/lang/Integer;" (.ref (hk_K G 1003)) (hk_A G) U H ∧ va_T (.object "java/lang/Integer") (hk_K G 1003) 256 (fun i => .ref (hk_K G (3000 + i))) (hk_A G) U H ∧
    (∀ i : Nat, i < 256 → va_O "java/lang/Integer" (hk_K G (3000 + i)) (hk_A G) U H ∧ va_OF "java/lang/Integer" "value" "I" (.int (nI i - 128)) (hk_K G (3000 + i)) (hk_A G) U H)) ∧
  (va_Z "java/lang/String" "COMPACT_STRINGS" "Z" (.int 1) (hk_A G) U H ∧ vk_R RX9 72 "gs" (hk_K G 1004) U ∧ va_O "java/lang/String" (hk_K G 1004) (hk_A G) U H ∧ va_OF "java/lang/String" "coder" "B" (.int 0) (hk_K G 1004) (hk_A G) U H ∧ va_OF "java/lang/String" "value" "[B" (.ref (hk_K G 1005)) (hk_K G 1004) (hk_A G) U H ∧ va_T .byte (hk_K G 1005) 2 (fun j => .int (if j = 0 then 103 else 115)) (hk_A G) U H) ∧
  va_Mi "[Ljava/lang/Object;" (hk_K G 1006) U ∧ (∀ q ∈ hk_fws, va_Fw q.1 q.2.1 q.2.2 U) ∧ va_AO "java/lang/Object" U ∧ hk_AOA U ∧ hk_scr G U H
theorem hk_J.warm {G : hk_G} {s U : State} {H H1 : Heap} (hW : s.WarmedH U.vm) (hq : ∀ a : Nat, a < H.size → ¬ hk_A G a → H1[a]? = H[a]?) (h : hk_J G s H) : hk_J G U H1 := by
  obtain ⟨⟨a1, a2, a3⟩, ⟨b1, b2, b3⟩, ⟨c1, c2, c3, c4⟩, ⟨d1, d2, d3, d4, d5, d6⟩, e1, e2, e3, e4, e5, e6, e7, e9⟩ := h
  have e8 : hk_K G 1100 < H.size := by
    obtain ⟨scr, z, -⟩ := e5
    exact (Array.getElem?_eq_some_iff.mp z).1
  have hA := hW.alike
  exact ⟨⟨(a1.moved hA).kept hq, (a2.moved hA).kept hq, (a3.moved hA).kept hq⟩, ⟨(b1.moved hA).kept hq, (b2.moved hA).kept hq, fun i hi => ⟨((b3 i hi).1.moved hA).kept hq, ((b3 i hi).2.moved hA).kept hq⟩⟩, ⟨(c1.moved hA).kept hq, (c2.moved hA).kept hq, (c3.moved hA).kept hq, fun i hi => ⟨((c4 i hi).1.moved hA).kept hq, ((c4 i hi).2.moved hA).kept hq⟩⟩, ⟨(d1.moved hA).kept hq, d2.warm hW, (d3.moved hA).kept hq, (d4.moved hA).kept hq, (d5.moved hA).kept hq, (d6.moved hA).kept hq⟩, e1.moved hA, fun q hq => (e2 q hq).moved (hk_fws_mh q hq) hA, e3.moved hA, e4.moved hA, (e5.moved hA).kept (hq _ e8 e6), e6, e7, fun q hq => (e9 q hq).moved hA⟩
def hk_F (G : hk_G) (U : State) (H : Heap) : Prop :=
  (∀ (c : Nat) (q : vw_C), vwCl[c]? = some q → u_Kn U q.1 q.2.1 q.2.2 (G.1 c) (G.2.1 c)) ∧
  (∀ t : Nat, t < 7 → ArrOfT U (hk_dA G t) (hk_ty t) ∧ va_RA U (hk_dA G t) (hk_ty t)) ∧
  vx_Zq Bundle.tN "UNASSIGNED_STACK" Bundle.steD (hk_A G) U H ∧ vx_Zq Bundle.tN "SUPPRESSED_SENTINEL" Bundle.listD (hk_A G) U H ∧
  (∀ x ∈ hk_strs, vk_R RX6 x.1 x.2 (hk_K G x.1) U) ∧
  (∀ w ∈ lw_tbl, hk_isN w = true → va_Nw w U) ∧ hk_J G U H
theorem hk_F.warm {G : hk_G} {s U : State} {H H1 : Heap} (hW : s.WarmedH U.vm) (hq : ∀ a : Nat, a < H.size → ¬ hk_A G a → H1[a]? = H[a]?) (h : hk_F G s H) : hk_F G U H1 := by
  obtain ⟨h1, h2, h3, h4, h5, h6, h7⟩ := h
  have hA := hW.alike
  exact ⟨fun c q hc => u_Kn_moved hA (h1 c q hc), fun t ht => ⟨arrOfT_moved hA (h2 t ht).1, (h2 t ht).2.moved hA⟩, (h3.moved hA).kept hq, (h4.moved hA).kept hq, fun x hx => (h5 x hx).warm hW, fun w hw hn => hk_Nw_warm hW w hn (h6 w hw hn), h7.warm hW hq⟩
theorem hk_F.K {G : hk_G} {U : State} {H : Heap} (h : hk_F G U H) : va_K (hk_D G) vwCl [] U := ⟨h.1, fun k q hk => by simp at hk⟩
theorem hk_F.KT {G : hk_G} {U : State} {H : Heap} (h : hk_F G U H) {t : Nat} (ht : t < 7) : va_K (hk_D G) vwCl [(hk_dA G t, hk_ty t)] U := ⟨h.1, fun k q hk => by
  have hk0 : k < 1 := (List.getElem?_eq_some_iff.mp hk).1
  rw [show k = 0 by omega] at hk
  cases hk
  exact h.2.1 t ht⟩
-- the words that a method may ask of the tables
def hk_all : List Cond := lw_tbl.filter goodWord
theorem hk_all_good : GoodIn hk_all hk_all := fun w h => ⟨h, good_of_word (List.mem_filter.mp h).2⟩
theorem hk_w {i : Nat} {w : Cond} (h : lw_tbl[i]? = some w) (hg : goodWord w = true) : w ∈ hk_all := List.mem_filter.mpr ⟨List.mem_of_getElem? h, hg⟩
def hk_rm (d k n : Nat) : Room := { frames := d, cells := k, slots := n, locals := 64 * d }
-- a method's own surroundings
def hk_C (G : hk_G) (l : Launch) (y : MethodName) (b : ByteArray) (nL : Nat) (ret : Option FieldType) (hh : List (Nat × Nat × Nat × Nat)) (p : Program) (s : State) (m : MethodId) (args : Array Value) (meth : Method) (c : Code) : Prop :=
  p.tables.exec = Jvm.exec ∧ c.code = b ∧ meth.sig.returnType = ret ∧ c.maxLocals = nL ∧ s.vm.findClass y.cls = some m.cls ∧ (∀ w ∈ hk_all, w.before args s = true) ∧ meth.locks = false ∧ meth.name = y.name ∧ c.exceptionTable.toList = tableOf hh ∧ hk_F G s s.heap ∧ l.stackTraces = false ∧ hk_B G ≤ s.heap.size
def hk_O (G : hk_G) (h : hk_H) (s : State) (H : Heap) (locs : List Loc) : Prop := hk_P G h H ∧ va_S (hk_A G) s.heap H locs
def hk_Pc (G : hk_G) (h : hk_H) (As : List Value) : Array Value → State → Prop := fun v U => v = As.toArray ∧ hk_F G U U.heap ∧ hk_P G h U.heap ∧ hk_B G ≤ U.heap.size
def hk_Qc (G : hk_G) (Q : Option Value → hk_H → Prop) : Array Value → State → Outcome → State → Prop := fun _ st o t => ∃ (r : Option Value) (h' : hk_H), o = .returned r ∧ Q r h' ∧ hk_P G h' t.heap ∧ va_F (hk_A G) st t
def hk_XC (G : hk_G) (X : String → hk_H → Prop) : String → State → State → Prop := fun E st t => ∃ h' : hk_H, X E h' ∧ hk_P G h' t.heap ∧ va_F (hk_A G) st t
theorem hk_Pc_blind {G : hk_G} {h : hk_H} {As : List Value} : FrameBlind (hk_Pc G h As) := fun a U g mk q => ⟨q.1, hk_F.warm (s := U) (U := U.calling g mk a) (State.WarmedH.refl U) (fun _ _ _ => rfl) q.2.1, q.2.2⟩
def hk_ws (y : MethodName) (b : ByteArray) (nL : Nat) (ret : Option FieldType) : List Cond := .code y b nL ret :: hk_all
-- a method's contract on an abstract heap
def hk_Ctr (G : hk_G) (l : Launch) (d : Nat) (y : MethodName) (b : ByteArray) (nL : Nat) (ret : Option FieldType) (k n : Nat) (As : List Value) (h : hk_H) (Q : Option Value → hk_H → Prop) (X : String → hk_H → Prop) : Prop :=
  vx_Met l y (hk_ws y b nL ret) (hk_rm d k n) (hk_Pc G h As) (hk_Qc G Q) (hk_XC G X) k n (hk_A G)
-- the locals, by their places
def hk_L (ls : Array Slot) (lv : List (Option Value)) : Prop := ls.size = lv.length ∧ lv_wf ls ∧ ∀ (i : Nat) (v : Value), lv[i]? = some (some v) → ls[i]? = some (.val v)
def hk_en (lv : List (Option Value)) : List (Nat × Value) := (List.range lv.length).filterMap (fun j => (lv.getD j none).map (fun w => (j, w)))
theorem hk_en_in {lv : List (Option Value)} {i : Nat} {v : Value} : (i, v) ∈ hk_en lv ↔ lv[i]? = some (some v) := by
  unfold hk_en
  rw [List.mem_filterMap]
  constructor
  · rintro ⟨j, hj, h⟩
    rw [List.mem_range] at hj
    rw [List.getD_eq_getElem?_getD, List.getElem?_eq_getElem hj, Option.getD_some] at h
    cases hv : lv[j] with
    | none => rw [hv] at h; cases h
    | some w =>
      rw [hv] at h
      cases h
      rw [List.getElem?_eq_getElem hj, hv]
  · intro h
    have hj : i < lv.length := (List.getElem?_eq_some_iff.mp h).1
    refine ⟨i, List.mem_range.mpr hj, ?_⟩
    rw [List.getD_eq_getElem?_getD, h]
    rfl
theorem hk_L.has {ls : Array Slot} {lv : List (Option Value)} {nL : Nat} (h : hk_L ls lv) (hn : lv.length = nL) : lv_has ls nL (hk_en lv) := ⟨h.1.trans hn, h.2.1, fun q hq => h.2.2 q.1 q.2 (hk_en_in.mp hq)⟩
theorem hk_L.get {ls : Array Slot} {lv : List (Option Value)} {i : Nat} {v : Value} (h : hk_L ls lv) (hi : lv[i]? = some (some v)) : ls[i]? = some (.val v) := h.2.2 i v hi
def hk_g (l : List (Option Value)) (i : Nat) : Option Value := match l, i with
  | [], _ => none
  | x :: _, 0 => x
  | _ :: l, i + 1 => hk_g l i
def hk_s (l : List (Option Value)) (i : Nat) (v : Option Value) : List (Option Value) := match l, i with
  | [], _ => []
  | _ :: l, 0 => v :: l
  | x :: l, i + 1 => x :: hk_s l i v
theorem hk_g_iff : ∀ {l : List (Option Value)} {i : Nat} {v : Value}, hk_g l i = some v ↔ l[i]? = some (some v)
  | [], i, v => by simp [hk_g]
  | x :: l, 0, v => by simp [hk_g]
  | x :: l, i + 1, v => by simp [hk_g, hk_g_iff (l := l) (i := i) (v := v)]
theorem hk_g_of {l : List (Option Value)} {i : Nat} {v : Value} (h : hk_g l i = some v) : l[i]? = some (some v) := hk_g_iff.mp h
theorem hk_s_eq : ∀ (l : List (Option Value)) (i : Nat) (v : Option Value), hk_s l i v = l.set i v
  | [], i, v => by simp [hk_s]
  | x :: l, 0, v => by simp [hk_s]
  | x :: l, i + 1, v => by simp [hk_s, hk_s_eq l i v]
theorem hk_s_len {l : List (Option Value)} {i : Nat} {v : Option Value} : (hk_s l i v).length = l.length := by rw [hk_s_eq, List.length_set]
def hk_okv (x : Option Value) : Bool := match x with
  | some w => w.category == 1
  | none => true
def hk_ok (lv : List (Option Value)) (i : Nat) : Bool := match i with
  | 0 => true
  | j + 1 => hk_okv (hk_g lv j)
theorem hk_ok_ne {lv : List (Option Value)} {i j : Nat} {w : Value} (h : hk_ok lv i = true) (hj : lv[j]? = some (some w)) (he : j + 1 = i) : ¬ w.category = 2 := by
  subst he
  intro hc
  have h1 : hk_okv (hk_g lv j) = true := h
  rw [hk_g_iff.mpr hj] at h1
  simp [hk_okv, hc] at h1
theorem hk_L.set1 {ls' : Array Slot} {lv : List (Option Value)} {i nL : Nat} {v : Value} (h : lv_has ls' nL ((i, v) :: (hk_en lv).filter (fun q => !(q.1 == i) && !(q.1 + 1 == i && q.2.category == 2)))) (hn : lv.length = nL) (hok : hk_ok lv i = true) : hk_L ls' (lv.set i (some v)) := by
  refine ⟨by rw [h.1, List.length_set, hn], h.2.1, fun j w hj => ?_⟩
  by_cases e : j = i
  · subst e
    have hl : j < lv.length := by
      have := (List.getElem?_eq_some_iff.mp hj).1
      rwa [List.length_set] at this
    rw [List.getElem?_set_self hl] at hj
    cases hj
    exact h.2.2 _ List.mem_cons_self
  · rw [List.getElem?_set_ne (Ne.symm e)] at hj
    refine h.2.2 (j, w) (List.mem_cons_of_mem _ (List.mem_filter.mpr ⟨hk_en_in.mpr hj, ?_⟩))
    simp only [Bool.and_eq_true, Bool.not_eq_true', beq_eq_false_iff_ne, ne_eq, Bool.and_eq_false_iff]
    refine ⟨e, ?_⟩
    by_cases e2 : j + 1 = i
    · exact Or.inr (hk_ok_ne hok hj e2)
    · exact Or.inl e2
theorem hk_L.set2 {ls' : Array Slot} {lv : List (Option Value)} {i nL : Nat} {v : Value} (h : lv_has ls' nL ((i, v) :: (hk_en lv).filter (fun q => !(q.1 == i) && (!(q.1 == i + 1) && !(q.1 + 1 == i && q.2.category == 2))))) (hn : lv.length = nL) (hok : hk_ok lv i = true) : hk_L ls' ((lv.set i (some v)).set (i + 1) none) := by
  refine ⟨by rw [h.1, List.length_set, List.length_set, hn], h.2.1, fun j w hj => ?_⟩
  by_cases e3 : j = i + 1
  · subst e3
    by_cases hl : i + 1 < (lv.set i (some v)).length
    · rw [List.getElem?_set_self hl] at hj
      cases hj
    · rw [List.getElem?_eq_none (by rw [List.length_set]; omega)] at hj
      cases hj
  rw [List.getElem?_set_ne (Ne.symm e3)] at hj
  by_cases e : j = i
  · subst e
    have hl : j < lv.length := by
      have := (List.getElem?_eq_some_iff.mp hj).1
      rwa [List.length_set] at this
    rw [List.getElem?_set_self hl] at hj
    cases hj
    exact h.2.2 _ List.mem_cons_self
  · rw [List.getElem?_set_ne (Ne.symm e)] at hj
    refine h.2.2 (j, w) (List.mem_cons_of_mem _ (List.mem_filter.mpr ⟨hk_en_in.mpr hj, ?_⟩))
    simp only [Bool.and_eq_true, Bool.not_eq_true', beq_eq_false_iff_ne, ne_eq, Bool.and_eq_false_iff]
    refine ⟨e, e3, ?_⟩
    by_cases e2 : j + 1 = i
    · exact Or.inr (hk_ok_ne hok hj e2)
    · exact Or.inl e2
def hk_le (a b : List (Option Value)) : Prop := match a, b with
  | [], [] => True
  | none :: a, _ :: b => hk_le a b
  | some v :: a, some w :: b => v = w ∧ hk_le a b
  | _, _ => False
theorem hk_le_len : ∀ {a b : List (Option Value)}, hk_le a b → a.length = b.length ∧ ∀ (i : Nat) (v : Value), a[i]? = some (some v) → b[i]? = some (some v)
  | [], [], _ => ⟨rfl, fun i v h => by simp at h⟩
  | none :: a, x :: b, h => by
    obtain ⟨h1, h2⟩ := hk_le_len (a := a) (b := b) (by unfold hk_le at h; exact h)
    refine ⟨by simp [h1], fun i v hi => ?_⟩
    cases i with
    | zero => simp at hi
    | succ i => simpa using h2 i v (by simpa using hi)
  | some v :: a, some w :: b, h => by
    unfold hk_le at h
    obtain ⟨h1, h2⟩ := hk_le_len (a := a) (b := b) h.2
    refine ⟨by simp [h1], fun i u hi => ?_⟩
    cases i with
    | zero => rw [← h.1]; simpa using hi
    | succ i => simpa using h2 i u (by simpa using hi)
  | some v :: a, none :: b, h => by unfold hk_le at h; exact h.elim
  | none :: a, [], h => by unfold hk_le at h; exact h.elim
  | some v :: a, [], h => by unfold hk_le at h; exact h.elim
  | [], x :: b, h => by unfold hk_le at h; exact h.elim
theorem hk_L.weak {ls : Array Slot} {lv lv' : List (Option Value)} (h : hk_L ls lv) (hle : hk_le lv' lv) : hk_L ls lv' := ⟨h.1.trans (hk_le_len hle).1.symm, h.2.1, fun i v hi => h.2.2 i v ((hk_le_len hle).2 i v hi)⟩
-- a method's locals at its entry
def hk_l0 (As : List Value) : List (Option Value) := match As with
  | [] => []
  | v :: vs => if v.category = 2 then some v :: none :: hk_l0 vs else some v :: hk_l0 vs
theorem hk_l0_in : ∀ (As : List Value) (o i : Nat) (v : Value), (hk_l0 As)[i]? = some (some v) → (o + i, v) ∈ lv_args o As
  | [], o, i, v, h => by simp [hk_l0] at h
  | w :: As, o, i, v, h => by
    unfold hk_l0 at h
    unfold lv_args
    by_cases hc : w.category = 2
    · rw [if_pos hc] at h
      rw [if_pos hc]
      match i, h with
      | 0, h => simp at h; subst h; exact List.mem_cons_self
      | 1, h => simp at h
      | i + 2, h =>
        refine List.mem_cons_of_mem _ ?_
        have := hk_l0_in As (o + 2) i v (by simpa using h)
        rwa [show o + 2 + i = o + (i + 2) by omega] at this
    · rw [if_neg hc] at h
      rw [if_neg hc]
      match i, h with
      | 0, h => simp at h; subst h; exact List.mem_cons_self
      | i + 1, h =>
        refine List.mem_cons_of_mem _ ?_
        have := hk_l0_in As (o + 1) i v (by simpa using h)
        rwa [show o + 1 + i = o + (i + 1) by omega] at this
theorem hk_l0_len : ∀ (As : List Value), (hk_l0 As).length = (lg_sl As).length
  | [] => rfl
  | w :: As => by
    have ih := hk_l0_len As
    unfold hk_l0
    by_cases hc : w.category = 2
    · rw [if_pos hc]
      simp [lg_sl, hc] at ih ⊢
      omega
    · rw [if_neg hc]
      simp [lg_sl, hc] at ih ⊢
      omega
-- the walk
def hk_W (G : hk_G) (l : Launch) (d : Nat) (y : MethodName) (b : ByteArray) (nL : Nat) (ret : Option FieldType) (hh : List (Nat × Nat × Nat × Nat)) (Q : Option Value → hk_H → Prop) (X : String → hk_H → Prop) (k n : Nat) (h : hk_H) (pc : Nat) (lv : List (Option Value)) (st : List Value) : Prop :=
  ∀ (p : Program) (e : Env) (s : State) (m : MethodId) (args : Array Value) (below : List Frame) (meth : Method) (c : Code) (H : Heap) (locs : List Loc) (cells slots mc ms : Nat) (ls : Array Slot),
    hk_C G l y b nL ret hh p s m args meth c → cells + k ≤ mc → slots + n ≤ ms → hk_O G h s H locs → lv.length = nL → hk_L ls lv →
    W p l e (hk_rm d mc ms) s m args below meth c H locs cells slots (vx_MQ below (hk_Qc G Q) (hk_XC G X) args s mc ms (hk_A G)) (F0 m pc ls st)
-- E was thrown here
def hk_WX (G : hk_G) (l : Launch) (d : Nat) (y : MethodName) (b : ByteArray) (nL : Nat) (ret : Option FieldType) (hh : List (Nat × Nat × Nat × Nat)) (Q : Option Value → hk_H → Prop) (X : String → hk_H → Prop) (k n : Nat) (h : hk_H) (pc : Nat) (lv : List (Option Value)) (st : List Value) (E : String) : Prop :=
  ∀ (p : Program) (e : Env) (s : State) (m : MethodId) (args : Array Value) (below : List Frame) (meth : Method) (c : Code) (H : Heap) (locs : List Loc) (cells slots mc ms : Nat) (ls : Array Slot) (q : Addr) (ce : Cell),
    hk_C G l y b nL ret hh p s m args meth c → cells + k ≤ mc → slots + n ≤ ms → hk_O G h s H locs → lv.length = nL → hk_L ls lv → H[q]? = some ce → ce.vm = .none → s.vm.findClass E = some ce.cls →
    vx_W p l e (hk_rm d mc ms) s m args below meth c H locs cells slots (vx_MQ below (hk_Qc G Q) (hk_XC G X) args s mc ms (hk_A G)) (F0 m pc ls st) q
-- its rows
theorem hk_L.st1 {ls' : Array Slot} {lv : List (Option Value)} {i nL : Nat} {v : Value} (h : lv_has ls' nL ((i, v) :: (hk_en lv).filter (fun q => !(q.1 == i) && !(q.1 + 1 == i && q.2.category == 2)))) (hn : lv.length = nL) (hok : hk_ok lv i = true) : hk_L ls' (hk_s lv i (some v)) := by
  rw [hk_s_eq]
  exact hk_L.set1 h hn hok
theorem hk_L.st2 {ls' : Array Slot} {lv : List (Option Value)} {i nL : Nat} {v : Value} (h : lv_has ls' nL ((i, v) :: (hk_en lv).filter (fun q => !(q.1 == i) && (!(q.1 == i + 1) && !(q.1 + 1 == i && q.2.category == 2))))) (hn : lv.length = nL) (hok : hk_ok lv i = true) : hk_L ls' (hk_s (hk_s lv i (some v)) (i + 1) none) := by
  rw [hk_s_eq, hk_s_eq]
  exact hk_L.set2 h hn hok
theorem hk_en_at {lv : List (Option Value)} {i : Nat} {v : Value} (h : hk_g lv i = some v) : ∃ j : Nat, (hk_en lv)[j]? = some (i, v) := by
  obtain ⟨j, hj⟩ := List.getElem?_of_mem (hk_en_in.mpr (hk_g_of h))
  exact ⟨j, hj⟩

section HK
variable {G : hk_G} {l : Launch} {d : Nat} {y : MethodName} {b : ByteArray} {nL : Nat} {ret : Option FieldType} {hh : List (Nat × Nat × Nat × Nat)} {Q : Option Value → hk_H → Prop} {X : String → hk_H → Prop} {k n : Nat} {h : hk_H} {pc pc' : Nat} {lv : List (Option Value)} {st : List Value}
theorem hk_iconst {z : Int} {v : Int32} (hd : decode b pc = .ok (.iconst z, 1)) (hp : pc + 1 = pc') (hv : Int32.ofInt z = v) (kk : hk_W G l d y b nL ret hh Q X k n h pc' lv (.int v :: st)) : hk_W G l d y b nL ret hh Q X k n h pc lv (st) := by
  subst hp
  intro p e s m args below meth c H locs cells slots mc ms ls C hk hn hO hL hl
  exact lv_iconst C.1 C.2.1 hd hv (kk p e s m args below meth c H locs cells slots mc ms ls C hk hn hO hL hl)
theorem hk_bipush {z : Int} {v : Int32} (hd : decode b pc = .ok (.bipush z, 2)) (hp : pc + 2 = pc') (hv : (Int8.ofInt z).toInt32 = v) (kk : hk_W G l d y b nL ret hh Q X k n h pc' lv (.int v :: st)) : hk_W G l d y b nL ret hh Q X k n h pc lv (st) := by
  subst hp
  intro p e s m args below meth c H locs cells slots mc ms ls C hk hn hO hL hl
  exact lv_bipush C.1 C.2.1 hd hv (kk p e s m args below meth c H locs cells slots mc ms ls C hk hn hO hL hl)
theorem hk_sipush {z : Int} {v : Int32} (hd : decode b pc = .ok (.sipush z, 3)) (hp : pc + 3 = pc') (hv : (Int16.ofInt z).toInt32 = v) (kk : hk_W G l d y b nL ret hh Q X k n h pc' lv (.int v :: st)) : hk_W G l d y b nL ret hh Q X k n h pc lv (st) := by
  subst hp
  intro p e s m args below meth c H locs cells slots mc ms ls C hk hn hO hL hl
  exact lv_sipush C.1 C.2.1 hd hv (kk p e s m args below meth c H locs cells slots mc ms ls C hk hn hO hL hl)
theorem hk_lconst {z : Fin 2} {v : Int64} (hd : decode b pc = .ok (.lconst z, 1)) (hp : pc + 1 = pc') (hv : Int64.ofNat (z : Nat) = v) (kk : hk_W G l d y b nL ret hh Q X k n h pc' lv (.long v :: st)) : hk_W G l d y b nL ret hh Q X k n h pc lv (st) := by
  subst hp
  intro p e s m args below meth c H locs cells slots mc ms ls C hk hn hO hL hl
  exact lv_lconst C.1 C.2.1 hd hv (kk p e s m args below meth c H locs cells slots mc ms ls C hk hn hO hL hl)
theorem hk_fconst0 (hd : decode b pc = .ok (.fconst 0, 1)) (hp : pc + 1 = pc') (kk : hk_W G l d y b nL ret hh Q X k n h pc' lv (.float FP.fconst0 :: st)) : hk_W G l d y b nL ret hh Q X k n h pc lv (st) := by
  subst hp
  intro p e s m args below meth c H locs cells slots mc ms ls C hk hn hO hL hl
  exact lv_fconst0 C.1 C.2.1 hd (kk p e s m args below meth c H locs cells slots mc ms ls C hk hn hO hL hl)
theorem hk_dconst0 (hd : decode b pc = .ok (.dconst 0, 1)) (hp : pc + 1 = pc') (kk : hk_W G l d y b nL ret hh Q X k n h pc' lv (.double FP.dconst0 :: st)) : hk_W G l d y b nL ret hh Q X k n h pc lv (st) := by
  subst hp
  intro p e s m args below meth c H locs cells slots mc ms ls C hk hn hO hL hl
  exact lv_dconst0 C.1 C.2.1 hd (kk p e s m args below meth c H locs cells slots mc ms ls C hk hn hO hL hl)
theorem hk_null (hd : decode b pc = .ok (.aconst_null, 1)) (hp : pc + 1 = pc') (kk : hk_W G l d y b nL ret hh Q X k n h pc' lv (.null :: st)) : hk_W G l d y b nL ret hh Q X k n h pc lv (st) := by
  subst hp
  intro p e s m args below meth c H locs cells slots mc ms ls C hk hn hO hL hl
  exact lv_null C.1 C.2.1 hd (kk p e s m args below meth c H locs cells slots mc ms ls C hk hn hO hL hl)
theorem hk_iload_n {z : Fin 4} {i : Nat} {x : Int32} (hd : decode b pc = .ok (.iload_n z, 1)) (hp : pc + 1 = pc') (hi : (z : Nat) = i) (hv : hk_g lv i = some (.int x)) (kk : hk_W G l d y b nL ret hh Q X k n h pc' lv (.int x :: st)) : hk_W G l d y b nL ret hh Q X k n h pc lv (st) := by
  subst hp
  intro p e s m args below meth c H locs cells slots mc ms ls C hk hn hO hL hl
  exact lv_iload_n C.1 C.2.1 hd hi (hl.get (hk_g_of hv)) (kk p e s m args below meth c H locs cells slots mc ms ls C hk hn hO hL hl)
theorem hk_iload {i : Nat} {x : Int32} (hd : decode b pc = .ok (.iload i, 2)) (hp : pc + 2 = pc') (hv : hk_g lv i = some (.int x)) (kk : hk_W G l d y b nL ret hh Q X k n h pc' lv (.int x :: st)) : hk_W G l d y b nL ret hh Q X k n h pc lv (st) := by
  subst hp
  intro p e s m args below meth c H locs cells slots mc ms ls C hk hn hO hL hl
  exact lv_iload C.1 C.2.1 hd (hl.get (hk_g_of hv)) (kk p e s m args below meth c H locs cells slots mc ms ls C hk hn hO hL hl)
theorem hk_lload_n {z : Fin 4} {i : Nat} {x : Int64} (hd : decode b pc = .ok (.lload_n z, 1)) (hp : pc + 1 = pc') (hi : (z : Nat) = i) (hv : hk_g lv i = some (.long x)) (kk : hk_W G l d y b nL ret hh Q X k n h pc' lv (.long x :: st)) : hk_W G l d y b nL ret hh Q X k n h pc lv (st) := by
  subst hp
  intro p e s m args below meth c H locs cells slots mc ms ls C hk hn hO hL hl
  exact lv_lload_n C.1 C.2.1 hd hi (hl.get (hk_g_of hv)) (kk p e s m args below meth c H locs cells slots mc ms ls C hk hn hO hL hl)
theorem hk_lload {i : Nat} {x : Int64} (hd : decode b pc = .ok (.lload i, 2)) (hp : pc + 2 = pc') (hv : hk_g lv i = some (.long x)) (kk : hk_W G l d y b nL ret hh Q X k n h pc' lv (.long x :: st)) : hk_W G l d y b nL ret hh Q X k n h pc lv (st) := by
  subst hp
  intro p e s m args below meth c H locs cells slots mc ms ls C hk hn hO hL hl
  exact lv_lload C.1 C.2.1 hd (hl.get (hk_g_of hv)) (kk p e s m args below meth c H locs cells slots mc ms ls C hk hn hO hL hl)
theorem hk_fload_n {z : Fin 4} {i : Nat} {x : UInt32} (hd : decode b pc = .ok (.fload_n z, 1)) (hp : pc + 1 = pc') (hi : (z : Nat) = i) (hv : hk_g lv i = some (.float x)) (kk : hk_W G l d y b nL ret hh Q X k n h pc' lv (.float x :: st)) : hk_W G l d y b nL ret hh Q X k n h pc lv (st) := by
  subst hp
  intro p e s m args below meth c H locs cells slots mc ms ls C hk hn hO hL hl
  exact lv_fload_n C.1 C.2.1 hd hi (hl.get (hk_g_of hv)) (kk p e s m args below meth c H locs cells slots mc ms ls C hk hn hO hL hl)
theorem hk_fload {i : Nat} {x : UInt32} (hd : decode b pc = .ok (.fload i, 2)) (hp : pc + 2 = pc') (hv : hk_g lv i = some (.float x)) (kk : hk_W G l d y b nL ret hh Q X k n h pc' lv (.float x :: st)) : hk_W G l d y b nL ret hh Q X k n h pc lv (st) := by
  subst hp
  intro p e s m args below meth c H locs cells slots mc ms ls C hk hn hO hL hl
  exact lv_fload C.1 C.2.1 hd (hl.get (hk_g_of hv)) (kk p e s m args below meth c H locs cells slots mc ms ls C hk hn hO hL hl)
theorem hk_dload_n {z : Fin 4} {i : Nat} {x : UInt64} (hd : decode b pc = .ok (.dload_n z, 1)) (hp : pc + 1 = pc') (hi : (z : Nat) = i) (hv : hk_g lv i = some (.double x)) (kk : hk_W G l d y b nL ret hh Q X k n h pc' lv (.double x :: st)) : hk_W G l d y b nL ret hh Q X k n h pc lv (st) := by
  subst hp
  intro p e s m args below meth c H locs cells slots mc ms ls C hk hn hO hL hl
  exact lv_dload_n C.1 C.2.1 hd hi (hl.get (hk_g_of hv)) (kk p e s m args below meth c H locs cells slots mc ms ls C hk hn hO hL hl)
theorem hk_dload {i : Nat} {x : UInt64} (hd : decode b pc = .ok (.dload i, 2)) (hp : pc + 2 = pc') (hv : hk_g lv i = some (.double x)) (kk : hk_W G l d y b nL ret hh Q X k n h pc' lv (.double x :: st)) : hk_W G l d y b nL ret hh Q X k n h pc lv (st) := by
  subst hp
  intro p e s m args below meth c H locs cells slots mc ms ls C hk hn hO hL hl
  exact lv_dload C.1 C.2.1 hd (hl.get (hk_g_of hv)) (kk p e s m args below meth c H locs cells slots mc ms ls C hk hn hO hL hl)
theorem hk_aload_n {z : Fin 4} {i : Nat} {x : Nat} (hd : decode b pc = .ok (.aload_n z, 1)) (hp : pc + 1 = pc') (hi : (z : Nat) = i) (hv : hk_g lv i = some (.ref x)) (kk : hk_W G l d y b nL ret hh Q X k n h pc' lv (.ref x :: st)) : hk_W G l d y b nL ret hh Q X k n h pc lv (st) := by
  subst hp
  intro p e s m args below meth c H locs cells slots mc ms ls C hk hn hO hL hl
  exact lv_aload_n C.1 C.2.1 hd hi (hl.get (hk_g_of hv)) (kk p e s m args below meth c H locs cells slots mc ms ls C hk hn hO hL hl)
theorem hk_aload {i : Nat} {x : Nat} (hd : decode b pc = .ok (.aload i, 2)) (hp : pc + 2 = pc') (hv : hk_g lv i = some (.ref x)) (kk : hk_W G l d y b nL ret hh Q X k n h pc' lv (.ref x :: st)) : hk_W G l d y b nL ret hh Q X k n h pc lv (st) := by
  subst hp
  intro p e s m args below meth c H locs cells slots mc ms ls C hk hn hO hL hl
  exact lv_aload C.1 C.2.1 hd (hl.get (hk_g_of hv)) (kk p e s m args below meth c H locs cells slots mc ms ls C hk hn hO hL hl)
theorem hk_aload_nN {z : Fin 4} {i : Nat} (hd : decode b pc = .ok (.aload_n z, 1)) (hp : pc + 1 = pc') (hi : (z : Nat) = i) (hv : hk_g lv i = some .null) (kk : hk_W G l d y b nL ret hh Q X k n h pc' lv (.null :: st)) : hk_W G l d y b nL ret hh Q X k n h pc lv (st) := by
  subst hp
  intro p e s m args below meth c H locs cells slots mc ms ls C hk hn hO hL hl
  exact lv_aload_nN C.1 C.2.1 hd hi (hl.get (hk_g_of hv)) (kk p e s m args below meth c H locs cells slots mc ms ls C hk hn hO hL hl)
theorem hk_aloadN {i : Nat} (hd : decode b pc = .ok (.aload i, 2)) (hp : pc + 2 = pc') (hv : hk_g lv i = some .null) (kk : hk_W G l d y b nL ret hh Q X k n h pc' lv (.null :: st)) : hk_W G l d y b nL ret hh Q X k n h pc lv (st) := by
  subst hp
  intro p e s m args below meth c H locs cells slots mc ms ls C hk hn hO hL hl
  exact lv_aloadN C.1 C.2.1 hd (hl.get (hk_g_of hv)) (kk p e s m args below meth c H locs cells slots mc ms ls C hk hn hO hL hl)
theorem hk_istore_n {z : Fin 4} {i : Nat} {x : Int32} (hd : decode b pc = .ok (.istore_n z, 1)) (hp : pc + 1 = pc') (hi : (z : Nat) = i) (hb : i < nL) (hok : hk_ok lv i = true) (kk : hk_W G l d y b nL ret hh Q X k n h pc' (hk_s lv i (some (.int x))) st) : hk_W G l d y b nL ret hh Q X k n h pc lv (.int x :: st) := by
  subst hp
  intro p e s m args below meth c H locs cells slots mc ms ls C hk hn hO hL hl
  exact lv_istore_n C.1 C.2.1 hd hi (hl.has hL) hb rfl (fun ls' h' => kk p e s m args below meth c H locs cells slots mc ms ls' C hk hn hO (by rw [hk_s_len]; exact hL) (hk_L.st1 h' hL hok))
theorem hk_istore {i : Nat} {x : Int32} (hd : decode b pc = .ok (.istore i, 2)) (hp : pc + 2 = pc') (hb : i < nL) (hok : hk_ok lv i = true) (kk : hk_W G l d y b nL ret hh Q X k n h pc' (hk_s lv i (some (.int x))) st) : hk_W G l d y b nL ret hh Q X k n h pc lv (.int x :: st) := by
  subst hp
  intro p e s m args below meth c H locs cells slots mc ms ls C hk hn hO hL hl
  exact lv_istore C.1 C.2.1 hd (hl.has hL) hb rfl (fun ls' h' => kk p e s m args below meth c H locs cells slots mc ms ls' C hk hn hO (by rw [hk_s_len]; exact hL) (hk_L.st1 h' hL hok))
theorem hk_lstore_n {z : Fin 4} {i : Nat} {x : Int64} (hd : decode b pc = .ok (.lstore_n z, 1)) (hp : pc + 1 = pc') (hi : (z : Nat) = i) (hb : i + 1 < nL) (hok : hk_ok lv i = true) (kk : hk_W G l d y b nL ret hh Q X k n h pc' (hk_s (hk_s lv i (some (.long x))) (i + 1) none) st) : hk_W G l d y b nL ret hh Q X k n h pc lv (.long x :: st) := by
  subst hp
  intro p e s m args below meth c H locs cells slots mc ms ls C hk hn hO hL hl
  exact lv_lstore_n C.1 C.2.1 hd hi (hl.has hL) hb rfl (fun ls' h' => kk p e s m args below meth c H locs cells slots mc ms ls' C hk hn hO (by rw [hk_s_len, hk_s_len]; exact hL) (hk_L.st2 h' hL hok))
theorem hk_lstore {i : Nat} {x : Int64} (hd : decode b pc = .ok (.lstore i, 2)) (hp : pc + 2 = pc') (hb : i + 1 < nL) (hok : hk_ok lv i = true) (kk : hk_W G l d y b nL ret hh Q X k n h pc' (hk_s (hk_s lv i (some (.long x))) (i + 1) none) st) : hk_W G l d y b nL ret hh Q X k n h pc lv (.long x :: st) := by
  subst hp
  intro p e s m args below meth c H locs cells slots mc ms ls C hk hn hO hL hl
  exact lv_lstore C.1 C.2.1 hd (hl.has hL) hb rfl (fun ls' h' => kk p e s m args below meth c H locs cells slots mc ms ls' C hk hn hO (by rw [hk_s_len, hk_s_len]; exact hL) (hk_L.st2 h' hL hok))
theorem hk_fstore_n {z : Fin 4} {i : Nat} {x : UInt32} (hd : decode b pc = .ok (.fstore_n z, 1)) (hp : pc + 1 = pc') (hi : (z : Nat) = i) (hb : i < nL) (hok : hk_ok lv i = true) (kk : hk_W G l d y b nL ret hh Q X k n h pc' (hk_s lv i (some (.float x))) st) : hk_W G l d y b nL ret hh Q X k n h pc lv (.float x :: st) := by
  subst hp
  intro p e s m args below meth c H locs cells slots mc ms ls C hk hn hO hL hl
  exact lv_fstore_n C.1 C.2.1 hd hi (hl.has hL) hb rfl (fun ls' h' => kk p e s m args below meth c H locs cells slots mc ms ls' C hk hn hO (by rw [hk_s_len]; exact hL) (hk_L.st1 h' hL hok))
theorem hk_fstore {i : Nat} {x : UInt32} (hd : decode b pc = .ok (.fstore i, 2)) (hp : pc + 2 = pc') (hb : i < nL) (hok : hk_ok lv i = true) (kk : hk_W G l d y b nL ret hh Q X k n h pc' (hk_s lv i (some (.float x))) st) : hk_W G l d y b nL ret hh Q X k n h pc lv (.float x :: st) := by
  subst hp
  intro p e s m args below meth c H locs cells slots mc ms ls C hk hn hO hL hl
  exact lv_fstore C.1 C.2.1 hd (hl.has hL) hb rfl (fun ls' h' => kk p e s m args below meth c H locs cells slots mc ms ls' C hk hn hO (by rw [hk_s_len]; exact hL) (hk_L.st1 h' hL hok))
theorem hk_dstore_n {z : Fin 4} {i : Nat} {x : UInt64} (hd : decode b pc = .ok (.dstore_n z, 1)) (hp : pc + 1 = pc') (hi : (z : Nat) = i) (hb : i + 1 < nL) (hok : hk_ok lv i = true) (kk : hk_W G l d y b nL ret hh Q X k n h pc' (hk_s (hk_s lv i (some (.double x))) (i + 1) none) st) : hk_W G l d y b nL ret hh Q X k n h pc lv (.double x :: st) := by
  subst hp
  intro p e s m args below meth c H locs cells slots mc ms ls C hk hn hO hL hl
  exact lv_dstore_n C.1 C.2.1 hd hi (hl.has hL) hb rfl (fun ls' h' => kk p e s m args below meth c H locs cells slots mc ms ls' C hk hn hO (by rw [hk_s_len, hk_s_len]; exact hL) (hk_L.st2 h' hL hok))
theorem hk_dstore {i : Nat} {x : UInt64} (hd : decode b pc = .ok (.dstore i, 2)) (hp : pc + 2 = pc') (hb : i + 1 < nL) (hok : hk_ok lv i = true) (kk : hk_W G l d y b nL ret hh Q X k n h pc' (hk_s (hk_s lv i (some (.double x))) (i + 1) none) st) : hk_W G l d y b nL ret hh Q X k n h pc lv (.double x :: st) := by
  subst hp
  intro p e s m args below meth c H locs cells slots mc ms ls C hk hn hO hL hl
  exact lv_dstore C.1 C.2.1 hd (hl.has hL) hb rfl (fun ls' h' => kk p e s m args below meth c H locs cells slots mc ms ls' C hk hn hO (by rw [hk_s_len, hk_s_len]; exact hL) (hk_L.st2 h' hL hok))
theorem hk_astore_n {z : Fin 4} {i : Nat} {x : Nat} (hd : decode b pc = .ok (.astore_n z, 1)) (hp : pc + 1 = pc') (hi : (z : Nat) = i) (hb : i < nL) (hok : hk_ok lv i = true) (kk : hk_W G l d y b nL ret hh Q X k n h pc' (hk_s lv i (some (.ref x))) st) : hk_W G l d y b nL ret hh Q X k n h pc lv (.ref x :: st) := by
  subst hp
  intro p e s m args below meth c H locs cells slots mc ms ls C hk hn hO hL hl
  exact lv_astore_n C.1 C.2.1 hd hi (hl.has hL) hb rfl (fun ls' h' => kk p e s m args below meth c H locs cells slots mc ms ls' C hk hn hO (by rw [hk_s_len]; exact hL) (hk_L.st1 h' hL hok))
theorem hk_astore {i : Nat} {x : Nat} (hd : decode b pc = .ok (.astore i, 2)) (hp : pc + 2 = pc') (hb : i < nL) (hok : hk_ok lv i = true) (kk : hk_W G l d y b nL ret hh Q X k n h pc' (hk_s lv i (some (.ref x))) st) : hk_W G l d y b nL ret hh Q X k n h pc lv (.ref x :: st) := by
  subst hp
  intro p e s m args below meth c H locs cells slots mc ms ls C hk hn hO hL hl
  exact lv_astore C.1 C.2.1 hd (hl.has hL) hb rfl (fun ls' h' => kk p e s m args below meth c H locs cells slots mc ms ls' C hk hn hO (by rw [hk_s_len]; exact hL) (hk_L.st1 h' hL hok))
theorem hk_astore_nN {z : Fin 4} {i : Nat} (hd : decode b pc = .ok (.astore_n z, 1)) (hp : pc + 1 = pc') (hi : (z : Nat) = i) (hb : i < nL) (hok : hk_ok lv i = true) (kk : hk_W G l d y b nL ret hh Q X k n h pc' (hk_s lv i (some (.null))) st) : hk_W G l d y b nL ret hh Q X k n h pc lv (.null :: st) := by
  subst hp
  intro p e s m args below meth c H locs cells slots mc ms ls C hk hn hO hL hl
  exact lv_astore_nN C.1 C.2.1 hd hi (hl.has hL) hb rfl (fun ls' h' => kk p e s m args below meth c H locs cells slots mc ms ls' C hk hn hO (by rw [hk_s_len]; exact hL) (hk_L.st1 h' hL hok))
theorem hk_astoreN {i : Nat} (hd : decode b pc = .ok (.astore i, 2)) (hp : pc + 2 = pc') (hb : i < nL) (hok : hk_ok lv i = true) (kk : hk_W G l d y b nL ret hh Q X k n h pc' (hk_s lv i (some (.null))) st) : hk_W G l d y b nL ret hh Q X k n h pc lv (.null :: st) := by
  subst hp
  intro p e s m args below meth c H locs cells slots mc ms ls C hk hn hO hL hl
  exact lv_astoreN C.1 C.2.1 hd (hl.has hL) hb rfl (fun ls' h' => kk p e s m args below meth c H locs cells slots mc ms ls' C hk hn hO (by rw [hk_s_len]; exact hL) (hk_L.st1 h' hL hok))
theorem hk_iinc {i : Nat} {z : Int} {x v : Int32} (hd : decode b pc = .ok (.iinc i z, 3)) (hp : pc + 3 = pc') (hg : hk_g lv i = some (.int x)) (hv : x + Int32.ofInt z = v) (hb : i < nL) (hok : hk_ok lv i = true) (kk : hk_W G l d y b nL ret hh Q X k n h pc' (hk_s lv i (some (.int v))) st) : hk_W G l d y b nL ret hh Q X k n h pc lv st := by
  subst hp
  intro p e s m args below meth c H locs cells slots mc ms ls C hk hn hO hL hl
  obtain ⟨j, hj⟩ := hk_en_at hg
  exact lv_iinc C.1 C.2.1 hd (hl.has hL) hj hv hb rfl (fun ls' h' => kk p e s m args below meth c H locs cells slots mc ms ls' C hk hn hO (by rw [hk_s_len]; exact hL) (hk_L.st1 h' hL hok))
theorem hk_iadd {x z : Int32} (hd : decode b pc = .ok (.iadd, 1)) (hp : pc + 1 = pc') (kk : hk_W G l d y b nL ret hh Q X k n h pc' lv (.int (x + z) :: st)) : hk_W G l d y b nL ret hh Q X k n h pc lv (.int z :: .int x :: st) := by
  subst hp
  intro p e s m args below meth c H locs cells slots mc ms ls C hk hn hO hL hl
  exact lv_iadd C.1 C.2.1 hd (kk p e s m args below meth c H locs cells slots mc ms ls C hk hn hO hL hl)
theorem hk_isub {x z : Int32} (hd : decode b pc = .ok (.isub, 1)) (hp : pc + 1 = pc') (kk : hk_W G l d y b nL ret hh Q X k n h pc' lv (.int (x - z) :: st)) : hk_W G l d y b nL ret hh Q X k n h pc lv (.int z :: .int x :: st) := by
  subst hp
  intro p e s m args below meth c H locs cells slots mc ms ls C hk hn hO hL hl
  exact lv_isub C.1 C.2.1 hd (kk p e s m args below meth c H locs cells slots mc ms ls C hk hn hO hL hl)
theorem hk_imul {x z : Int32} (hd : decode b pc = .ok (.imul, 1)) (hp : pc + 1 = pc') (kk : hk_W G l d y b nL ret hh Q X k n h pc' lv (.int (x * z) :: st)) : hk_W G l d y b nL ret hh Q X k n h pc lv (.int z :: .int x :: st) := by
  subst hp
  intro p e s m args below meth c H locs cells slots mc ms ls C hk hn hO hL hl
  exact lv_imul C.1 C.2.1 hd (kk p e s m args below meth c H locs cells slots mc ms ls C hk hn hO hL hl)
theorem hk_iand {x z : Int32} (hd : decode b pc = .ok (.iand, 1)) (hp : pc + 1 = pc') (kk : hk_W G l d y b nL ret hh Q X k n h pc' lv (.int (x &&& z) :: st)) : hk_W G l d y b nL ret hh Q X k n h pc lv (.int z :: .int x :: st) := by
  subst hp
  intro p e s m args below meth c H locs cells slots mc ms ls C hk hn hO hL hl
  exact lv_iand C.1 C.2.1 hd (kk p e s m args below meth c H locs cells slots mc ms ls C hk hn hO hL hl)
theorem hk_ior {x z : Int32} (hd : decode b pc = .ok (.ior, 1)) (hp : pc + 1 = pc') (kk : hk_W G l d y b nL ret hh Q X k n h pc' lv (.int (x ||| z) :: st)) : hk_W G l d y b nL ret hh Q X k n h pc lv (.int z :: .int x :: st) := by
  subst hp
  intro p e s m args below meth c H locs cells slots mc ms ls C hk hn hO hL hl
  exact lv_ior C.1 C.2.1 hd (kk p e s m args below meth c H locs cells slots mc ms ls C hk hn hO hL hl)
theorem hk_ineg {x : Int32} (hd : decode b pc = .ok (.ineg, 1)) (hp : pc + 1 = pc') (kk : hk_W G l d y b nL ret hh Q X k n h pc' lv (.int (-x) :: st)) : hk_W G l d y b nL ret hh Q X k n h pc lv (.int x :: st) := by
  subst hp
  intro p e s m args below meth c H locs cells slots mc ms ls C hk hn hO hL hl
  exact lv_ineg C.1 C.2.1 hd (kk p e s m args below meth c H locs cells slots mc ms ls C hk hn hO hL hl)
theorem hk_idiv {x z : Int32} (hd : decode b pc = .ok (.idiv, 1)) (hp : pc + 1 = pc') (hne : ¬ z = 0) (kk : hk_W G l d y b nL ret hh Q X k n h pc' lv (.int (x / z) :: st)) : hk_W G l d y b nL ret hh Q X k n h pc lv (.int z :: .int x :: st) := by
  subst hp
  intro p e s m args below meth c H locs cells slots mc ms ls C hk hn hO hL hl
  exact lv_idiv C.1 C.2.1 hd hne (kk p e s m args below meth c H locs cells slots mc ms ls C hk hn hO hL hl)
theorem hk_irem {x z : Int32} (hd : decode b pc = .ok (.irem, 1)) (hp : pc + 1 = pc') (hne : ¬ z = 0) (kk : hk_W G l d y b nL ret hh Q X k n h pc' lv (.int (x - x / z * z) :: st)) : hk_W G l d y b nL ret hh Q X k n h pc lv (.int z :: .int x :: st) := by
  subst hp
  intro p e s m args below meth c H locs cells slots mc ms ls C hk hn hO hL hl
  exact lv_irem C.1 C.2.1 hd hne (kk p e s m args below meth c H locs cells slots mc ms ls C hk hn hO hL hl)
theorem hk_ladd {x z : Int64} (hd : decode b pc = .ok (.ladd, 1)) (hp : pc + 1 = pc') (kk : hk_W G l d y b nL ret hh Q X k n h pc' lv (.long (x + z) :: st)) : hk_W G l d y b nL ret hh Q X k n h pc lv (.long z :: .long x :: st) := by
  subst hp
  intro p e s m args below meth c H locs cells slots mc ms ls C hk hn hO hL hl
  exact lv_ladd C.1 C.2.1 hd (kk p e s m args below meth c H locs cells slots mc ms ls C hk hn hO hL hl)
theorem hk_lsub {x z : Int64} (hd : decode b pc = .ok (.lsub, 1)) (hp : pc + 1 = pc') (kk : hk_W G l d y b nL ret hh Q X k n h pc' lv (.long (x - z) :: st)) : hk_W G l d y b nL ret hh Q X k n h pc lv (.long z :: .long x :: st) := by
  subst hp
  intro p e s m args below meth c H locs cells slots mc ms ls C hk hn hO hL hl
  exact lv_lsub C.1 C.2.1 hd (kk p e s m args below meth c H locs cells slots mc ms ls C hk hn hO hL hl)
theorem hk_lmul {x z : Int64} (hd : decode b pc = .ok (.lmul, 1)) (hp : pc + 1 = pc') (kk : hk_W G l d y b nL ret hh Q X k n h pc' lv (.long (x * z) :: st)) : hk_W G l d y b nL ret hh Q X k n h pc lv (.long z :: .long x :: st) := by
  subst hp
  intro p e s m args below meth c H locs cells slots mc ms ls C hk hn hO hL hl
  exact lv_lmul C.1 C.2.1 hd (kk p e s m args below meth c H locs cells slots mc ms ls C hk hn hO hL hl)
theorem hk_lcmp {x z : Int64} (hd : decode b pc = .ok (.lcmp, 1)) (hp : pc + 1 = pc') (kk : hk_W G l d y b nL ret hh Q X k n h pc' lv (.int (lg_cmp x z) :: st)) : hk_W G l d y b nL ret hh Q X k n h pc lv (.long z :: .long x :: st) := by
  subst hp
  intro p e s m args below meth c H locs cells slots mc ms ls C hk hn hO hL hl
  exact W.lcmp C.1 C.2.1 hd (kk p e s m args below meth c H locs cells slots mc ms ls C hk hn hO hL hl)
theorem hk_i2l {x : Int32} (hd : decode b pc = .ok (.i2l, 1)) (hp : pc + 1 = pc') (kk : hk_W G l d y b nL ret hh Q X k n h pc' lv (.long x.toInt64 :: st)) : hk_W G l d y b nL ret hh Q X k n h pc lv (.int x :: st) := by
  subst hp
  intro p e s m args below meth c H locs cells slots mc ms ls C hk hn hO hL hl
  exact lv_i2l C.1 C.2.1 hd rfl (kk p e s m args below meth c H locs cells slots mc ms ls C hk hn hO hL hl)
theorem hk_i2c {x v : Int32} (hd : decode b pc = .ok (.i2c, 1)) (hp : pc + 1 = pc') (hv : (x.toUInt32 % 65536).toInt32 = v) (kk : hk_W G l d y b nL ret hh Q X k n h pc' lv (.int v :: st)) : hk_W G l d y b nL ret hh Q X k n h pc lv (.int x :: st) := by
  subst hp
  intro p e s m args below meth c H locs cells slots mc ms ls C hk hn hO hL hl
  exact lv_i2c C.1 C.2.1 hd hv (kk p e s m args below meth c H locs cells slots mc ms ls C hk hn hO hL hl)
theorem hk_i2f {x : Int32} (hd : decode b pc = .ok (.i2f, 1)) (hp : pc + 1 = pc') (kk : hk_W G l d y b nL ret hh Q X k n h pc' lv (.float (FP.i2f x) :: st)) : hk_W G l d y b nL ret hh Q X k n h pc lv (.int x :: st) := by
  subst hp
  intro p e s m args below meth c H locs cells slots mc ms ls C hk hn hO hL hl
  exact lv_i2f C.1 C.2.1 hd (kk p e s m args below meth c H locs cells slots mc ms ls C hk hn hO hL hl)
theorem hk_i2d {x : Int32} (hd : decode b pc = .ok (.i2d, 1)) (hp : pc + 1 = pc') (kk : hk_W G l d y b nL ret hh Q X k n h pc' lv (.double (FP.i2d x) :: st)) : hk_W G l d y b nL ret hh Q X k n h pc lv (.int x :: st) := by
  subst hp
  intro p e s m args below meth c H locs cells slots mc ms ls C hk hn hO hL hl
  exact lv_i2d C.1 C.2.1 hd (kk p e s m args below meth c H locs cells slots mc ms ls C hk hn hO hL hl)
theorem hk_fdiv {x z : UInt32} (hd : decode b pc = .ok (.fdiv, 1)) (hp : pc + 1 = pc') (hne : vf_n32 (FP.fdiv x z)) (kk : hk_W G l d y b nL ret hh Q X k n h pc' lv (.float (FP.fdiv x z) :: st)) : hk_W G l d y b nL ret hh Q X k n h pc lv (.float z :: .float x :: st) := by
  subst hp
  intro p e s m args below meth c H locs cells slots mc ms ls C hk hn hO hL hl
  exact lv_fdiv C.1 C.2.1 hd hne (kk p e s m args below meth c H locs cells slots mc ms ls C hk hn hO hL hl)
theorem hk_ddiv {x z : UInt64} (hd : decode b pc = .ok (.ddiv, 1)) (hp : pc + 1 = pc') (hne : vf_n64 (FP.ddiv x z)) (kk : hk_W G l d y b nL ret hh Q X k n h pc' lv (.double (FP.ddiv x z) :: st)) : hk_W G l d y b nL ret hh Q X k n h pc lv (.double z :: .double x :: st) := by
  subst hp
  intro p e s m args below meth c H locs cells slots mc ms ls C hk hn hO hL hl
  exact lv_ddiv C.1 C.2.1 hd hne (kk p e s m args below meth c H locs cells slots mc ms ls C hk hn hO hL hl)
theorem hk_f2d {x : UInt32} (hd : decode b pc = .ok (.f2d, 1)) (hp : pc + 1 = pc') (hne : vf_n64 (FP.f2d x)) (kk : hk_W G l d y b nL ret hh Q X k n h pc' lv (.double (FP.f2d x) :: st)) : hk_W G l d y b nL ret hh Q X k n h pc lv (.float x :: st) := by
  subst hp
  intro p e s m args below meth c H locs cells slots mc ms ls C hk hn hO hL hl
  exact lv_f2d C.1 C.2.1 hd hne (kk p e s m args below meth c H locs cells slots mc ms ls C hk hn hO hL hl)
theorem hk_fcmp {x z : UInt32} {op : CmpOp} (hd : decode b pc = .ok (.fcmp op, 1)) (hp : pc + 1 = pc') (kk : hk_W G l d y b nL ret hh Q X k n h pc' lv (.int (Op.cmpValue (FP.fcmp x z) op) :: st)) : hk_W G l d y b nL ret hh Q X k n h pc lv (.float z :: .float x :: st) := by
  subst hp
  intro p e s m args below meth c H locs cells slots mc ms ls C hk hn hO hL hl
  exact lv_fcmp C.1 C.2.1 hd (kk p e s m args below meth c H locs cells slots mc ms ls C hk hn hO hL hl)
theorem hk_dcmp {x z : UInt64} {op : CmpOp} (hd : decode b pc = .ok (.dcmp op, 1)) (hp : pc + 1 = pc') (kk : hk_W G l d y b nL ret hh Q X k n h pc' lv (.int (Op.cmpValue (FP.dcmp x z) op) :: st)) : hk_W G l d y b nL ret hh Q X k n h pc lv (.double z :: .double x :: st) := by
  subst hp
  intro p e s m args below meth c H locs cells slots mc ms ls C hk hn hO hL hl
  exact lv_dcmp C.1 C.2.1 hd (kk p e s m args below meth c H locs cells slots mc ms ls C hk hn hO hL hl)
theorem hk_dup {v : Value} (hd : decode b pc = .ok (.dup, 1)) (hp : pc + 1 = pc') (hv : v.category = 1) (kk : hk_W G l d y b nL ret hh Q X k n h pc' lv (v :: v :: st)) : hk_W G l d y b nL ret hh Q X k n h pc lv (v :: st) := by
  subst hp
  intro p e s m args below meth c H locs cells slots mc ms ls C hk hn hO hL hl
  exact lv_dup C.1 C.2.1 hd hv (kk p e s m args below meth c H locs cells slots mc ms ls C hk hn hO hL hl)
theorem hk_pop {v : Value} (hd : decode b pc = .ok (.pop, 1)) (hp : pc + 1 = pc') (hv : v.category = 1) (kk : hk_W G l d y b nL ret hh Q X k n h pc' lv (st)) : hk_W G l d y b nL ret hh Q X k n h pc lv (v :: st) := by
  subst hp
  intro p e s m args below meth c H locs cells slots mc ms ls C hk hn hO hL hl
  exact lv_pop C.1 C.2.1 hd hv (kk p e s m args below meth c H locs cells slots mc ms ls C hk hn hO hL hl)
theorem hk_dup2 {v u : Value} (hd : decode b pc = .ok (.dup2, 1)) (hp : pc + 1 = pc') (hv : v.category = 1) (hu : u.category = 1) (kk : hk_W G l d y b nL ret hh Q X k n h pc' lv (v :: u :: v :: u :: st)) : hk_W G l d y b nL ret hh Q X k n h pc lv (v :: u :: st) := by
  subst hp
  intro p e s m args below meth c H locs cells slots mc ms ls C hk hn hO hL hl
  exact lv_dup2_11 C.1 C.2.1 hd hv hu (kk p e s m args below meth c H locs cells slots mc ms ls C hk hn hO hL hl)
theorem hk_dup2L {v : Value} (hd : decode b pc = .ok (.dup2, 1)) (hp : pc + 1 = pc') (hv : v.category = 2) (kk : hk_W G l d y b nL ret hh Q X k n h pc' lv (v :: v :: st)) : hk_W G l d y b nL ret hh Q X k n h pc lv (v :: st) := by
  subst hp
  intro p e s m args below meth c H locs cells slots mc ms ls C hk hn hO hL hl
  exact lv_dup2_2 C.1 C.2.1 hd hv (kk p e s m args below meth c H locs cells slots mc ms ls C hk hn hO hL hl)
theorem hk_dup_x1 {v u : Value} (hd : decode b pc = .ok (.dup_x1, 1)) (hp : pc + 1 = pc') (hv : v.category = 1) (hu : u.category = 1) (kk : hk_W G l d y b nL ret hh Q X k n h pc' lv (v :: u :: v :: st)) : hk_W G l d y b nL ret hh Q X k n h pc lv (v :: u :: st) := by
  subst hp
  intro p e s m args below meth c H locs cells slots mc ms ls C hk hn hO hL hl
  exact lv_dup_x1 C.1 C.2.1 hd hv hu (kk p e s m args below meth c H locs cells slots mc ms ls C hk hn hO hL hl)
theorem hk_if_eq {x : Int32} {off : Int} {tgt : Nat} (hd : decode b pc = .ok (.ifCond .eq off, 3)) (ht : (pc : Int) + off = (tgt : Int)) (hp : pc + 3 = pc') (kt : x = 0 → hk_W G l d y b nL ret hh Q X k n h tgt lv st) (kf : ¬ x = 0 → hk_W G l d y b nL ret hh Q X k n h pc' lv st) : hk_W G l d y b nL ret hh Q X k n h pc lv (.int x :: st) := by
  subst hp
  intro p e s m args below meth c H locs cells slots mc ms ls C hk hn hO hL hl
  exact lv_if_eq C.1 C.2.1 hd ht (fun z => kt z p e s m args below meth c H locs cells slots mc ms ls C hk hn hO hL hl) (fun z => kf z p e s m args below meth c H locs cells slots mc ms ls C hk hn hO hL hl)
theorem hk_icmp_eq {x z : Int32} {off : Int} {tgt : Nat} (hd : decode b pc = .ok (.if_icmp .eq off, 3)) (ht : (pc : Int) + off = (tgt : Int)) (hp : pc + 3 = pc') (kt : x = z → hk_W G l d y b nL ret hh Q X k n h tgt lv st) (kf : ¬ x = z → hk_W G l d y b nL ret hh Q X k n h pc' lv st) : hk_W G l d y b nL ret hh Q X k n h pc lv (.int z :: .int x :: st) := by
  subst hp
  intro p e s m args below meth c H locs cells slots mc ms ls C hk hn hO hL hl
  exact lv_icmp_eq C.1 C.2.1 hd ht (fun z => kt z p e s m args below meth c H locs cells slots mc ms ls C hk hn hO hL hl) (fun z => kf z p e s m args below meth c H locs cells slots mc ms ls C hk hn hO hL hl)
theorem hk_if_ne {x : Int32} {off : Int} {tgt : Nat} (hd : decode b pc = .ok (.ifCond .ne off, 3)) (ht : (pc : Int) + off = (tgt : Int)) (hp : pc + 3 = pc') (kt : ¬ x = 0 → hk_W G l d y b nL ret hh Q X k n h tgt lv st) (kf : x = 0 → hk_W G l d y b nL ret hh Q X k n h pc' lv st) : hk_W G l d y b nL ret hh Q X k n h pc lv (.int x :: st) := by
  subst hp
  intro p e s m args below meth c H locs cells slots mc ms ls C hk hn hO hL hl
  exact lv_if_ne C.1 C.2.1 hd ht (fun z => kt z p e s m args below meth c H locs cells slots mc ms ls C hk hn hO hL hl) (fun z => kf z p e s m args below meth c H locs cells slots mc ms ls C hk hn hO hL hl)
theorem hk_icmp_ne {x z : Int32} {off : Int} {tgt : Nat} (hd : decode b pc = .ok (.if_icmp .ne off, 3)) (ht : (pc : Int) + off = (tgt : Int)) (hp : pc + 3 = pc') (kt : ¬ x = z → hk_W G l d y b nL ret hh Q X k n h tgt lv st) (kf : x = z → hk_W G l d y b nL ret hh Q X k n h pc' lv st) : hk_W G l d y b nL ret hh Q X k n h pc lv (.int z :: .int x :: st) := by
  subst hp
  intro p e s m args below meth c H locs cells slots mc ms ls C hk hn hO hL hl
  exact lv_icmp_ne C.1 C.2.1 hd ht (fun z => kt z p e s m args below meth c H locs cells slots mc ms ls C hk hn hO hL hl) (fun z => kf z p e s m args below meth c H locs cells slots mc ms ls C hk hn hO hL hl)
theorem hk_if_lt {x : Int32} {off : Int} {tgt : Nat} (hd : decode b pc = .ok (.ifCond .lt off, 3)) (ht : (pc : Int) + off = (tgt : Int)) (hp : pc + 3 = pc') (kt : x < 0 → hk_W G l d y b nL ret hh Q X k n h tgt lv st) (kf : ¬ x < 0 → hk_W G l d y b nL ret hh Q X k n h pc' lv st) : hk_W G l d y b nL ret hh Q X k n h pc lv (.int x :: st) := by
  subst hp
  intro p e s m args below meth c H locs cells slots mc ms ls C hk hn hO hL hl
  exact lv_if_lt C.1 C.2.1 hd ht (fun z => kt z p e s m args below meth c H locs cells slots mc ms ls C hk hn hO hL hl) (fun z => kf z p e s m args below meth c H locs cells slots mc ms ls C hk hn hO hL hl)
theorem hk_icmp_lt {x z : Int32} {off : Int} {tgt : Nat} (hd : decode b pc = .ok (.if_icmp .lt off, 3)) (ht : (pc : Int) + off = (tgt : Int)) (hp : pc + 3 = pc') (kt : x < z → hk_W G l d y b nL ret hh Q X k n h tgt lv st) (kf : ¬ x < z → hk_W G l d y b nL ret hh Q X k n h pc' lv st) : hk_W G l d y b nL ret hh Q X k n h pc lv (.int z :: .int x :: st) := by
  subst hp
  intro p e s m args below meth c H locs cells slots mc ms ls C hk hn hO hL hl
  exact lv_icmp_lt C.1 C.2.1 hd ht (fun z => kt z p e s m args below meth c H locs cells slots mc ms ls C hk hn hO hL hl) (fun z => kf z p e s m args below meth c H locs cells slots mc ms ls C hk hn hO hL hl)
theorem hk_if_ge {x : Int32} {off : Int} {tgt : Nat} (hd : decode b pc = .ok (.ifCond .ge off, 3)) (ht : (pc : Int) + off = (tgt : Int)) (hp : pc + 3 = pc') (kt : 0 ≤ x → hk_W G l d y b nL ret hh Q X k n h tgt lv st) (kf : ¬ 0 ≤ x → hk_W G l d y b nL ret hh Q X k n h pc' lv st) : hk_W G l d y b nL ret hh Q X k n h pc lv (.int x :: st) := by
  subst hp
  intro p e s m args below meth c H locs cells slots mc ms ls C hk hn hO hL hl
  exact lv_if_ge C.1 C.2.1 hd ht (fun z => kt z p e s m args below meth c H locs cells slots mc ms ls C hk hn hO hL hl) (fun z => kf z p e s m args below meth c H locs cells slots mc ms ls C hk hn hO hL hl)
theorem hk_icmp_ge {x z : Int32} {off : Int} {tgt : Nat} (hd : decode b pc = .ok (.if_icmp .ge off, 3)) (ht : (pc : Int) + off = (tgt : Int)) (hp : pc + 3 = pc') (kt : z ≤ x → hk_W G l d y b nL ret hh Q X k n h tgt lv st) (kf : ¬ z ≤ x → hk_W G l d y b nL ret hh Q X k n h pc' lv st) : hk_W G l d y b nL ret hh Q X k n h pc lv (.int z :: .int x :: st) := by
  subst hp
  intro p e s m args below meth c H locs cells slots mc ms ls C hk hn hO hL hl
  exact lv_icmp_ge C.1 C.2.1 hd ht (fun z => kt z p e s m args below meth c H locs cells slots mc ms ls C hk hn hO hL hl) (fun z => kf z p e s m args below meth c H locs cells slots mc ms ls C hk hn hO hL hl)
theorem hk_if_gt {x : Int32} {off : Int} {tgt : Nat} (hd : decode b pc = .ok (.ifCond .gt off, 3)) (ht : (pc : Int) + off = (tgt : Int)) (hp : pc + 3 = pc') (kt : 0 < x → hk_W G l d y b nL ret hh Q X k n h tgt lv st) (kf : ¬ 0 < x → hk_W G l d y b nL ret hh Q X k n h pc' lv st) : hk_W G l d y b nL ret hh Q X k n h pc lv (.int x :: st) := by
  subst hp
  intro p e s m args below meth c H locs cells slots mc ms ls C hk hn hO hL hl
  exact lv_if_gt C.1 C.2.1 hd ht (fun z => kt z p e s m args below meth c H locs cells slots mc ms ls C hk hn hO hL hl) (fun z => kf z p e s m args below meth c H locs cells slots mc ms ls C hk hn hO hL hl)
theorem hk_icmp_gt {x z : Int32} {off : Int} {tgt : Nat} (hd : decode b pc = .ok (.if_icmp .gt off, 3)) (ht : (pc : Int) + off = (tgt : Int)) (hp : pc + 3 = pc') (kt : z < x → hk_W G l d y b nL ret hh Q X k n h tgt lv st) (kf : ¬ z < x → hk_W G l d y b nL ret hh Q X k n h pc' lv st) : hk_W G l d y b nL ret hh Q X k n h pc lv (.int z :: .int x :: st) := by
  subst hp
  intro p e s m args below meth c H locs cells slots mc ms ls C hk hn hO hL hl
  exact lv_icmp_gt C.1 C.2.1 hd ht (fun z => kt z p e s m args below meth c H locs cells slots mc ms ls C hk hn hO hL hl) (fun z => kf z p e s m args below meth c H locs cells slots mc ms ls C hk hn hO hL hl)
theorem hk_if_le {x : Int32} {off : Int} {tgt : Nat} (hd : decode b pc = .ok (.ifCond .le off, 3)) (ht : (pc : Int) + off = (tgt : Int)) (hp : pc + 3 = pc') (kt : x ≤ 0 → hk_W G l d y b nL ret hh Q X k n h tgt lv st) (kf : ¬ x ≤ 0 → hk_W G l d y b nL ret hh Q X k n h pc' lv st) : hk_W G l d y b nL ret hh Q X k n h pc lv (.int x :: st) := by
  subst hp
  intro p e s m args below meth c H locs cells slots mc ms ls C hk hn hO hL hl
  exact lv_if_le C.1 C.2.1 hd ht (fun z => kt z p e s m args below meth c H locs cells slots mc ms ls C hk hn hO hL hl) (fun z => kf z p e s m args below meth c H locs cells slots mc ms ls C hk hn hO hL hl)
theorem hk_icmp_le {x z : Int32} {off : Int} {tgt : Nat} (hd : decode b pc = .ok (.if_icmp .le off, 3)) (ht : (pc : Int) + off = (tgt : Int)) (hp : pc + 3 = pc') (kt : x ≤ z → hk_W G l d y b nL ret hh Q X k n h tgt lv st) (kf : ¬ x ≤ z → hk_W G l d y b nL ret hh Q X k n h pc' lv st) : hk_W G l d y b nL ret hh Q X k n h pc lv (.int z :: .int x :: st) := by
  subst hp
  intro p e s m args below meth c H locs cells slots mc ms ls C hk hn hO hL hl
  exact lv_icmp_le C.1 C.2.1 hd ht (fun z => kt z p e s m args below meth c H locs cells slots mc ms ls C hk hn hO hL hl) (fun z => kf z p e s m args below meth c H locs cells slots mc ms ls C hk hn hO hL hl)
theorem hk_acmp_eq {rx ry : Option Nat} {off : Int} {tgt : Nat} (hd : decode b pc = .ok (.if_acmp .eq off, 3)) (ht : (pc : Int) + off = (tgt : Int)) (hp : pc + 3 = pc') (kt : rx = ry → hk_W G l d y b nL ret hh Q X k n h tgt lv st) (kf : ¬ rx = ry → hk_W G l d y b nL ret hh Q X k n h pc' lv st) : hk_W G l d y b nL ret hh Q X k n h pc lv (va_rf ry :: va_rf rx :: st) := by
  subst hp
  intro p e s m args below meth c H locs cells slots mc ms ls C hk hn hO hL hl
  exact lv_acmp_eq C.1 C.2.1 hd ht (fun z => kt z p e s m args below meth c H locs cells slots mc ms ls C hk hn hO hL hl) (fun z => kf z p e s m args below meth c H locs cells slots mc ms ls C hk hn hO hL hl)
theorem hk_acmp_ne {rx ry : Option Nat} {off : Int} {tgt : Nat} (hd : decode b pc = .ok (.if_acmp .ne off, 3)) (ht : (pc : Int) + off = (tgt : Int)) (hp : pc + 3 = pc') (kt : ¬ rx = ry → hk_W G l d y b nL ret hh Q X k n h tgt lv st) (kf : rx = ry → hk_W G l d y b nL ret hh Q X k n h pc' lv st) : hk_W G l d y b nL ret hh Q X k n h pc lv (va_rf ry :: va_rf rx :: st) := by
  subst hp
  intro p e s m args below meth c H locs cells slots mc ms ls C hk hn hO hL hl
  exact lv_acmp_ne C.1 C.2.1 hd ht (fun z => kt z p e s m args below meth c H locs cells slots mc ms ls C hk hn hO hL hl) (fun z => kf z p e s m args below meth c H locs cells slots mc ms ls C hk hn hO hL hl)
theorem hk_goto {off : Int} {tgt : Nat} (hd : decode b pc = .ok (.goto off, 3)) (ht : (pc : Int) + off = (tgt : Int)) (kk : hk_W G l d y b nL ret hh Q X k n h tgt lv st) : hk_W G l d y b nL ret hh Q X k n h pc lv st := by
  intro p e s m args below meth c H locs cells slots mc ms ls C hk hn hO hL hl
  exact lv_goto C.1 C.2.1 hd ht (kk p e s m args below meth c H locs cells slots mc ms ls C hk hn hO hL hl)
theorem hk_ifnull_t {off : Int} {tgt : Nat} (hd : decode b pc = .ok (.ifnull off, 3)) (ht : (pc : Int) + off = (tgt : Int)) (kk : hk_W G l d y b nL ret hh Q X k n h tgt lv st) : hk_W G l d y b nL ret hh Q X k n h pc lv (.null :: st) := by
  intro p e s m args below meth c H locs cells slots mc ms ls C hk hn hO hL hl
  exact lv_ifnullN C.1 C.2.1 hd ht (kk p e s m args below meth c H locs cells slots mc ms ls C hk hn hO hL hl)
theorem hk_ifnull_f {x : Nat} {off : Int} (hd : decode b pc = .ok (.ifnull off, 3)) (hp : pc + 3 = pc') (kk : hk_W G l d y b nL ret hh Q X k n h pc' lv st) : hk_W G l d y b nL ret hh Q X k n h pc lv (.ref x :: st) := by
  subst hp
  intro p e s m args below meth c H locs cells slots mc ms ls C hk hn hO hL hl
  exact lv_ifnull C.1 C.2.1 hd (kk p e s m args below meth c H locs cells slots mc ms ls C hk hn hO hL hl)
theorem hk_ifnonnull_t {x : Nat} {off : Int} {tgt : Nat} (hd : decode b pc = .ok (.ifnonnull off, 3)) (ht : (pc : Int) + off = (tgt : Int)) (kk : hk_W G l d y b nL ret hh Q X k n h tgt lv st) : hk_W G l d y b nL ret hh Q X k n h pc lv (.ref x :: st) := by
  intro p e s m args below meth c H locs cells slots mc ms ls C hk hn hO hL hl
  exact lv_ifnonnull C.1 C.2.1 hd ht (kk p e s m args below meth c H locs cells slots mc ms ls C hk hn hO hL hl)
theorem hk_ifnonnull_f {off : Int} (hd : decode b pc = .ok (.ifnonnull off, 3)) (hp : pc + 3 = pc') (kk : hk_W G l d y b nL ret hh Q X k n h pc' lv st) : hk_W G l d y b nL ret hh Q X k n h pc lv (.null :: st) := by
  subst hp
  intro p e s m args below meth c H locs cells slots mc ms ls C hk hn hO hL hl
  exact lv_ifnonnullN C.1 C.2.1 hd (kk p e s m args below meth c H locs cells slots mc ms ls C hk hn hO hL hl)
theorem hk_swIn {dflt lo hi : Int} {offs : Array Int} {len : Nat} {x : Int32} {off : Int} {tgt : Nat} (hd : decode b pc = .ok (.tableswitch dflt lo hi offs, len)) (h1 : ¬ x.toInt < lo) (h2 : ¬ hi < x.toInt) (ho : offs[(x.toInt - lo).toNat]? = some off) (ht : (pc : Int) + off = (tgt : Int)) (kk : hk_W G l d y b nL ret hh Q X k n h tgt lv st) : hk_W G l d y b nL ret hh Q X k n h pc lv (.int x :: st) := by
  intro p e s m args below meth c H locs cells slots mc ms ls C hk hn hO hL hl
  exact lv_tableIn C.1 C.2.1 hd h1 h2 ho ht (kk p e s m args below meth c H locs cells slots mc ms ls C hk hn hO hL hl)
theorem hk_swOut {dflt lo hi : Int} {offs : Array Int} {len : Nat} {x : Int32} {tgt : Nat} (hd : decode b pc = .ok (.tableswitch dflt lo hi offs, len)) (h1 : x.toInt < lo ∨ hi < x.toInt) (ht : (pc : Int) + dflt = (tgt : Int)) (kk : hk_W G l d y b nL ret hh Q X k n h tgt lv st) : hk_W G l d y b nL ret hh Q X k n h pc lv (.int x :: st) := by
  intro p e s m args below meth c H locs cells slots mc ms ls C hk hn hO hL hl
  exact lv_tableOut C.1 C.2.1 hd h1 ht (kk p e s m args below meth c H locs cells slots mc ms ls C hk hn hO hL hl)
theorem hk_loc {lv' : List (Option Value)} (hle : hk_le lv' lv) (kk : hk_W G l d y b nL ret hh Q X k n h pc lv' st) : hk_W G l d y b nL ret hh Q X k n h pc lv st := by
  intro p e s m args below meth c H locs cells slots mc ms ls C hk hn hO hL hl
  exact kk p e s m args below meth c H locs cells slots mc ms ls C hk hn hO ((hk_le_len hle).1.trans hL) (hl.weak hle)
theorem hk_bud {k' n' : Nat} (h1 : k' ≤ k) (h2 : n' ≤ n) (kk : hk_W G l d y b nL ret hh Q X k' n' h pc lv st) : hk_W G l d y b nL ret hh Q X k n h pc lv st := by
  intro p e s m args below meth c H locs cells slots mc ms ls C hk hn hO hL hl
  exact kk p e s m args below meth c H locs cells slots mc ms ls C (by omega) (by omega) hO hL hl
end HK
theorem hk_C.exec {G l y b nL ret hh p s m args meth c} (C : hk_C G l y b nL ret hh p s m args meth c) : p.tables.exec = Jvm.exec := C.1
theorem hk_C.bytes {G l y b nL ret hh p s m args meth c} (C : hk_C G l y b nL ret hh p s m args meth c) : c.code = b := C.2.1
theorem hk_C.returns {G l y b nL ret hh p s m args meth c} (C : hk_C G l y b nL ret hh p s m args meth c) : meth.sig.returnType = ret := C.2.2.1
theorem hk_C.maxL {G l y b nL ret hh p s m args meth c} (C : hk_C G l y b nL ret hh p s m args meth c) : c.maxLocals = nL := C.2.2.2.1
theorem hk_C.own {G l y b nL ret hh p s m args meth c} (C : hk_C G l y b nL ret hh p s m args meth c) : s.vm.findClass y.cls = some m.cls := C.2.2.2.2.1
theorem hk_C.words {G l y b nL ret hh p s m args meth c} (C : hk_C G l y b nL ret hh p s m args meth c) : ∀ w ∈ hk_all, w.before args s = true := C.2.2.2.2.2.1
theorem hk_C.locks {G l y b nL ret hh p s m args meth c} (C : hk_C G l y b nL ret hh p s m args meth c) : meth.locks = false := C.2.2.2.2.2.2.1
theorem hk_C.name {G l y b nL ret hh p s m args meth c} (C : hk_C G l y b nL ret hh p s m args meth c) : meth.name = y.name := C.2.2.2.2.2.2.2.1
theorem hk_C.table {G l y b nL ret hh p s m args meth c} (C : hk_C G l y b nL ret hh p s m args meth c) : c.exceptionTable.toList = tableOf hh := C.2.2.2.2.2.2.2.2.1
theorem hk_C.F {G l y b nL ret hh p s m args meth c} (C : hk_C G l y b nL ret hh p s m args meth c) : hk_F G s s.heap := C.2.2.2.2.2.2.2.2.2.1
theorem hk_C.flag {G l y b nL ret hh p s m args meth c} (C : hk_C G l y b nL ret hh p s m args meth c) : l.stackTraces = false := C.2.2.2.2.2.2.2.2.2.2.1
theorem hk_C.base {G l y b nL ret hh p s m args meth c} (C : hk_C G l y b nL ret hh p s m args meth c) : hk_B G ≤ s.heap.size := C.2.2.2.2.2.2.2.2.2.2.2
-- a class of the worlds: its row, its words, its types
def hk_cls (ci : Nat) (K : String) (T : u_T) (N : Nat) (ty : Nat → FieldType) : Prop := vwCl[ci]? = some (K, T, N) ∧ (∀ w ∈ u_ws K T N, w ∈ hk_all) ∧ (∀ j, j < N → parseFieldDescriptor (T j).2.2.1 = some (ty j)) ∧ ∀ a, a < N → ∀ b, b < N → a ≠ b → (T a).2.1 ≠ (T b).2.1
theorem hk_in (ws : List Cond) (ps : List Nat) (hp : ws = ps.filterMap (fun i => lw_tbl[i]?)) (h : ws.all goodWord = true) : ∀ w ∈ ws, w ∈ hk_all := fun w hw => by
  have h1 := List.all_eq_true.mp h w hw
  rw [hp] at hw
  obtain ⟨i, -, hi⟩ := List.mem_filterMap.mp hw
  exact hk_w hi h1
-- a field by its entry: of class ci its place f
def hk_fl (own : String) (idx ci f : Nat) : Prop := ∃ (K : String) (T : u_T) (N : Nat) (ty : Nat → FieldType), hk_cls ci K T N ty ∧ f < N ∧
  ((Cond.fieldLink own idx (T f).1 (T f).2.1 (T f).2.2.1 ∈ hk_all) ∨ (∃ ref : String, Cond.fieldLink own idx ref (T f).2.1 (T f).2.2.1 ∈ hk_all ∧ Cond.sameField ref (T f).1 (T f).2.1 (T f).2.2.1 ∈ hk_all) ∨ (∃ host : String, Cond.fieldLinkNest own idx (T f).1 (T f).2.1 (T f).2.2.1 host ∈ lw_tbl))
-- .. that may be written: an ordinary one, by a plain or a nest link; a final one in its class's own constructor
def hk_fw (y : MethodName) (idx ci f : Nat) (t : FieldType) : Prop := ∃ (K : String) (T : u_T) (N : Nat) (ty : Nat → FieldType), hk_cls ci K T N ty ∧ f < N ∧ parseFieldDescriptor (T f).2.2.1 = some t ∧
  (((T f).2.2.2 = false ∧ (Cond.fieldLink y.cls idx (T f).1 (T f).2.1 (T f).2.2.1 ∈ hk_all)) ∨ ((T f).2.2.2 = false ∧ ∃ ref : String, Cond.fieldLink y.cls idx ref (T f).2.1 (T f).2.2.1 ∈ hk_all ∧ Cond.sameField ref (T f).1 (T f).2.1 (T f).2.2.1 ∈ hk_all) ∨ ((T f).2.2.2 = false ∧ ∃ host : String, Cond.fieldLinkNest y.cls idx (T f).1 (T f).2.1 (T f).2.2.1 host ∈ lw_tbl) ∨ ((T f).2.2.2 = true ∧ y.name = "<init>" ∧ (T f).1 = y.cls ∧ (Cond.fieldLink y.cls idx (T f).1 (T f).2.1 (T f).2.2.1 ∈ hk_all)))

section HK
variable {G : hk_G} {l : Launch} {d : Nat} {y : MethodName} {b : ByteArray} {nL : Nat} {ret : Option FieldType} {hh : List (Nat × Nat × Nat × Nat)} {Q : Option Value → hk_H → Prop} {X : String → hk_H → Prop} {k n : Nat} {h : hk_H} {pc pc' : Nat} {lv : List (Option Value)} {st : List Value}
theorem hk_getf {a idx ci f : Nat} {fs : List Value} {v : Value} (hd : decode b pc = .ok (.getfield idx, 3)) (hp : pc + 3 = pc') (L : hk_fl y.cls idx ci f) (ha : h a = some (.inr (ci, fs))) (hv : fs[f]? = some v) (kk : hk_W G l d y b nL ret hh Q X k n h pc' lv (v :: st)) : hk_W G l d y b nL ret hh Q X k n h pc lv (.ref a :: st) := by
  subst hp
  intro p e s m args below meth c H locs cells slots mc ms ls C hk hn hO hL hl
  obtain ⟨K, T, N, ty, hc, hf, hlk⟩ := L
  have hpa : va_P (hk_D G) vwCl [(a, hk_cv G (.inr (ci, fs)))] H := fun j q hj => by
    have h0 : j < 1 := (List.getElem?_eq_some_iff.mp hj).1
    rw [show j = 0 by omega] at hj
    cases hj
    exact (hO.1 a _ ha).2
  rcases hlk with h1 | ⟨ref, h1, h2⟩ | ⟨host, h1⟩
  · exact va_get C.exec C.bytes C.words hc.2.1 C.own C.F.K hpa 0 (fs := fs) rfl hc.1 f hf (C.words _ h1) (fun _ z => z) hv hd (kk p e s m args below meth c H locs cells slots mc ms ls C hk hn hO hL hl)
  · exact va_get C.exec C.bytes C.words hc.2.1 C.own C.F.K hpa 0 (fs := fs) rfl hc.1 f hf (C.words _ h1) (fun x z => u_same (C.words _ h2) x z) hv hd (kk p e s m args below meth c H locs cells slots mc ms ls C hk hn hO hL hl)
  · exact va_getN C.exec C.bytes C.words hc.2.1 C.own C.F.K hpa 0 (fs := fs) rfl hc.1 f hf (va_Nw.use rfl (C.F.2.2.2.2.2.1 _ h1 rfl)) (fun _ z => z) hv hd (kk p e s m args below meth c H locs cells slots mc ms ls C hk hn hO hL hl)
theorem hk_putf {a idx ci f : Nat} {fs : List Value} {v : Value} {t : FieldType} (hd : decode b pc = .ok (.putfield idx, 3)) (hp : pc + 3 = pc') (L : hk_fw y idx ci f t) (ha : h a = some (.inr (ci, fs))) (hn1 : narrow t v = v) (hn2 : fits t v = true) (hlen : f < fs.length) (kk : hk_W G l d y b nL ret hh Q X k n (hk_set h a (.inr (ci, fs.set f v))) pc' lv st) : hk_W G l d y b nL ret hh Q X k n h pc lv (v :: .ref a :: st) := by
  subst hp
  intro p e s m args below meth c H locs cells slots mc ms ls C hk hn hO hL hl
  obtain ⟨K, T, N, ty0, hc, hf, hd0, hlk⟩ := L
  have hpa := hO.1 a _ ha
  obtain ⟨r, hr1, cell, q1, q2, q3, q4⟩ := hpa.2
  have hr : r = (K, T, N) := Option.some.inj (hr1.symm.trans hc.1)
  subst hr
  have hap := va_apart (own := y.cls) C.words hc.2.1 ty0 hc.2.2.1 hc.2.2.2 C.F.K hc.1
  obtain ⟨hS, hfc, kC, hkC, hkind⟩ := C.F.1 ci _ hc.1
  obtain ⟨cf, kf, fi, fd, hi, hsl⟩ := hS f hf
  have hst := (u_facts hfc hkC (u_lays C.words hc.2.1 hf) hi).1
  have fin : ∀ (H1 : Heap), H1[a]? = some (cell.setSlot fd.slot v) → H1.size = H.size → (∀ q, q ≠ a → H1[q]? = H[q]?) → W p l e (hk_rm d mc ms) s m args below meth c H1 (locs ++ [⟨a, fd.slot⟩]) cells slots (vx_MQ below (hk_Qc G Q) (hk_XC G X) args s mc ms (hk_A G)) (F0 m (pc + 3) ls st) := fun H1 e1 e2 e3 => by
    rw [hsl] at e1
    exact kk p e s m args below meth c H1 _ cells slots mc ms ls C hk hn ⟨hO.1.set ha ⟨_, hc.1, t_OB.to (V := updV (vp_V fs) f v) ⟨_, e1, q2, q3, t_set q4 hap hf v⟩ (fun j _ => vp_updV_set hlen v j)⟩ e3, hO.2.put e2 e3 hpa.1⟩ hL hl
  have hlay := C.words _ (hc.2.1 _ (u_in_lay hf))
  unfold u_lay at hlay
  rcases hlk with ⟨hfin, h1⟩ | ⟨hfin, ref, h1, h2⟩ | ⟨hfin, host, h1⟩ | ⟨hfin, hin, hdc, h1⟩
  · rw [if_neg (by rw [hfin]; decide)] at hlay
    have h6 := u_store hfc hkC hkind hlay hi hd0 hn1 hn2
    exact W.putK C.exec C.bytes (f := fd) ⟨C.own, C.words _ h1, ⟨_, _, _, hi⟩, hst⟩ (by rw [q2]; exact h6) q1 q3 (by rw [hsl]; exact k2_hasslot (q4 f hf)) rfl rfl hd fin
  · rw [if_neg (by rw [hfin]; decide)] at hlay
    have h6 := u_store hfc hkC hkind hlay hi hd0 hn1 hn2
    exact W.putK C.exec C.bytes (f := fd) ⟨C.own, C.words _ h1, ⟨_, _, _, u_same (C.words _ h2) _ hi⟩, hst⟩ (by rw [q2]; exact h6) q1 q3 (by rw [hsl]; exact k2_hasslot (q4 f hf)) rfl rfl hd fin
  · rw [if_neg (by rw [hfin]; decide)] at hlay
    have h6 := u_store hfc hkC hkind hlay hi hd0 hn1 hn2
    have hal : a < H.size := (Array.getElem?_eq_some_iff.mp q1).1
    refine va_Wputf C.exec C.bytes C.own (va_Nw.use rfl (C.F.2.2.2.2.2.1 _ h1 rfl)) hi hst (Or.inl h6.1) q1 (by rw [q3]; exact fun z => by cases z) (by rw [hsl]; exact k2_hasslot (q4 f hf)) h6.2.1 (by rw [q3, q2]; exact h6.2.2) rfl rfl hd ?_
    exact fin _ (by simp [Array.getElem?_setIfInBounds, hal]) (by simp) (fun q hq => by simp [Array.getElem?_setIfInBounds, Ne.symm hq])
  · rw [if_pos hfin] at hlay
    have hcf : m.cls = cf := by
      obtain ⟨_, _, c', _, _, _, -, -, hf', -, -, -, hown2, -⟩ := Cond.laysFinal_spec hlay
      have e1 : c' = cf := by have := hi.symm.trans hf'; simp at this; exact this.1.symm
      rw [hdc] at hown2
      rw [← e1]; exact Option.some.inj (C.own.symm.trans hown2)
    have h6 := u_fits hfc hkC hkind (Or.inr hlay) hi hd0 hn1 hn2
    exact W.putFinK C.exec C.bytes C.own (C.words _ h1) hi hst hcf (C.name.trans hin) (by rw [q2]; exact h6) q1 q3 (by rw [hsl]; exact k2_hasslot (q4 f hf)) rfl rfl hd fin
theorem hk_iald {a cnt : Nat} {f : Nat → Int32} {i : Int32} (hd : decode b pc = .ok (.iaload, 1)) (hp : pc + 1 = pc') (ha : h a = some (.inl (0, cnt, .inl f))) (hin : vp_in i cnt) (kk : hk_W G l d y b nL ret hh Q X k n h pc' lv (.int (f i.toNatClampNeg) :: st)) : hk_W G l d y b nL ret hh Q X k n h pc lv (.int i :: .ref a :: st) := by
  subst hp
  intro p e s m args below meth c H locs cells slots mc ms ls C hk hn hO hL hl
  have hlt : i.toNatClampNeg < cnt := Nat.not_le.mp fun q => hin (Or.inr q)
  exact W.iald (v := .int (f i.toNatClampNeg)) C.exec C.bytes (hO.1 a _ ha).2 ((C.F.2.1 0 (by decide)).1 cnt (fun j => .int (f j))) (fun q => by cases q) (by show ¬ (i < 0 ∨ (arrV _ _ _).slots.size ≤ _); rw [arrV_size]; exact hin) (by show (arrV _ _ _).slots[_]? = _; rw [arrV_read _ _ hlt]) rfl rfl hd (kk p e s m args below meth c H locs cells slots mc ms ls C hk hn hO hL hl)
theorem hk_zald {a cnt : Nat} {f : Nat → Int32} {i : Int32} (hd : decode b pc = .ok (.baload, 1)) (hp : pc + 1 = pc') (ha : h a = some (.inl (1, cnt, .inl f))) (hin : vp_in i cnt) (kk : hk_W G l d y b nL ret hh Q X k n h pc' lv (.int (f i.toNatClampNeg) :: st)) : hk_W G l d y b nL ret hh Q X k n h pc lv (.int i :: .ref a :: st) := by
  subst hp
  intro p e s m args below meth c H locs cells slots mc ms ls C hk hn hO hL hl
  have hlt : i.toNatClampNeg < cnt := Nat.not_le.mp fun q => hin (Or.inr q)
  exact W.zald (v := .int (f i.toNatClampNeg)) C.exec C.bytes (hO.1 a _ ha).2 ((C.F.2.1 1 (by decide)).1 cnt (fun j => .int (f j))) (fun q => by cases q) (by show ¬ (i < 0 ∨ (arrV _ _ _).slots.size ≤ _); rw [arrV_size]; exact hin) (by show (arrV _ _ _).slots[_]? = _; rw [arrV_read _ _ hlt]) rfl rfl hd (kk p e s m args below meth c H locs cells slots mc ms ls C hk hn hO hL hl)
theorem hk_cald {a cnt : Nat} {f : Nat → Int32} {i : Int32} (hd : decode b pc = .ok (.caload, 1)) (hp : pc + 1 = pc') (ha : h a = some (.inl (4, cnt, .inl f))) (hin : vp_in i cnt) (kk : hk_W G l d y b nL ret hh Q X k n h pc' lv (.int (f i.toNatClampNeg) :: st)) : hk_W G l d y b nL ret hh Q X k n h pc lv (.int i :: .ref a :: st) := by
  subst hp
  intro p e s m args below meth c H locs cells slots mc ms ls C hk hn hO hL hl
  have hlt : i.toNatClampNeg < cnt := Nat.not_le.mp fun q => hin (Or.inr q)
  exact W.cald (v := .int (f i.toNatClampNeg)) C.exec C.bytes (hO.1 a _ ha).2 ((C.F.2.1 4 (by decide)).1 cnt (fun j => .int (f j))) (fun q => by cases q) (by show ¬ (i < 0 ∨ (arrV _ _ _).slots.size ≤ _); rw [arrV_size]; exact hin) (by show (arrV _ _ _).slots[_]? = _; rw [arrV_read _ _ hlt]) rfl rfl hd (kk p e s m args below meth c H locs cells slots mc ms ls C hk hn hO hL hl)
theorem hk_lald {a cnt : Nat} {f : Nat → Int64} {i : Int32} (hd : decode b pc = .ok (.laload, 1)) (hp : pc + 1 = pc') (ha : h a = some (.inl (2, cnt, .inr (.inl f)))) (hin : vp_in i cnt) (kk : hk_W G l d y b nL ret hh Q X k n h pc' lv (.long (f i.toNatClampNeg) :: st)) : hk_W G l d y b nL ret hh Q X k n h pc lv (.int i :: .ref a :: st) := by
  subst hp
  intro p e s m args below meth c H locs cells slots mc ms ls C hk hn hO hL hl
  have hlt : i.toNatClampNeg < cnt := Nat.not_le.mp fun q => hin (Or.inr q)
  exact W.lald (v := .long (f i.toNatClampNeg)) C.exec C.bytes (hO.1 a _ ha).2 ((C.F.2.1 2 (by decide)).1 cnt (fun j => .long (f j))) (fun q => by cases q) (by show ¬ (i < 0 ∨ (arrV _ _ _).slots.size ≤ _); rw [arrV_size]; exact hin) (by show (arrV _ _ _).slots[_]? = _; rw [arrV_read _ _ hlt]) rfl rfl hd (kk p e s m args below meth c H locs cells slots mc ms ls C hk hn hO hL hl)
theorem hk_dald {a cnt : Nat} {f : Nat → UInt64} {i : Int32} (hd : decode b pc = .ok (.daload, 1)) (hp : pc + 1 = pc') (ha : h a = some (.inl (3, cnt, .inr (.inr (.inr (.inl f)))))) (hin : vp_in i cnt) (kk : hk_W G l d y b nL ret hh Q X k n h pc' lv (.double (f i.toNatClampNeg) :: st)) : hk_W G l d y b nL ret hh Q X k n h pc lv (.int i :: .ref a :: st) := by
  subst hp
  intro p e s m args below meth c H locs cells slots mc ms ls C hk hn hO hL hl
  have hlt : i.toNatClampNeg < cnt := Nat.not_le.mp fun q => hin (Or.inr q)
  exact W.dald (v := .double (f i.toNatClampNeg)) C.exec C.bytes (hO.1 a _ ha).2 ((C.F.2.1 3 (by decide)).1 cnt (fun j => .double (f j))) (fun q => by cases q) (by show ¬ (i < 0 ∨ (arrV _ _ _).slots.size ≤ _); rw [arrV_size]; exact hin) (by show (arrV _ _ _).slots[_]? = _; rw [arrV_read _ _ hlt]) rfl rfl hd (kk p e s m args below meth c H locs cells slots mc ms ls C hk hn hO hL hl)
theorem hk_aald {a cnt : Nat} {f : Nat → Option Nat} {i : Int32} (hd : decode b pc = .ok (.aaload, 1)) (hp : pc + 1 = pc') (ha : h a = some (.inl (5, cnt, .inr (.inr (.inr (.inr f)))))) (hin : vp_in i cnt) (kk : hk_W G l d y b nL ret hh Q X k n h pc' lv (va_rf (f i.toNatClampNeg) :: st)) : hk_W G l d y b nL ret hh Q X k n h pc lv (.int i :: .ref a :: st) := by
  subst hp
  intro p e s m args below meth c H locs cells slots mc ms ls C hk hn hO hL hl
  have hlt : i.toNatClampNeg < cnt := Nat.not_le.mp fun q => hin (Or.inr q)
  exact W.aald (v := va_rf (f i.toNatClampNeg)) C.exec C.bytes (hO.1 a _ ha).2 ((C.F.2.1 5 (by decide)).1 cnt (fun j => va_rf (f j))) rfl (fun q => by cases q) (by show ¬ (i < 0 ∨ (arrV _ _ _).slots.size ≤ _); rw [arrV_size]; exact hin) (by show (arrV _ _ _).slots[_]? = _; rw [arrV_read _ _ hlt]) rfl rfl hd (kk p e s m args below meth c H locs cells slots mc ms ls C hk hn hO hL hl)
theorem hk_aaldI {a cnt : Nat} {f : Nat → Option Nat} {i : Int32} (hd : decode b pc = .ok (.aaload, 1)) (hp : pc + 1 = pc') (ha : h a = some (.inl (6, cnt, .inr (.inr (.inr (.inr f)))))) (hin : vp_in i cnt) (kk : hk_W G l d y b nL ret hh Q X k n h pc' lv (va_rf (f i.toNatClampNeg) :: st)) : hk_W G l d y b nL ret hh Q X k n h pc lv (.int i :: .ref a :: st) := by
  subst hp
  intro p e s m args below meth c H locs cells slots mc ms ls C hk hn hO hL hl
  have hlt : i.toNatClampNeg < cnt := Nat.not_le.mp fun q => hin (Or.inr q)
  exact W.aald (v := va_rf (f i.toNatClampNeg)) C.exec C.bytes (hO.1 a _ ha).2 ((C.F.2.1 6 (by decide)).1 cnt (fun j => va_rf (f j))) rfl (fun q => by cases q) (by show ¬ (i < 0 ∨ (arrV _ _ _).slots.size ≤ _); rw [arrV_size]; exact hin) (by show (arrV _ _ _).slots[_]? = _; rw [arrV_read _ _ hlt]) rfl rfl hd (kk p e s m args below meth c H locs cells slots mc ms ls C hk hn hO hL hl)
theorem hk_iast {a cnt : Nat} {f : Nat → Int32} {i : Int32} {x : Int32} (hd : decode b pc = .ok (.iastore, 1)) (hp : pc + 1 = pc') (ha : h a = some (.inl (0, cnt, .inl f))) (hin : vp_in i cnt) (kk : hk_W G l d y b nL ret hh Q X k n (hk_set h a (.inl (0, cnt, .inl (upd f i.toNatClampNeg x)))) pc' lv st) : hk_W G l d y b nL ret hh Q X k n h pc lv (.int x :: .int i :: .ref a :: st) := by
  subst hp
  intro p e s m args below meth c H locs cells slots mc ms ls C hk hn hO hL hl
  have hpa := hO.1 a _ ha
  refine W.iast C.exec C.bytes hpa.2 ((C.F.2.1 0 (by decide)).1 cnt (fun j => .int (f j))) (fun q => by cases q) (by show ¬ (i < 0 ∨ (arrV _ _ _).slots.size ≤ _); rw [arrV_size]; exact hin) rfl rfl hd fun H1 e1 z oq => ?_
  refine kk p e s m args below meth c H1 _ cells slots mc ms ls C hk hn ⟨hO.1.set ha ?_ oq, hO.2.put z oq hpa.1⟩ hL hl
  show H1[a]? = some (arrV (hk_dA G 0) cnt (fun j => .int ((upd f i.toNatClampNeg x) j)))
  rw [e1]
  show some ((arrV (hk_dA G 0) cnt (fun j => .int (f j))).setSlot _ _) = _
  rw [arrV_store]
  congr 2
  funext q
  by_cases hq : q = i.toNatClampNeg
  · subst hq
    simp [updV, upd]
  · simp [updV, upd, hq]
theorem hk_zast {a cnt : Nat} {f : Nat → Int32} {i : Int32} {x : Int32} (hd : decode b pc = .ok (.bastore, 1)) (hp : pc + 1 = pc') (ha : h a = some (.inl (1, cnt, .inl f))) (hin : vp_in i cnt) (hx : narrow .boolean (.int x) = .int x) (kk : hk_W G l d y b nL ret hh Q X k n (hk_set h a (.inl (1, cnt, .inl (upd f i.toNatClampNeg x)))) pc' lv st) : hk_W G l d y b nL ret hh Q X k n h pc lv (.int x :: .int i :: .ref a :: st) := by
  subst hp
  intro p e s m args below meth c H locs cells slots mc ms ls C hk hn hO hL hl
  have hpa := hO.1 a _ ha
  refine W.zast C.exec C.bytes hpa.2 ((C.F.2.1 1 (by decide)).1 cnt (fun j => .int (f j))) (fun q => by cases q) (by show ¬ (i < 0 ∨ (arrV _ _ _).slots.size ≤ _); rw [arrV_size]; exact hin) rfl rfl hd fun H1 e1 z oq => ?_
  refine kk p e s m args below meth c H1 _ cells slots mc ms ls C hk hn ⟨hO.1.set ha ?_ oq, hO.2.put z oq hpa.1⟩ hL hl
  show H1[a]? = some (arrV (hk_dA G 1) cnt (fun j => .int ((upd f i.toNatClampNeg x) j)))
  rw [hx] at e1
  rw [e1]
  show some ((arrV (hk_dA G 1) cnt (fun j => .int (f j))).setSlot _ _) = _
  rw [arrV_store]
  congr 2
  funext q
  by_cases hq : q = i.toNatClampNeg
  · subst hq
    simp [updV, upd]
  · simp [updV, upd, hq]
theorem hk_cast {a cnt : Nat} {f : Nat → Int32} {i : Int32} {x : Int32} (hd : decode b pc = .ok (.castore, 1)) (hp : pc + 1 = pc') (ha : h a = some (.inl (4, cnt, .inl f))) (hin : vp_in i cnt) (hx : narrow .char (.int x) = .int x) (kk : hk_W G l d y b nL ret hh Q X k n (hk_set h a (.inl (4, cnt, .inl (upd f i.toNatClampNeg x)))) pc' lv st) : hk_W G l d y b nL ret hh Q X k n h pc lv (.int x :: .int i :: .ref a :: st) := by
  subst hp
  intro p e s m args below meth c H locs cells slots mc ms ls C hk hn hO hL hl
  have hpa := hO.1 a _ ha
  refine W.cast C.exec C.bytes hpa.2 ((C.F.2.1 4 (by decide)).1 cnt (fun j => .int (f j))) (fun q => by cases q) (by show ¬ (i < 0 ∨ (arrV _ _ _).slots.size ≤ _); rw [arrV_size]; exact hin) rfl rfl hd fun H1 e1 z oq => ?_
  refine kk p e s m args below meth c H1 _ cells slots mc ms ls C hk hn ⟨hO.1.set ha ?_ oq, hO.2.put z oq hpa.1⟩ hL hl
  show H1[a]? = some (arrV (hk_dA G 4) cnt (fun j => .int ((upd f i.toNatClampNeg x) j)))
  rw [hx] at e1
  rw [e1]
  show some ((arrV (hk_dA G 4) cnt (fun j => .int (f j))).setSlot _ _) = _
  rw [arrV_store]
  congr 2
  funext q
  by_cases hq : q = i.toNatClampNeg
  · subst hq
    simp [updV, upd]
  · simp [updV, upd, hq]
theorem hk_last {a cnt : Nat} {f : Nat → Int64} {i : Int32} {x : Int64} (hd : decode b pc = .ok (.lastore, 1)) (hp : pc + 1 = pc') (ha : h a = some (.inl (2, cnt, .inr (.inl f)))) (hin : vp_in i cnt) (kk : hk_W G l d y b nL ret hh Q X k n (hk_set h a (.inl (2, cnt, .inr (.inl (vp_updL f i.toNatClampNeg x))))) pc' lv st) : hk_W G l d y b nL ret hh Q X k n h pc lv (.long x :: .int i :: .ref a :: st) := by
  subst hp
  intro p e s m args below meth c H locs cells slots mc ms ls C hk hn hO hL hl
  have hpa := hO.1 a _ ha
  refine W.last C.exec C.bytes hpa.2 ((C.F.2.1 2 (by decide)).1 cnt (fun j => .long (f j))) (fun q => by cases q) (by show ¬ (i < 0 ∨ (arrV _ _ _).slots.size ≤ _); rw [arrV_size]; exact hin) rfl rfl hd fun H1 e1 z oq => ?_
  refine kk p e s m args below meth c H1 _ cells slots mc ms ls C hk hn ⟨hO.1.set ha ?_ oq, hO.2.put z oq hpa.1⟩ hL hl
  show H1[a]? = some (arrV (hk_dA G 2) cnt (fun j => .long ((vp_updL f i.toNatClampNeg x) j)))
  rw [e1]
  show some ((arrV (hk_dA G 2) cnt (fun j => .long (f j))).setSlot _ _) = _
  rw [arrV_store]
  congr 2
  funext q
  by_cases hq : q = i.toNatClampNeg
  · subst hq
    simp [updV, vp_updL]
  · simp [updV, vp_updL, hq]
theorem hk_dast {a cnt : Nat} {f : Nat → UInt64} {i : Int32} {x : UInt64} (hd : decode b pc = .ok (.dastore, 1)) (hp : pc + 1 = pc') (ha : h a = some (.inl (3, cnt, .inr (.inr (.inr (.inl f)))))) (hin : vp_in i cnt) (kk : hk_W G l d y b nL ret hh Q X k n (hk_set h a (.inl (3, cnt, .inr (.inr (.inr (.inl (vf_upd f i.toNatClampNeg x))))))) pc' lv st) : hk_W G l d y b nL ret hh Q X k n h pc lv (.double x :: .int i :: .ref a :: st) := by
  subst hp
  intro p e s m args below meth c H locs cells slots mc ms ls C hk hn hO hL hl
  have hpa := hO.1 a _ ha
  refine W.dast C.exec C.bytes hpa.2 ((C.F.2.1 3 (by decide)).1 cnt (fun j => .double (f j))) (fun q => by cases q) (by show ¬ (i < 0 ∨ (arrV _ _ _).slots.size ≤ _); rw [arrV_size]; exact hin) rfl rfl hd fun H1 e1 z oq => ?_
  refine kk p e s m args below meth c H1 _ cells slots mc ms ls C hk hn ⟨hO.1.set ha ?_ oq, hO.2.put z oq hpa.1⟩ hL hl
  show H1[a]? = some (arrV (hk_dA G 3) cnt (fun j => .double ((vf_upd f i.toNatClampNeg x) j)))
  rw [e1]
  show some ((arrV (hk_dA G 3) cnt (fun j => .double (f j))).setSlot _ _) = _
  rw [arrV_store]
  congr 2
  funext q
  by_cases hq : q = i.toNatClampNeg
  · subst hq
    simp [updV, vf_upd]
  · simp [updV, vf_upd, hq]
end HK

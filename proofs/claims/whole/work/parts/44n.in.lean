-- new int[n][k]
def hk_mn (h : hk_H) (q N K : Nat) : hk_H := fun a => if a = q then some (.inl (6, N, .inr (.inr (.inr (.inr (fun i => if i < N then some (q + 1 + i) else none)))))) else (if q < a ∧ a ≤ q + N then some (.inl (0, K, .inl (fun _ => 0))) else h a)
section MNA
variable {G : hk_G} {l : Launch} {d : Nat} {y : MethodName} {b : ByteArray} {nL : Nat} {ret : Option FieldType} {hh : List (Nat × Nat × Nat × Nat)} {Q : Option Value → hk_H → Prop} {X : String → hk_H → Prop} {k n : Nat} {h : hk_H} {pc pc' : Nat} {lv : List (Option Value)} {st : List Value}
theorem hk_outer (c : ClassId) (N h0 : Nat) : ∀ i : Nat, Jvm.Free.Multi.outerC c N h0 i = arrV c N (fun j => va_rf (if j < i then some (h0 + 1 + j) else none))
  | 0 => by
    show ({ cls := c, slots := Array.replicate N .null, vm := .none } : Cell) = _
    rw [arrV_new]
    refine congrArg (arrV c N) (funext fun j => ?_)
    simp [va_rf]
  | i + 1 => by
    show (Jvm.Free.Multi.outerC c N h0 i).setSlot i (.ref (h0 + 1 + i)) = _
    rw [hk_outer c N h0 i, arrV_store]
    refine congrArg (arrV c N) (funext fun j => ?_)
    by_cases e : j = i
    · subst e
      simp [updV, va_rf]
    · by_cases h : j < i
      · simp [updV, e, h, Nat.lt_succ_of_lt h]
      · simp [updV, e, h, show ¬ j < i + 1 by omega]
theorem hk_mna {idx N K : Nat} {n0 k0 : Int32} (hd : decode b pc = .ok (.multianewarray idx 2, 4)) (hp : pc + 4 = pc') (L : Cond.classLink y.cls idx ("[" ++ (FieldType.array .int).toString) ∈ hk_all) (hw : Cond.arrayClass .int ∈ hk_all) (hn0 : ¬ n0 < 0) (hk0 : ¬ k0 < 0) (hN : n0.toNatClampNeg = N) (hK : k0.toNatClampNeg = K) (hb1 : N * 4 ≤ 536870912) (hb2 : K * componentBytes .int ≤ 536870912) (hb3 : K ≤ 536870912) (hb : 1 + N ≤ k ∧ N + N * K ≤ n) (kk : ∀ q : Nat, (∀ i, i ≤ N → h (q + i) = none) → hk_W G l d y b nL ret hh Q X (k - (1 + N)) (n - (N + N * K)) (hk_mn h q N K) pc' lv (.ref q :: st)) : hk_W G l d y b nL ret hh Q X k n h pc lv (.int k0 :: .int n0 :: st) := by
  subst hp
  subst hN
  subst hK
  intro p e s m args below meth c H locs cells slots mc ms ls C hk hn hO hL hl
  intro T hT Xs
  have hAO : (Cond.arrayOver (.array .int)).before args s = true := C.F.2.2.2.2.2.2.2.2.2.2.2.2.2.1
  obtain ⟨vm₁, cA, comp, -, fA, fC, hO2, -, X', step⟩ := Xs.multianewarray2F C.exec C.own (C.words _ L) hAO (C.words _ hw) (g := F0 m pc ls (.int k0 :: .int n0 :: st)) rfl (by rw [C.bytes]; exact hd) rfl hn0 hk0 hb1 hb2 hb3 rfl rfl (by show cells + (1 + n0.toNatClampNeg) ≤ mc; omega) (by show slots + (n0.toNatClampNeg + n0.toNatClampNeg * k0.toNatClampNeg) ≤ ms; omega)
  have hcA : cA = hk_dA G 6 := Option.some.inj (fA.symm.trans (C.F.2.1 6 (by decide)).2)
  have hcy : comp = hk_dA G 0 := Option.some.inj (fC.symm.trans (C.F.2.1 0 (by decide)).2)
  subst hcA
  subst hcy
  generalize hF : Jvm.Free.Multi.fill (T.setVm vm₁) (hk_dA G 6) (hk_dA G 0) n0.toNatClampNeg k0.toNatClampNeg (defaultValue .int) n0.toNatClampNeg = F at X' step
  have hTh : (T.setVm vm₁).heap = H := hT
  obtain ⟨f1, f2, -, -⟩ := Jvm.Free.Multi.fill_facts (T.setVm vm₁) (hk_dA G 6) (hk_dA G 0) n0.toNatClampNeg k0.toNatClampNeg (defaultValue .int) n0.toNatClampNeg
  rw [hF, hTh] at f1 f2
  have hold : ∀ x : Nat, x < H.size → F.heap[x]? = H[x]? := fun x hx => by
    have := Jvm.Free.Multi.fill_old (T.setVm vm₁) (hk_dA G 6) (hk_dA G 0) n0.toNatClampNeg k0.toNatClampNeg (defaultValue .int) (a := x) (by rw [hTh]; exact hx) n0.toNatClampNeg
    rw [hF, hTh] at this
    exact this
  have hrow : ∀ j : Nat, j < n0.toNatClampNeg → F.heap[H.size + 1 + j]? = some (Jvm.Free.Multi.innerC (hk_dA G 0) k0.toNatClampNeg (defaultValue .int)) := fun j hj => by
    have := Jvm.Free.Multi.fill_inner (T.setVm vm₁) (hk_dA G 6) (hk_dA G 0) n0.toNatClampNeg k0.toNatClampNeg (defaultValue .int) n0.toNatClampNeg j hj
    rw [hF, hTh] at this
    exact this
  rw [hk_outer] at f2
  have hA : hk_A G H.size := Nat.le_trans C.base hO.2.1
  have hno : ∀ i, h (H.size + i) = none := fun i => by
    cases hz : h (H.size + i) with
    | none => rfl
    | some y => have := hO.1.lt hz; omega
  have hP : hk_P G (hk_mn h H.size n0.toNatClampNeg k0.toNatClampNeg) F.heap := by
    intro a x hx
    unfold hk_mn at hx
    by_cases e1 : a = H.size
    · rw [if_pos e1] at hx
      cases hx
      subst e1
      exact ⟨hA, f2⟩
    · rw [if_neg e1] at hx
      by_cases e2 : H.size < a ∧ a ≤ H.size + n0.toNatClampNeg
      · rw [if_pos e2] at hx
        cases hx
        refine ⟨Nat.le_trans hA (by omega), ?_⟩
        have := hrow (a - (H.size + 1)) (by omega)
        rw [show H.size + 1 + (a - (H.size + 1)) = a by omega] at this
        show F.heap[a]? = some (arrV (hk_dA G 0) k0.toNatClampNeg (fun _ => .int 0))
        rw [this, ← arrV_new]
        rfl
      · rw [if_neg e2] at hx
        obtain ⟨g1, g2⟩ := hO.1 a x hx
        exact ⟨g1, g2.kept (hold a (hO.1.lt hx))⟩
  obtain ⟨t, a1, b1⟩ := kk H.size (fun i _ => hno i) p e s m args below meth c F.heap locs (cells + 1 + n0.toNatClampNeg) (slots + n0.toNatClampNeg + n0.toNatClampNeg * k0.toNatClampNeg) mc ms ls C (by omega) (by omega) ⟨hP, ⟨by rw [f1]; have := hO.2.1; omega, fun x h1 h2 => (hold x (Nat.lt_of_lt_of_le h1 hO.2.1)).trans (hO.2.2.1 x h1 h2), hO.2.2.2⟩⟩ hL hl F rfl X'
  refine ⟨t, step t ?_, b1⟩
  have e : T.heap.size = H.size := by rw [hT]
  rw [e]
  exact a1
end MNA

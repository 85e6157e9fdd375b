-- THE START: what the Statement gives, as the layer has it
section WS
variable {args : Array Value} {s : State}
theorem ws_all {first : State} {o : Option Outcome} {idx : List Nat} {t : Term} {c : Cond} {a : Addr} {cell : Cell} (ht : t.eval args first o idx s = some (.ref a)) (hc : s.arrayAt? a = some cell) (h : (Cond.all t c).value args first o s idx = some true) : ∀ i, i < cell.slots.size → c.value args first o s (i :: idx) = some true := by
  simp only [Cond.value, ht, hc] at h
  have key : ∀ (l : List Nat) (acc : Option Bool), l.foldl (fun acc i => match acc with | some true => c.value args first o s (i :: idx) | x => x) acc = some true → acc = some true ∧ ∀ i ∈ l, c.value args first o s (i :: idx) = some true := by
    intro l
    induction l with
    | nil => intro acc h; exact ⟨h, fun _ hi => by cases hi⟩
    | cons x r ih =>
      intro acc h
      rw [List.foldl_cons] at h
      obtain ⟨h1, h2⟩ := ih _ h
      cases acc with
      | none => simp at h1
      | some b =>
        cases b with
        | false => simp at h1
        | true => exact ⟨rfl, fun i hi => by rcases List.mem_cons.mp hi with rfl | hi; exact h1; exact h2 i hi⟩
  exact fun i hi => (key _ _ h).2 i (List.mem_range.mpr hi)
theorem ws_cls {C : String} {n : Nat} (h : (Cond.instantiable C n).before args s = true) : ∃ c, s.vm.findClass C = some c := by
  obtain ⟨cC, kC, hfc, -⟩ := Cond.instantiable_spec h
  exact ⟨cC, hfc⟩
theorem ws_str {C tx : String} {k n : Nat} (hi : (Cond.instantiable C n).before args s = true) (h : (Cond.stringRef C k tx).before args s = true) : ∃ a, vk_R C k tx a s ∧ (Term.string C k).eval args s none [] s = some (.ref a) := by
  obtain ⟨c, hc⟩ := ws_cls hi
  obtain ⟨k1, cf, i, a, -, -, -, -, -, h6⟩ := Cond.stringRef_spec (args := args) (first := s) (o := none) (idx := []) hc h
  exact ⟨a, vk_R.of h h6, h6⟩
theorem ws_arr {ty : FieldType} (h : (Cond.arrayClass ty).before args s = true) : ∃ cA, ArrOfT s cA ty ∧ s.vm.findClass ("[" ++ ty.toString) = some cA := by
  obtain ⟨cA, kA, comp, h1, h2, h3⟩ := Cond.arrayClass_spec (args := args) (first := s) (o := none) (idx := []) h
  exact ⟨cA, fun n z => ⟨fun k h => (by cases h), kA, h2, comp, h3⟩, h1⟩
theorem ws_ref {t : Term} {ty : FieldType} (h : (Cond.arrayOf t ty).before args s = true) (hl : ∃ z : Int32, (Term.length t).eval args s none [] s = some (.int z)) : ∃ a cell, t.eval args s none [] s = some (.ref a) ∧ s.arrayAt? a = some cell := by
  obtain ⟨z, hl⟩ := hl
  obtain ⟨t9, cell, ht, hat, -⟩ := Term.length_spec hl
  exact ⟨t9, cell, ht, hat⟩
theorem ws_sz {tm : Term} {t : Addr} {cell : Cell} {z : Value} (ht : tm.eval args s none [] s = some (.ref t)) (hat : s.arrayAt? t = some cell) (hl : (Term.length tm).eval args s none [] s = some z) : cell.slots.size < 2 ^ 31 := by
  simp only [Term.eval, ht] at hl
  by_cases q : cell.slots.size < 2 ^ 31
  · exact q
  · have q2 : ¬ cell.slots.size < 2147483648 := q
    have hl2 : (if cell.slots.size < 2 ^ 31 then some (Value.int cell.slots.size.toInt32) else none) = some z := by
      rw [← hl]
      show _ = (do let __do_lift ← s.arrayAt? t; if __do_lift.slots.size < 2 ^ 31 then Pure.pure (Value.int __do_lift.slots.size.toInt32) else none)
      rw [hat]
      rfl
    rw [if_neg q] at hl2
    cases hl2
-- a table of boxes
theorem ws_box {C n d0 K d : String} {N : Nat} {F : Term} {val : Nat → Int32} {A : Nat → Prop} (hN : N < 2 ^ 31) (harr : (Cond.arrayOf (.static C n d0) (.object K)).before args s = true) (hlen : (Cond.eq (.length (.static C n d0)) (.int (Int32.ofNat N))).before args s = true)
    (hall : (Cond.all (.static C n d0) (.and (.exactly (.elem (.static C n d0) (.index 0)) K) (.eq (.field (.elem (.static C n d0) (.index 0)) K "value" d) F))).before args s = true) (hF : ∀ j, j < N → F.eval args s none [j] s = some (.int (val j))) (hA : ∀ a : Nat, a < s.heap.size → ¬ A a) :
    ∃ (t : Nat) (ad : Nat → Nat), (Term.static C n d0).eval args s none [] s = some (.ref t) ∧ va_T (.object K) t N (fun i => .ref (ad i)) A s s.heap ∧ ∀ i, i < N → va_O K (ad i) A s s.heap ∧ va_OF K "value" d (.int (val i)) (ad i) A s s.heap := by
  have hl := va_eqt hlen
  obtain ⟨t, cell, ht, hat, hz⟩ := Term.length_spec hl
  have hsz : cell.slots.size = N := by
    have e1 := Value.int.inj hz
    have hlt : cell.slots.size < 2 ^ 31 := ws_sz ht hat hl
    exact ((nI_eq hN hlt).mp e1).symm
  have hev := ws_all ht hat (by simpa [Cond.before, Cond.holds] using hall)
  have hidx : ∀ j, j < N → ∃ b, (Term.elem (.static C n d0) (.int (Int32.ofNat j))).eval args s none [] s = some (.ref b) ∧ va_O K b A s s.heap ∧ va_OF K "value" d (.int (val j)) b A s s.heap := by
    intro j hj
    have h1 := hev j (by rw [hsz]; exact hj)
    have ei : (Term.index 0).eval args s none [j] s = some (.int (Int32.ofNat j)) := rfl
    have es : (Term.static C n d0).eval args s none [j] s = (Term.static C n d0).eval args s none [] s := rfl
    have ee : (Term.elem (.static C n d0) (.index 0)).eval args s none [j] s = (Term.elem (.static C n d0) (.int (Int32.ofNat j))).eval args s none [] s := rfl
    have h2 : (Cond.exactly (.elem (.static C n d0) (.index 0)) K).value args s none s [j] = some true ∧ (Cond.eq (.field (.elem (.static C n d0) (.index 0)) K "value" d) F).value args s none s [j] = some true := by
      simp only [Cond.value] at h1 ⊢
      split at h1 <;> simp_all
    have h3 : (Cond.exactly (.elem (.static C n d0) (.int (Int32.ofNat j))) K).before args s = true := by
      have e : (Cond.exactly (.elem (.static C n d0) (.int (Int32.ofNat j))) K).value args s none s [] = (Cond.exactly (.elem (.static C n d0) (.index 0)) K).value args s none s [j] := rfl
      unfold Cond.before Cond.holds
      rw [e, h2.1]
      rfl
    obtain ⟨b, c, cB, kB, q1, -⟩ := Cond.exactly_spec (args := args) (first := s) (o := none) (s := s) (idx := []) h3
    refine ⟨b, q1, va_Oof h3 q1 hA, ?_⟩
    have h4 : (Cond.eq (.field (.elem (.static C n d0) (.int (Int32.ofNat j))) K "value" d) (.int (val j))).before args s = true := by
      have e1 : (Term.field (.elem (.static C n d0) (.index 0)) K "value" d).eval args s none [j] s = (Term.field (.elem (.static C n d0) (.int (Int32.ofNat j))) K "value" d).eval args s none [] s := rfl
      have h5 := h2.2
      unfold Cond.before Cond.holds
      simp only [Cond.value, e1, hF j hj] at h5
      simp only [Cond.value, show (Term.int (val j)).eval args s none [] s = some (.int (val j)) from rfl]
      rw [h5]
      rfl
    exact vk_OFof q1 (va_eqt h4) hA
  obtain ⟨ad, had⟩ : ∃ ad : Nat → Nat, ∀ j, j < N → (Term.elem (.static C n d0) (.int (Int32.ofNat j))).eval args s none [] s = some (.ref (ad j)) ∧ va_O K (ad j) A s s.heap ∧ va_OF K "value" d (.int (val j)) (ad j) A s s.heap :=
    ⟨fun j => if h : j < N then (hidx j h).choose else 0, fun j hj => by simp only [dif_pos hj]; exact (hidx j hj).choose_spec⟩
  obtain ⟨t2, q1, q2⟩ := va_Tof (f := fun i => .ref (ad i)) (A := A) hN harr hl (fun j hj => (had j hj).1) hA
  exact ⟨t2, ad, q1, q2, fun i hi => (had i hi).2⟩
end WS

def al_w (p : Nat → Bool) (wt : Nat → Nat) (n w : Nat) : List Nat := (List.range n).filter (fun j => p j && wt j == w)
def al (p : Nat → Bool) (wt : Nat → Nat) (n : Nat) : Nat → List Nat
  | 0 => []
  | W + 1 => al p wt n W ++ al_w p wt n (W + 1)
theorem al_w_s (p : Nat → Bool) (wt : Nat → Nat) (n w : Nat) : al_w p wt (n + 1) w = al_w p wt n w ++ (if (p n && wt n == w) = true then [n] else []) := by
  unfold al_w
  rw [List.range_succ, List.filter_append]
  congr 1
  by_cases h : (p n && wt n == w) = true
  · rw [if_pos h]; simp [List.filter, h]
  · rw [if_neg h]; simp [List.filter, h]
theorem al_w_mem {p : Nat → Bool} {wt : Nat → Nat} {n w x : Nat} : x ∈ al_w p wt n w ↔ x < n ∧ p x = true ∧ wt x = w := by
  unfold al_w
  simp
theorem al_mem {p : Nat → Bool} {wt : Nat → Nat} {n x : Nat} : ∀ {W : Nat}, x ∈ al p wt n W ↔ x < n ∧ p x = true ∧ 1 ≤ wt x ∧ wt x ≤ W
  | 0 => by simp [al]; omega
  | W + 1 => by
    unfold al
    rw [List.mem_append, al_mem (W := W), al_w_mem]
    constructor
    · rintro (⟨h1, h2, h3, h4⟩ | ⟨h1, h2, h3⟩)
      · exact ⟨h1, h2, h3, by omega⟩
      · exact ⟨h1, h2, by omega, by omega⟩
    · rintro ⟨h1, h2, h3, h4⟩
      by_cases e : wt x = W + 1
      · exact Or.inr ⟨h1, h2, e⟩
      · exact Or.inl ⟨h1, h2, h3, by omega⟩
theorem al_nodup {p : Nat → Bool} {wt : Nat → Nat} {n : Nat} : ∀ {W : Nat}, (al p wt n W).Nodup
  | 0 => List.nodup_nil
  | W + 1 => by
    unfold al
    refine List.nodup_append.mpr ⟨al_nodup, (List.filter_sublist).nodup List.nodup_range, fun x hx y hy e => ?_⟩
    subst e
    have h1 := al_mem.mp hx
    have h2 := al_w_mem.mp hy
    omega
def al_cnt (p : Nat → Bool) : Nat → Nat
  | 0 => 0
  | n + 1 => if p n = true then al_cnt p n + 1 else al_cnt p n
theorem al_len0 (p : Nat → Bool) (wt : Nat → Nat) : ∀ W, (al p wt 0 W) = []
  | 0 => rfl
  | W + 1 => by unfold al; rw [al_len0 p wt W]; rfl
theorem al_len_s (p : Nat → Bool) (wt : Nat → Nat) (n : Nat) : ∀ W, (al p wt (n + 1) W).length = (al p wt n W).length + (if p n = true ∧ 1 ≤ wt n ∧ wt n ≤ W then 1 else 0)
  | 0 => by
    have : ¬ (p n = true ∧ 1 ≤ wt n ∧ wt n ≤ 0) := by omega
    rw [if_neg this]; rfl
  | W + 1 => by
    unfold al
    rw [List.length_append, List.length_append, al_len_s p wt n W, al_w_s, List.length_append]
    by_cases hp : p n = true
    · by_cases e : wt n = W + 1
      · rw [if_neg (by omega), if_pos (by simp [hp, e]), if_pos ⟨hp, by omega, by omega⟩]
        simp; omega
      · rw [if_neg (c := (p n && wt n == W + 1) = true) (by simp [hp, e])]
        by_cases q : 1 ≤ wt n ∧ wt n ≤ W
        · rw [if_pos ⟨hp, q⟩, if_pos ⟨hp, by omega, by omega⟩]
          simp; omega
        · rw [if_neg (by omega), if_neg (by omega)]
          simp
    · rw [if_neg (fun q => hp q.1), if_neg (by simp [hp]), if_neg (fun q => hp q.1)]
      simp
theorem al_len {p : Nat → Bool} {wt : Nat → Nat} {W : Nat} : ∀ {n : Nat}, (∀ j, j < n → p j = true → 1 ≤ wt j ∧ wt j ≤ W) → (al p wt n W).length = al_cnt p n
  | 0, _ => by rw [al_len0]; rfl
  | n + 1, h => by
    rw [al_len_s, al_len (fun j hj => h j (by omega)), show al_cnt p (n + 1) = if p n = true then al_cnt p n + 1 else al_cnt p n from rfl]
    by_cases hp : p n = true
    · rw [if_pos ⟨hp, h n (by omega) hp⟩, if_pos hp]
    · rw [if_neg (fun q => hp q.1), if_neg hp]; rfl
def al_min (p : Nat → Bool) (wt : Nat → Nat) : Nat → Option Nat
  | 0 => none
  | n + 1 => if p n = true then (match al_min p wt n with
    | none => some n
    | some b => if wt b ≤ wt n then some b else some n) else al_min p wt n
theorem al_min_none {p : Nat → Bool} {wt : Nat → Nat} : ∀ {n : Nat}, al_min p wt n = none → ∀ j, j < n → p j = false
  | 0, _ => fun j hj => absurd hj (by omega)
  | n + 1, h => by
    unfold al_min at h
    split at h
    · split at h
      · cases h
      · split at h <;> cases h
    · rename_i hp
      intro j hj
      by_cases e : j = n
      · rw [e]; simpa using hp
      · exact al_min_none h j (by omega)
theorem al_min_some {p : Nat → Bool} {wt : Nat → Nat} : ∀ {n b : Nat}, al_min p wt n = some b → b < n ∧ p b = true ∧ ∀ j, j < n → p j = true → wt b ≤ wt j ∧ (j < b → wt b < wt j)
  | 0, b, h => by cases h
  | n + 1, b, h => by
    unfold al_min at h
    split at h
    · rename_i hp
      split at h
      · rename_i hq
        cases h
        refine ⟨by omega, hp, fun j hj hpj => ?_⟩
        by_cases e : j = n
        · subst e; exact ⟨Nat.le_refl _, fun q => absurd q (by omega)⟩
        · rw [al_min_none hq j (by omega)] at hpj; cases hpj
      · rename_i b' hq
        obtain ⟨h1, h2, h3⟩ := al_min_some hq
        split at h
        · rename_i hle
          cases h
          refine ⟨by omega, h2, fun j hj hpj => ?_⟩
          by_cases e : j = n
          · subst e; exact ⟨hle, fun q => absurd q (by omega)⟩
          · exact h3 j (by omega) hpj
        · rename_i hle
          cases h
          refine ⟨by omega, hp, fun j hj hpj => ?_⟩
          by_cases e : j = n
          · subst e; exact ⟨Nat.le_refl _, fun q => absurd q (by omega)⟩
          · have := h3 j (by omega) hpj
            exact ⟨by omega, fun _ => by omega⟩
    · rename_i hp
      obtain ⟨h1, h2, h3⟩ := al_min_some h
      refine ⟨by omega, h2, fun j hj hpj => ?_⟩
      by_cases e : j = n
      · subst e; exact absurd hpj hp
      · exact h3 j (by omega) hpj
theorem al_filter_head {q : Nat → Bool} : ∀ {n b : Nat}, b < n → q b = true → (∀ j, j < b → q j = false) → ∃ tl, (List.range n).filter q = b :: tl
  | 0, b, h, _, _ => absurd h (by omega)
  | n + 1, b, h, hb, hj => by
    rw [List.range_succ, List.filter_append]
    by_cases e : b = n
    · subst e
      have : (List.range b).filter q = [] := by
        rw [List.filter_eq_nil_iff]
        intro x hx
        rw [hj x (List.mem_range.mp hx)]
        simp
      rw [this]
      exact ⟨[], by simp [List.filter, hb]⟩
    · obtain ⟨tl, ht⟩ := al_filter_head (n := n) (by omega) hb hj
      rw [ht]
      exact ⟨_, rfl⟩
theorem al_head {p : Nat → Bool} {wt : Nat → Nat} {n b : Nat} (h : al_min p wt n = some b) : ∀ W, wt b ≤ W → 1 ≤ wt b → ∃ tl, al p wt n W = b :: tl := by
  obtain ⟨h1, h2, h3⟩ := al_min_some h
  intro W hW h0
  obtain ⟨i, rfl⟩ : ∃ i, W = wt b + i := ⟨W - wt b, by omega⟩
  clear hW
  induction i with
  | zero =>
    obtain ⟨x, hx⟩ : ∃ x, wt b = x + 1 := ⟨wt b - 1, by omega⟩
    rw [Nat.add_zero, hx]
    unfold al
    have e : al p wt n x = [] := by
      rw [List.eq_nil_iff_forall_not_mem]
      intro y hy
      obtain ⟨q1, q2, q3, q4⟩ := al_mem.mp hy
      have := (h3 y q1 q2).1
      omega
    rw [e]
    obtain ⟨tl, ht⟩ := al_filter_head (q := fun j => p j && wt j == x + 1) h1 (by simp [h2, hx]) (fun j hj => by
      by_cases hp : p j = true
      · have := (h3 j (by omega) hp).2 hj
        have e2 : ¬ wt j = x + 1 := by omega
        simp [e2]
      · simp [hp])
    exact ⟨tl, by unfold al_w; rw [ht]; rfl⟩
  | succ i ih =>
    obtain ⟨tl, ht⟩ := ih
    rw [show wt b + (i + 1) = (wt b + i) + 1 from rfl]
    unfold al
    rw [ht]
    exact ⟨_, rfl⟩
theorem al_rem {p p' : Nat → Bool} {wt : Nat → Nat} {n b : Nat} (h : ∀ j, p' j = (p j && !(j == b))) : ∀ W, al p' wt n W = (al p wt n W).filter (fun j => !(j == b))
  | 0 => rfl
  | W + 1 => by
    unfold al
    rw [List.filter_append, ← al_rem h W]
    congr 1
    unfold al_w
    rw [List.filter_filter]
    congr 1
    funext j
    rw [h j]
    cases p j <;> cases (j == b) <;> cases (wt j == W + 1) <;> rfl
theorem al_tail {p p' : Nat → Bool} {wt : Nat → Nat} {n b W : Nat} {tl : List Nat} (h : ∀ j, p' j = (p j && !(j == b))) (ht : al p wt n W = b :: tl) : al p' wt n W = tl := by
  rw [al_rem h, ht]
  have hn : (b :: tl).Nodup := by rw [← ht]; exact al_nodup
  obtain ⟨h1, h2⟩ := List.nodup_cons.mp hn
  rw [List.filter_cons_of_neg (by simp), List.filter_eq_self.mpr]
  intro x hx
  have : x ≠ b := fun e => h1 (e ▸ hx)
  simp [this]
theorem hf_take (K : Nat) (X Y : List Nat) : (X.take K ++ Y).take K = (X ++ Y).take K := by
  rw [List.take_append, List.take_append, List.take_take, List.length_take]
  congr 1
  · rw [Nat.min_self]
  · congr 1
    omega
def hs_wN (S : hs_S) (j : Nat) : Nat := vN (S.1 14 j)
def hs_so (S : hs_S) (a m n : Nat) : List Nat := al (cs_isL S a m) (hs_wN S) n 9
-- weights of loose coins
def hs_W9 (S : hs_S) (a m n : Nat) : Prop := ∀ j, j < n → cs_isL S a m j = true → ∃ x : Nat, 1 ≤ x ∧ x ≤ 9 ∧ S.1 14 j = nI x
theorem hf_st_eq {S : hs_S} {a m K w j : Nat} {L : List Nat} (hw : w ≤ 9) (h9 : cs_isL S a m j = true → ∃ x : Nat, 1 ≤ x ∧ x ≤ 9 ∧ S.1 14 j = nI x) : hf_st S a m K w j L = if (cs_isL S a m j && hs_wN S j == w) = true then (if K ≤ L.length then L else L ++ [j]) else L := by
  unfold hf_st
  unfold cs_isL at h9 ⊢
  by_cases h1 : S.1 15 j = nI a
  · by_cases h2 : S.1 13 j = nI m
    · by_cases h3 : S.1 17 j = 0
      · rw [if_pos h1, if_pos h2, if_pos h3] at h9 ⊢
        obtain ⟨x, hx1, hx2, hx⟩ := h9 rfl
        rw [if_pos h1, if_pos h2, if_pos h3]
        have e : hs_wN S j = x := by unfold hs_wN; rw [hx]; exact vN_nI (by omega)
        by_cases h4 : S.1 14 j = nI w
        · have : x = w := (nI_eq (by omega) (by omega)).mp (hx.symm.trans h4)
          rw [if_pos h4, if_pos (c := (true && hs_wN S j == w) = true) (by simp [e, this])]
        · have : ¬ x = w := fun q => h4 (by rw [hx, q])
          rw [if_neg h4, if_neg (c := (true && hs_wN S j == w) = true) (by simp [e, this])]
      · rw [if_pos h1, if_pos h2, if_neg h3, if_pos h1, if_pos h2, if_neg h3]; rfl
    · rw [if_pos h1, if_neg h2, if_pos h1, if_neg h2]; rfl
  · rw [if_neg h1, if_neg h1]; rfl
theorem hf_in_eq {S : hs_S} {a m K w nc : Nat} {L : List Nat} (hw : w ≤ 9) (h9 : hs_W9 S a m nc) (hL : L.length ≤ K) : ∀ n, n ≤ nc → hf_in S a m K w L n = (L ++ al_w (cs_isL S a m) (hs_wN S) n w).take K
  | 0, _ => by
    show L = _
    rw [show al_w (cs_isL S a m) (hs_wN S) 0 w = [] from rfl, List.append_nil, List.take_of_length_le hL]
  | n + 1, hn => by
    rw [hf_in_s, hf_st_eq hw (h9 n (by omega)), hf_in_eq hw h9 hL n (by omega), al_w_s]
    by_cases h : (cs_isL S a m n && hs_wN S n == w) = true
    · rw [if_pos h, if_pos h, ← List.append_assoc]
      generalize L ++ al_w (cs_isL S a m) (hs_wN S) n w = Y
      rw [List.length_take]
      by_cases q : K ≤ Y.length
      · rw [if_pos (by omega), List.take_append_of_le_length q]
      · rw [if_neg (by omega), List.take_of_length_le (by omega : Y.length ≤ K), List.take_of_length_le]
        simp
        omega
    · rw [if_neg h, if_neg h, List.append_nil]
theorem hf_ou_eq {S : hs_S} {a m K nc : Nat} (h9 : hs_W9 S a m nc) : ∀ W, W ≤ 9 → hf_ou S a m K nc W = (al (cs_isL S a m) (hs_wN S) nc W).take K
  | 0, _ => by
    show [] = List.take K []
    rw [List.take_nil]
  | W + 1, hW => by
    rw [hf_ou_s, hf_in_eq hW h9 (hf_ou_le W) nc (Nat.le_refl _), hf_ou_eq h9 W (by omega), hf_take]
    rfl
theorem cs_loose_cnt {S : hs_S} {a m : Nat} : ∀ n, cs_loose S a m n = al_cnt (cs_isL S a m) n
  | 0 => rfl
  | n + 1 => by
    rw [cs_loose_s, cs_loose_cnt n]
    rfl
theorem hs_W9_w {S : hs_S} {a m n : Nat} (h9 : hs_W9 S a m n) : ∀ j, j < n → cs_isL S a m j = true → 1 ≤ hs_wN S j ∧ hs_wN S j ≤ 9 := fun j hj hp => by
  obtain ⟨x, h1, h2, h3⟩ := h9 j hj hp
  unfold hs_wN
  rw [h3, vN_nI (by omega)]
  exact ⟨h1, h2⟩
theorem hs_so_len {S : hs_S} {a m n : Nat} (h9 : hs_W9 S a m n) : (hs_so S a m n).length = cs_loose S a m n := by
  unfold hs_so
  rw [al_len (hs_W9_w h9), cs_loose_cnt]
theorem hf_ou_len {S : hs_S} {a m K nc : Nat} (h9 : hs_W9 S a m nc) : (hf_ou S a m K nc 9).length = min K (cs_loose S a m nc) := by
  rw [hf_ou_eq h9 9 (Nat.le_refl _), List.length_take, ← hs_so_len h9]
  rfl
theorem cs_light_min {S : hs_S} {a m : Nat} : ∀ {n : Nat}, hs_W9 S a m n → cs_light S a m n = al_min (cs_isL S a m) (hs_wN S) n
  | 0, _ => rfl
  | n + 1, h9 => by
    have ih := cs_light_min (n := n) (fun j hj => h9 j (by omega))
    rw [cs_light_s, show al_min (cs_isL S a m) (hs_wN S) (n + 1) = if cs_isL S a m n = true then (match al_min (cs_isL S a m) (hs_wN S) n with
      | none => some n
      | some b => if hs_wN S b ≤ hs_wN S n then some b else some n) else al_min (cs_isL S a m) (hs_wN S) n from rfl]
    unfold cs_lts
    by_cases hp : cs_isL S a m n = true
    · rw [if_pos hp, if_pos hp, ih]
      cases hq : al_min (cs_isL S a m) (hs_wN S) n with
      | none => rfl
      | some b =>
        obtain ⟨h1, h2, h3⟩ := al_min_some hq
        obtain ⟨x, q1, q2, q3⟩ := h9 n (by omega) hp
        obtain ⟨y, p1, p2, p3⟩ := h9 b (by omega) h2
        show (if S.1 14 b ≤ S.1 14 n then some b else some n) = (if hs_wN S b ≤ hs_wN S n then some b else some n)
        unfold hs_wN
        rw [q3, p3, vN_nI (by omega), vN_nI (by omega)]
        by_cases e : y ≤ x
        · rw [if_pos e, if_pos (nI_le e (by omega))]
        · rw [if_neg e, if_neg (nI_ge (by omega) (by omega))]
    · rw [if_neg hp, if_neg hp, ih]
theorem hs_so_some {S : hs_S} {a m n b : Nat} {tl : List Nat} (h9 : hs_W9 S a m n) (h : hs_so S a m n = b :: tl) : cs_light S a m n = some b := by
  rw [cs_light_min h9]
  cases hq : al_min (cs_isL S a m) (hs_wN S) n with
  | none =>
    have hb : b ∈ hs_so S a m n := by rw [h]; exact List.mem_cons_self
    have := al_mem.mp hb
    rw [al_min_none hq b this.1] at this
    exact absurd this.2.1 (by decide)
  | some b' =>
    obtain ⟨h1, h2, h3⟩ := al_min_some hq
    obtain ⟨tl', ht⟩ := al_head hq 9 (hs_W9_w h9 b' h1 h2).2 (hs_W9_w h9 b' h1 h2).1
    unfold hs_so at h
    rw [h] at ht
    cases ht
    rfl
theorem cs_isL_give {S : hs_S} {a t m b : Nat} (hta : ¬ t = a) (ha : a < 6) (ht : t < 6) (hb : cs_isL S a m b = true) : ∀ j, cs_isL (cs_give S b (nI t)) a m j = (cs_isL S a m j && !(j == b)) := fun j => by
  unfold cs_isL
  by_cases e : j = b
  · subst e
    rw [show (cs_give S j (nI t)).1 15 j = nI t from if_pos rfl, if_neg (fun q => hta ((nI_eq (by omega) (by omega)).mp q))]
    simp
  · rw [show (cs_give S b (nI t)).1 15 j = S.1 15 j from if_neg e, show (cs_give S b (nI t)).1 13 j = S.1 13 j from rfl, show (cs_give S b (nI t)).1 17 j = S.1 17 j from if_neg e]
    simp [e]
theorem hs_so_give {S : hs_S} {a t m n b : Nat} {tl : List Nat} (hta : ¬ t = a) (ha : a < 6) (ht : t < 6) (h : hs_so S a m n = b :: tl) : hs_so (cs_give S b (nI t)) a m n = tl := by
  have hb : b ∈ hs_so S a m n := by rw [h]; exact List.mem_cons_self
  have hw : hs_wN (cs_give S b (nI t)) = hs_wN S := rfl
  unfold hs_so at h ⊢
  rw [hw]
  exact al_tail (cs_isL_give hta ha ht (al_mem.mp hb).2.1) h
theorem hs_W9_give {S : hs_S} {a t m n b : Nat} (hta : ¬ t = a) (ha : a < 6) (ht : t < 6) (hb : cs_isL S a m b = true) (h9 : hs_W9 S a m n) : hs_W9 (cs_give S b (nI t)) a m n := fun j hj hp => by
  rw [cs_isL_give hta ha ht hb, Bool.and_eq_true] at hp
  exact h9 j hj hp.1
theorem cs_gl_sl {S : hs_S} {a t m n : Nat} (hta : ¬ t = a) (ha : a < 6) (ht : t < 6) (h9 : hs_W9 S a m n) : ∀ i, i ≤ (hs_so S a m n).length → hs_gv (nI t) (hs_so S a m n) S i = cs_gl a t m n S i ∧ hs_so (cs_gl a t m n S i).1 a m n = (hs_so S a m n).drop i ∧ hs_W9 (cs_gl a t m n S i).1 a m n
  | 0, _ => ⟨rfl, rfl, h9⟩
  | i + 1, hi => by
    obtain ⟨h1, h2, h3⟩ := cs_gl_sl hta ha ht h9 i (by omega)
    have hd : (hs_so S a m n).drop i = (hs_so S a m n).getD i 0 :: (hs_so S a m n).drop (i + 1) := by
      rw [List.drop_eq_getElem_cons (by omega), List.getD_eq_getElem?_getD, List.getElem?_eq_getElem (by omega)]
      rfl
    rw [hd] at h2
    have hl := hs_so_some h3 h2
    have hb : (hs_so S a m n).getD i 0 ∈ hs_so (cs_gl a t m n S i).1 a m n := by rw [h2]; exact List.mem_cons_self
    have hp := (al_mem.mp hb).2.1
    have e : cs_gls a t m n (cs_gl a t m n S i) = (cs_give (cs_gl a t m n S i).1 ((hs_so S a m n).getD i 0) (nI t), (cs_gl a t m n S i).2 + (cs_gl a t m n S i).1.1 14 ((hs_so S a m n).getD i 0)) := by
      unfold cs_gls
      rw [hl]
    rw [hs_gv_s, cs_gl_s, h1, e]
    exact ⟨rfl, hs_so_give hta ha ht h2, hs_W9_give hta ha ht hp h3⟩
theorem hs_gv_take {S : hs_S} {t : Int32} {L : List Nat} {K : Nat} : ∀ i, i ≤ K → i ≤ L.length → hs_gv t (L.take K) S i = hs_gv t L S i
  | 0, _, _ => rfl
  | i + 1, h1, h2 => by
    rw [hs_gv_s, hs_gv_s, hs_gv_take i (by omega) (by omega)]
    unfold hs_gvs
    rw [show (L.take K).getD i 0 = L.getD i 0 from by
      rw [List.getD_eq_getElem?_getD, List.getD_eq_getElem?_getD, List.getElem?_take_of_lt (by omega)]]
-- what the reference gives is what the class gives
theorem hf_gives {S : hs_S} {a t m nc K : Nat} (hta : ¬ t = a) (ha : a < 6) (ht : t < 6) (h9 : hs_W9 S a m nc) (hK : K ≤ cs_loose S a m nc) : (hf_ou S a m K nc 9).length = K ∧ hs_gv (nI t) (hf_ou S a m K nc 9) S K = cs_gl a t m nc S K := by
  have hl := hf_ou_len (K := K) h9
  rw [Nat.min_eq_left hK] at hl
  refine ⟨hl, ?_⟩
  rw [hf_ou_eq h9 9 (Nat.le_refl _), hs_gv_take K (Nat.le_refl _) (by show K ≤ (hs_so S a m nc).length; rw [hs_so_len h9]; exact hK)]
  exact (cs_gl_sl hta ha ht h9 K (by rw [hs_so_len h9]; exact hK)).1
theorem mi_W9 {S : hs_S} {c nc a m : Nat} (h : mi_C S c nc) (ha : a < 6) : hs_W9 S a m nc := fun j hj hp => by
  obtain ⟨m2, x, h1, h2, h3, h4, h5⟩ := h j hj
  rcases h5 with ⟨h5, h6⟩ | ⟨h5, _⟩
  · unfold cs_isL at hp
    rw [h6, if_neg (fun q => cx_ne1 (by omega) q.symm)] at hp
    cases hp
  · exact ⟨x, h5, h2, h4⟩

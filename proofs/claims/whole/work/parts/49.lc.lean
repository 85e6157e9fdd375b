-- THE LAW'S BODY: what is asked at its loop's head, and its answer
def hl_lv (G : hk_G) (x m o od t : Nat) : List (Option Value) := [some (.ref (hk_K G 1100)), some (.ref x), some (.ref m), some (.ref o), some (.ref od), some (.int (nI (5 * t))), none, none, none]
def hl_Qe : Option Value → hk_H → Prop := fun r _ => r = some (.int (nI 1))
def hl_W (G : hk_G) (l : Launch) (k n : Nat) (h : hk_H) (pc : Nat) (lv : List (Option Value)) (st : List Value) : Prop := hk_W G l 12 yL_law cL_law 9 (some .boolean) [] hl_Qe hk_no k n h pc lv st
-- what goes on behind a call
def hl_KK (G : hk_G) (l : Launch) (x m o od t k n : Nat) : Prop := ∀ (S : hs_S) (c nc nb : Nat) (h : hk_H), hJ S c nc nb (t + 1) → hl_I G x m o od S c nc nb h → hk_W G l 12 yL_law cL_law 9 (some .boolean) [] hl_Qe hk_no k n h 2285 (hl_lv G x m o od t) []
theorem hl_go {G : hk_G} {l : Launch} {x m o od t k n k1 n1 c nc nb : Nat} {S : hs_S} {h : hk_H} {lv : List (Option Value)} (KK : hl_KK G l x m o od t k n) (h1 : k ≤ k1) (h2 : n ≤ n1) (hj : hJ S c nc nb (t + 1)) (hi : hl_I G x m o od S c nc nb h) (hle : hk_le (hl_lv G x m o od t) lv) : hk_W G l 12 yL_law cL_law 9 (some .boolean) [] hl_Qe hk_no k1 n1 h 2285 lv [] := hk_bud h1 h2 (hk_loc hle (KK S c nc nb h hj hi))
theorem hl_lvle {G : hk_G} {x m o od t : Nat} (a b c : Option Value) : hk_le (hl_lv G x m o od t) [some (.ref (hk_K G 1100)), some (.ref x), some (.ref m), some (.ref o), some (.ref od), some (.int (nI (5 * t))), a, b, c] := by
  unfold hl_lv
  simp [hk_le]
theorem hl_topd {G : hk_G} {l : Launch} {d : Nat} {y : MethodName} {b : ByteArray} {nL : Nat} {ret : Option FieldType} {hh : List (Nat × Nat × Nat × Nat)} {Q : Option Value → hk_H → Prop} {X : String → hk_H → Prop} {k n : Nat} {h : hk_H} {pc : Nat} {lv : List (Option Value)} {st : List Value} {v v' : UInt64} (e : v = v') (kk : hk_W G l d y b nL ret hh Q X k n h pc lv (.double v' :: st)) : hk_W G l d y b nL ret hh Q X k n h pc lv (.double v :: st) := by subst e; exact kk

section TMP
variable {G : hk_G} {l : Launch} {S : hs_S} {c nc nb m : Nat} {thr : Int32} {g h : hk_H}
theorem cm_nextDay (hfl : l.stackTraces = false) (hw : hm_Wd G m S c nc nb thr g h) (h24 : ∀ j, j < nb → S.1 24 j = -1 ∨ ∃ a, a < c ∧ S.1 24 j = nI a) (hli : ∀ j, j < nb → ∃ e, e ≤ 5 ∧ S.1 26 j = nI e ∧ ∀ q, q < 2 + e → ∃ a, a < c ∧ cs_liab S j e q = nI a) (hov : ∀ j, j < nb → S.1 24 j = -1 → ¬ S.1 23 j = S.1 33 0 + nI 1) : hk_Ctr G l 9 yX9_nextDay cX9_nextDay 6 (some .int) 60 500 [.ref m] h (hk_qi fun rv h1 => ml_Q G m 0 S c nc nb ((cs_nd S nb).1) (c) (nc) (nb) g (rv = nI (cs_nd S nb).2) h1) hk_no := by
  sorry
theorem cm_throwOver {v0 v1 v2 : Int32} (hfl : l.stackTraces = false) (hw : hm_Wd G m S c nc nb thr g h) (hV : jV S c 512) : hk_Ctr G l 9 yX9_throwOver cX9_throwOver 12 (some .int) 2 12 [.ref m, .int v0, .int v1, .int v2] h (hk_qi fun rv h1 => ml_Q G m (ml_tr [1, 2, 3, 4] (cd_throwOver S c v0 v1 v2)) S c nc nb (hs_tho S v0 v1 v2) (c) (nc) (nb) g (rv = hs_thr S v0 v1 v2) h1) hk_no := by
  sorry
end TMP
theorem cm_init {G : hk_G} {l : Launch} {h : hk_H} {q : Nat} (hfl : l.stackTraces = false) (hq : h q = some (.inr (16, [.int 0, .null, .null, .null, .null, .null, .null, .long 0, .null, .int 0, .null]))) : hk_Ctr G l 9 yX9_init cX9_init 1 none 60 300 [.ref q] h (hk_qv fun h1 => ∃ g1 : hk_H, (∀ p x, p ≠ q → h p = some x → g1 p = some x) ∧ hm_Wd G q cs_S0 1 0 0 (nI 0) g1 h1) hk_no := by
  sorry

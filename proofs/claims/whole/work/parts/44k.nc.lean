section CM16
variable {G : hk_G} {l : Launch} {S : hs_S} {M : hm_M} {A : Nat → Nat} {c nc nb m : Nat} {thr : Int32} {g h : hk_H}
theorem hm_x.st {g gg : hk_H} {q : Nat} {x : hk_E} (h : hm_x g gg) (hq : g q = none) : hm_x g (hk_set gg q x) := fun p y hp => by
  rw [hk_set_ne (fun e => by rw [e, hq] at hp; cases hp)]
  exact h p y hp
def ho_any (S : hs_S) (g a n : Nat) : Bool := decide (¬ cs_sq (cd_O S a) (cd_S S g n) = 0)
theorem ho_any_0 (S : hs_S) (g a : Nat) : cs_fl S a = ho_any S g a 0 := by
  unfold cs_fl ho_any
  rw [cd_S_0]
  rcases cd_O_or S a with e | e <;> rw [e] <;> rfl
theorem ho_an_z {S : hs_S} {g a j : Nat} (h : cd_Ss S g j = 0) : cx_b (ho_any S g a j) ||| nI 0 = cx_b (ho_any S g a (j + 1)) := by
  have e : ho_any S g a (j + 1) = ho_any S g a j := by
    unfold ho_any
    rw [cd_S_s, h, ← cs_sq_as]
    congr 1
    unfold cs_sq
    split <;> simp_all
  rw [e]
  cases ho_any S g a j <;> decide
theorem ho_an_f {S : hs_S} {g a j : Nat} (h : cd_Ss S g j = 3) : cx_b (ho_any S g a j) ||| nI 1 = cx_b (ho_any S g a (j + 1)) := by
  have e : ho_any S g a (j + 1) = true := by
    unfold ho_any
    rw [cd_S_s, h, ← cs_sq_as]
    refine decide_eq_true (fun z => ?_)
    have := (cs_sq_z.mp z).2
    omega
  rw [e]
  cases ho_any S g a j <;> decide
theorem cd_S_or {S : hs_S} {g : Nat} (n : Nat) : cd_S S g n = 0 ∨ cd_S S g n = 3 := by
  induction n with
  | zero => exact Or.inl rfl
  | succ n ih =>
    rw [cd_S_s]
    rcases ih with e | e
    · rw [cs_sq_0 e]
      unfold cd_Ss
      split
      · exact Or.inl rfl
      · exact cd_O_or S n
    · rw [cs_sq_n (by rw [e]; decide)]
      exact Or.inr e
theorem ho_an3 {S : hs_S} {g a n : Nat} (h : ho_any S g a n = true) (x : Nat) : cs_sq (cd_O S a) (cs_sq (cd_S S g n) x) = 3 := by
  have h2 := of_decide_eq_true h
  rcases cd_O_or S a with e | e
  · rw [cs_sq_0 e] at h2 ⊢
    rcases cd_S_or (S := S) (g := g) n with w | w
    · exact absurd w h2
    · rw [cs_sq_n (by rw [w]; decide)]; exact w
  · rw [cs_sq_n (by rw [e]; decide)]; exact e
theorem ho_an0 {S : hs_S} {g a n : Nat} (h : ho_any S g a n = false) : cd_O S a = 0 ∧ cd_S S g n = 0 := cs_sq_z.mp (Decidable.of_not_not (of_decide_eq_false h))
theorem hX_V {S : hs_S} {g : Nat} (hV : jV S c 512) (hg : g < 4) : hX S g (fun j => vN (S.1 27 (g * 6 + j))) ∧ ∀ j, c ≤ j → j < 6 → S.1 27 (g * 6 + j) = nI 0 := by
  refine ⟨fun j hj2 => ?_, fun j h1 h2 => ?_⟩
  · obtain ⟨x, x1, x2, x3⟩ := hV g j hg hj2
    show S.1 27 (g * 6 + j) = nI (vN (S.1 27 (g * 6 + j))) ∧ vN (S.1 27 (g * 6 + j)) ≤ 50688
    rw [x2, vN_nI (by omega)]
    exact ⟨rfl, by omega⟩
  · obtain ⟨x, x1, x2, x3⟩ := hV g j hg h2
    rw [x2, x3 h1]
theorem va_c {S : hs_S} {g : Nat} (hz : ∀ j, c ≤ j → j < 6 → S.1 27 (g * 6 + j) = nI 0) : ∀ k, c + k ≤ 6 → cs_va S g (c + k) = cs_va S g c := by
  intro k
  induction k with
  | zero => intro _; rfl
  | succ k ih =>
    intro hk
    rw [← Nat.add_assoc, cs_va_s, hz (c + k) (by omega) (by omega), ih (by omega)]
    exact Int32.add_zero _
theorem ho_Ss0 {S : hs_S} {g j : Nat} {X : Nat → Nat} (h : hX S g X) (hj : j < 6) (z : S.1 27 (g * 6 + j) ≤ nI 0) : cd_Ss S g j = 0 := by
  obtain ⟨x1, x2⟩ := h j hj
  rw [x1] at z
  have := (nI_leI (by omega) (by omega)).mp z
  refine if_pos ?_
  rw [x1, show X j = 0 by omega]
  rfl
theorem ho_SsO {S : hs_S} {g j k : Nat} (h : cd_O S j = k) (z : ¬ S.1 27 (g * 6 + j) ≤ nI 0) : cd_Ss S g j = k := by
  rw [← h]
  refine if_neg (fun e => z ?_)
  rw [e]
  exact Int32.le_refl _
theorem nI_dec {x : Nat} (h : 1 ≤ x) : nI x + Int32.ofInt (-1) = nI (x - 1) := by
  have := pk_sub (a := x) (b := 1) h
  rw [← this, Int32.sub_eq_add_neg]
  rfl
section HOB
variable {g n k : Nat} {q z : Int32} {t : Nat → Int32}
theorem ho_b1 (h : S.1 27 (g * 6 + n) ≤ nI 0) : ho_b S g q z t (n + 1) = ho_b S g q z t n := by
  rw [ho_b_s]; unfold ho_bs; rw [if_pos h]
theorem ho_b2 (h : ¬ S.1 27 (g * 6 + n) ≤ nI 0) (h2 : ¬ t n = nI 0) : ho_b S g q z t (n + 1) = ho_b S g q z t n := by
  rw [ho_b_s]; unfold ho_bs; rw [if_neg h, if_neg h2]
theorem ho_b3 (h : ¬ S.1 27 (g * 6 + n) ≤ nI 0) (h2 : t n = nI 0) (h3 : ho_b S g q z t n = none) : ho_b S g q z t (n + 1) = some n := by
  rw [ho_b_s]; unfold ho_bs; rw [if_neg h, if_pos h2, h3]
theorem ho_b4 (h : ¬ S.1 27 (g * 6 + n) ≤ nI 0) (h2 : t n = nI 0) (h3 : ho_b S g q z t n = some k) (h4 : ho_r S g q z n ≤ ho_r S g q z k) : ho_b S g q z t (n + 1) = some k := by
  rw [ho_b_s]; unfold ho_bs; rw [if_neg h, if_pos h2, h3]; exact if_pos h4
theorem ho_b5 (h : ¬ S.1 27 (g * 6 + n) ≤ nI 0) (h2 : t n = nI 0) (h3 : ho_b S g q z t n = some k) (h4 : ¬ ho_r S g q z n ≤ ho_r S g q z k) : ho_b S g q z t (n + 1) = some n := by
  rw [ho_b_s]; unfold ho_bs; rw [if_neg h, if_pos h2, h3]; exact if_neg h4
end HOB
theorem ho_rm {X : Nat → Nat} {g q s j : Nat} (h : hX S g X) (hq : q ≤ 99) (hs : s < 2 ^ 31) (hj : j < 6) : nI q * S.1 27 (g * 6 + j) - nI q * S.1 27 (g * 6 + j) / nI s * nI s = ho_r S g (nI q) (nI s) j := by
  obtain ⟨x1, x2⟩ := h j hj
  have hm : q * X j ≤ 99 * 50688 := Nat.mul_le_mul hq x2
  have hdm := Nat.div_add_mod' (q * X j) s
  rw [ho_r_n h hq hs hj, x1, cx_nmul, nI_div (by omega) hs, cx_nmul, pk_sub (by omega)]
  congr 1
  omega
theorem cm_throwOver {v0 v1 v2 : Int32} (hfl : l.stackTraces = false) (hw : hm_Wd G m S c nc nb thr g h) (hV : jV S c 512) : hk_Ctr G l 9 yX9_throwOver cX9_throwOver 12 (some .int) 2 12 [.ref m, .int v0, .int v1, .int v2] h (hk_qi fun rv h1 => ml_Q G m (ml_tr [1, 2, 3, 4] (cd_throwOver S c v0 v1 v2)) S c nc nb (hs_tho S v0 v1 v2) (c) (nc) (nb) g (rv = hs_thr S v0 v1 v2) h1) hk_no := by
  obtain ⟨A, M, rfl, rfl, ok, hk, rfl⟩ := hw
  have hc1 := ok.1.2.1
  have hc := ok.1.2.2
  have hnc := ok.2.1.2
  have hnb := ok.2.2.1.2
  refine hk_enter (by decide) hfl (Nat.le_of_ble_eq_true rfl) rfl ?_
  refine hk_aload_n dX9_throwOver_0 rfl rfl rfl ?_
  refine hk_iload_n dX9_throwOver_1 rfl rfl rfl ?_
  refine hk_iconst (v := nI 0) dX9_throwOver_2 rfl (by decide) ?_
  refine hk_iconst (v := nI 3) dX9_throwOver_3 rfl (by decide) ?_
  refine hk_callS dX9_throwOver_4 rfl ms_X9_60 (cm_isBetween hfl) rfl rfl (by decide) ⟨Nat.zero_le _, Nat.zero_le _⟩ (Nat.le_of_ble_eq_true rfl) (hk_ki fun v h1 q => ?_) hk_nx
  obtain ⟨rfl, rfl⟩ := q
  refine cx_top (congrArg cx_b (cs_bwH (n := 4) (by decide) _)) ?_
  refine cx_ifb_eq (tgt := 18) dX9_throwOver_7 (by decide) rfl (fun z7 => ?_) (fun z7 => ?_)
  · have f7 : cd_H 4 v0 = 1 := cd_H_1 (of_decide_eq_false z7)
    refine hk_iconst (v := nI 1) dX9_throwOver_18 rfl (by decide) ?_
    refine hk_goto (tgt := 37) dX9_throwOver_19 (by decide) ?_
    refine hk_callV dX9_throwOver_37 rfl mv_X9_80 (cm_isWrong (k := 1) hfl (by decide) hk) rfl rfl (hm_g0 hk) rfl rfl (by decide) ⟨Nat.zero_le _, Nat.zero_le _⟩ (Nat.le_of_ble_eq_true rfl) (hk_ki fun v h1 q => ?_) hk_nx
    obtain ⟨rfl, rfl⟩ := q
    try rw [hm_mt_mt]
    refine cx_ifb_eq (tgt := 45) dX9_throwOver_40 (by decide) rfl (fun z40 => ?_) (fun z40 => ?_)
    · exact absurd z40 (by decide)
    · skip
      refine hk_iconst (v := nI 0) dX9_throwOver_43 rfl (by decide) ?_
      exact hk_ireturn rfl (rfl) dX9_throwOver_44 (by have e : cd_throwOver S c v0 v1 v2 = 1 := (by simp [cd_throwOver, cs_sq, f7]); exact ⟨_, rfl, g, hm_x.rf, Or.inr ⟨by rw [e]; decide, A, hm_mt M (nI 1), rfl, by rw [e]; exact hm_mt0, ok, hk, rfl⟩⟩)
  · have f7 : cd_H 4 v0 = 0 := of_decide_eq_true z7
    obtain ⟨a, ha, rfl⟩ := cd_H_of (by omega) f7
    have vaa : vN (nI a) = a := vN_nI (by omega)
    refine hk_aload_n dX9_throwOver_10 rfl rfl rfl ?_
    refine hk_iload_n dX9_throwOver_11 rfl rfl rfl ?_
    refine hk_callV dX9_throwOver_12 rfl mv_X9_84 (cm_isHouse hfl hk ok) rfl rfl (hm_g0 hk) rfl rfl (by decide) ⟨Nat.zero_le _, Nat.zero_le _⟩ (Nat.le_of_ble_eq_true rfl) (hk_ki fun v h1 q => ?_) hk_nx
    obtain ⟨rfl, rfl⟩ := q
    refine cx_ifb_ne (tgt := 22) dX9_throwOver_15 (by decide) rfl (fun z15 => ?_) (fun z15 => ?_)
    · have f15 : cd_H c v1 = 0 := of_decide_eq_true z15
      obtain ⟨b2, hb2, rfl⟩ := cd_H_of (by omega) f15
      have vab2 : vN (nI b2) = b2 := vN_nI (by omega)
      refine hk_iload_n dX9_throwOver_22 rfl rfl rfl ?_
      refine hk_iconst (v := nI 1) dX9_throwOver_23 rfl (by decide) ?_
      refine hk_bipush (v := nI 99) dX9_throwOver_24 rfl (by decide) ?_
      refine hk_callS dX9_throwOver_26 rfl ms_X9_60 (cm_isBetween hfl) rfl rfl (by decide) ⟨Nat.zero_le _, Nat.zero_le _⟩ (Nat.le_of_ble_eq_true rfl) (hk_ki fun v h1 q => ?_) hk_nx
      obtain ⟨rfl, rfl⟩ := q
      refine cx_top (congrArg cx_b (cs_bwR _ _)) ?_
      refine cx_ifb_ne (tgt := 36) dX9_throwOver_29 (by decide) rfl (fun z29 => ?_) (fun z29 => ?_)
      · have f29 : cd_R v2 99 = 0 := of_decide_eq_true z29
        obtain ⟨k2, hk21, hk22, rfl⟩ := cd_R_of (by omega) f29
        have vak2 : vN (nI k2) = k2 := vN_nI (by omega)
        refine hk_iconst (v := nI 0) dX9_throwOver_36 rfl (by decide) ?_
        refine hk_callV dX9_throwOver_37 rfl mv_X9_80 (cm_isWrong (k := 0) hfl (by decide) hk) rfl rfl (hm_g0 hk) rfl rfl (by decide) ⟨Nat.zero_le _, Nat.zero_le _⟩ (Nat.le_of_ble_eq_true rfl) (hk_ki fun v h1 q => ?_) hk_nx
        obtain ⟨rfl, rfl⟩ := q
        try rw [hm_mt_mt]
        refine cx_ifb_eq (tgt := 45) dX9_throwOver_40 (by decide) rfl (fun z40 => ?_) (fun z40 => ?_)
        · skip
          obtain ⟨hXX, hXz⟩ := hX_V hV ha
          generalize (fun j => vN (S.1 27 (a * 6 + j))) = X at hXX
          refine hk_aload_n dX9_throwOver_45 rfl rfl rfl ?_
          refine hk_getf dX9_throwOver_46 rfl fl_X9_41 (hm_g0 hk) rfl ?_
          refine hk_iload_n dX9_throwOver_49 rfl rfl rfl ?_
          refine hx_aaldI dX9_throwOver_50 rfl (hm_g17 hk) (show _ < 4 by omega) (by decide) (if_pos (show _ < 4 by omega)) ?_
          refine hk_astore dX9_throwOver_51 rfl (by decide) rfl ?_
          refine hk_aload_n dX9_throwOver_53 rfl rfl rfl ?_
          refine hk_iload_n dX9_throwOver_54 rfl rfl rfl ?_
          refine hk_callV dX9_throwOver_55 rfl mv_X9_91 (cm_hasFailed hfl hk ok (by omega)) rfl rfl (hm_g0 hk) rfl rfl (by decide) ⟨Nat.zero_le _, Nat.zero_le _⟩ (Nat.le_of_ble_eq_true rfl) (hk_ki fun v h1 q => ?_) hk_nx
          obtain ⟨rfl, rfl⟩ := q
          refine cx_top (congrArg cx_b (ho_any_0 S a b2)) ?_
          refine hk_istore dX9_throwOver_58 rfl (by decide) rfl ?_
          refine hk_iconst (v := nI 0) dX9_throwOver_60 rfl (by decide) ?_
          refine hk_istore dX9_throwOver_61 rfl (by decide) rfl ?_
          refine hk_iconst (v := nI 0) dX9_throwOver_63 rfl (by decide) ?_
          refine hk_istore dX9_throwOver_64 rfl (by decide) rfl ?_
          have lp66 : ∀ f j : Nat, j ≤ c → c - j < f → hk_W G l 9 yX9_throwOver cX9_throwOver 12 (some .int) [] (hk_qi fun rv h1 => ml_Q G (A 0) (ml_tr [1, 2, 3, 4] (cd_throwOver S c (nI a) (nI b2) (nI k2))) S c nc nb (hs_tho S (nI a) (nI b2) (nI k2)) (c) (nc) (nb) g (rv = hs_thr S (nI a) (nI b2) (nI k2)) h1) hk_no 2 12 (hm_h G S (hm_mt M (nI 0)) A g) 66 [some (.ref (A 0)), some (.int (nI a)), some (.int (nI b2)), some (.int (nI k2)), some (.ref (A (18 + a))), some (.int (cx_b (ho_any S a b2 j))), some (.int (cs_va S a j)), some (.int (nI j)), none, none, none, none] [] := by
            intro f
            induction f with
            | zero => intro j hj hf; exact absurd hf (by omega)
            | succ f ih66 =>
              intro j hj hf
              refine hk_iload dX9_throwOver_66 rfl rfl ?_
              refine hk_aload_n dX9_throwOver_68 rfl rfl rfl ?_
              refine hk_getf dX9_throwOver_69 rfl fl_X9_16 (hm_g0 hk) rfl ?_
              refine hk_callF dX9_throwOver_72 rfl mf_X9_56 (cj_size hfl (hm_l0 hk ok)) rfl rfl (hm_l0 hk ok) rfl rfl (by decide) ⟨Nat.zero_le _, Nat.zero_le _⟩ (Nat.le_of_ble_eq_true rfl) (hk_ki fun v h1 q => ?_) hk_nx
              obtain ⟨rfl, rfl⟩ := q
              refine cx_icmp_ge (tgt := 123) (by omega) (by omega) dX9_throwOver_77 (by decide) rfl (fun z77 => ?_) (fun z77 => ?_)
              · skip
                have ej : j = c := (by omega)
                rw [ej]
                refine hk_aload_n dX9_throwOver_123 rfl rfl rfl ?_
                refine hk_iload dX9_throwOver_124 rfl rfl ?_
                refine cx_ifb_eq (tgt := 133) dX9_throwOver_126 (by decide) rfl (fun z126 => ?_) (fun z126 => ?_)
                · skip
                  refine hk_aload dX9_throwOver_133 rfl rfl ?_
                  refine hk_iload_n dX9_throwOver_135 rfl rfl rfl ?_
                  refine hx_iald dX9_throwOver_136 rfl (hm_g18 hk (by omega)) (show _ < 6 by omega) (by decide) ?_
                  refine cx_top (if_pos (by omega)) ?_
                  refine hk_if_ne (tgt := 144) dX9_throwOver_137 (by decide) rfl (fun z137 => ?_) (fun z137 => ?_)
                  · skip
                    refine hk_iconst (v := nI 0) dX9_throwOver_144 rfl (by decide) ?_
                    refine hk_callV dX9_throwOver_145 rfl mv_X9_80 (cm_isWrong (k := 0) hfl (by decide) hk) rfl rfl (hm_g0 hk) rfl rfl (by decide) ⟨Nat.zero_le _, Nat.zero_le _⟩ (Nat.le_of_ble_eq_true rfl) (hk_ki fun v h1 q => ?_) hk_nx
                    obtain ⟨rfl, rfl⟩ := q
                    try rw [hm_mt_mt]
                    refine cx_ifb_eq (tgt := 153) dX9_throwOver_148 (by decide) rfl (fun z148 => ?_) (fun z148 => ?_)
                    · skip
                      have hEZ : cd_throwOver S c (nI a) (nI b2) (nI k2) = 0 := (by unfold cd_throwOver; rw [cs_sq_0 f7, cs_sq_0 f15, cs_sq_0 f29, vaa, vab2]; rw [cs_sq_0 (ho_an0 z126).1, cs_sq_0 (ho_an0 z126).2]; exact if_neg z137)
                      have hsh : cd_sh S a b2 = 0 := if_neg z137
                      have hsp := sh_pos hXX (by omega) hsh
                      have hs6 : ho_S X 6 ≤ 6 * 50688 := ho_S_le (fun j hj => (hXX j hj).2)
                      have hvc : cs_va S a c = cs_va S a 6 := (by have e := va_c hXz (6 - c) (by omega); rw [show c + (6 - c) = 6 by omega] at e; exact e.symm)
                      have hv6 := va_n hXX 6 (Nat.le_refl _)
                      obtain ⟨s, hs⟩ : ∃ s, s = ho_S X 6 := ⟨_, rfl⟩
                      rw [← hs] at hsp hs6 hv6
                      rw [hvc, hv6]
                      have hs0 : ¬ nI s = 0 := fun e => (by have := (nI_eq (b := 0) (by omega) (by omega)).mp e; omega)
                      obtain ⟨L, hL⟩ : ∃ L, L = k2 - ho_S (fun j => k2 * X j / s) 6 := ⟨_, rfl⟩
                      have hlL := ho_l_n hXX hk22 hs hsp 6 (Nat.le_refl _)
                      have hL6 := (p1_L (q := k2) hs hsp).2.1
                      rw [← hL] at hlL hL6
                      have eE : ho_e S (nI a) (nI k2) = ho_k S a (nI k2) (nI s) L := (by unfold ho_e; rw [vaa, hv6, hlL, vN_nI (by omega)])
                      have eT : hs_tho S (nI a) (nI b2) (nI k2) = ho_c b2 (ho_k S a (nI k2) (nI s) L).1 S 6 := (by unfold hs_tho; rw [eE, vab2])
                      have eR : hs_thr S (nI a) (nI b2) (nI k2) = (ho_k S a (nI k2) (nI s) L).1 b2 := (by unfold hs_thr; rw [eE, vab2])
                      have ok0 : hm_ok G S (hm_mt M (nI 0)) A c nc nb := ok
                      have hk0 : ha_ok (hm_D S (hm_mt M (nI 0))) A g := hk
                      have m0 : (hm_mt M (nI 0)).1 0 = nI 0 := hm_mt0
                      generalize hm_mt M (nI 0) = M0 at ok0 hk0 m0 ⊢
                      refine hk_bipush (v := nI 6) dX9_throwOver_153 rfl (by decide) ?_
                      refine hk_newa (t := 0) (N := 6) dX9_throwOver_155 rfl (by decide) rfl rfl (fun _ _ z => z) ac_0 (by decide) (by decide) (by decide) ⟨by omega, by omega⟩ (fun w1 hn1 => ?_)
                      obtain ⟨hk1, e1, x1⟩ := hm_okg (x := .inl (0, 6, .inl (fun _ => 0))) hk0 hn1
                      refine hx_cg e1 ?_
                      refine hk_astore dX9_throwOver_157 rfl (by decide) rfl ?_
                      refine hk_bipush (v := nI 6) dX9_throwOver_159 rfl (by decide) ?_
                      refine hk_newa (t := 1) (N := 6) dX9_throwOver_161 rfl (by decide) rfl rfl (fun _ _ z => z) ac_1 (by decide) (by decide) (by decide) ⟨by omega, by omega⟩ (fun w2 hn2 => ?_)
                      obtain ⟨hk2, e2, x1b⟩ := hm_okg (x := .inl (1, 6, .inl (fun _ => 0))) hk1 hn2
                      refine hx_cg e2 ?_
                      refine hk_astore dX9_throwOver_163 rfl (by decide) rfl ?_
                      have g1n : g w1 = none := (ha_none hk0.1 hn1).2
                      have g2n : g w2 = none := (by have := (ha_none hk1.1 hn2).2; cases e : g w2 with | none => rfl | some y => (rw [x1 w2 y e] at this; cases this))
                      have hne : w1 ≠ w2 := fun e => (by have := (ha_none hk1.1 hn2).2; rw [← e, hk_set_eq] at this; cases this)
                      have c1 : hk_set (hk_set g w1 (.inl (0, 6, .inl (fun _ => 0)))) w2 (.inl (1, 6, .inl (fun _ => 0))) w1 = some (.inl (0, 6, .inl (ho_f S a (nI k2) (nI s) 0))) := (by rw [hk_set_ne hne]; exact hk_set_eq)
                      have c2 : hk_set (hk_set g w1 (.inl (0, 6, .inl (fun _ => 0)))) w2 (.inl (1, 6, .inl (fun _ => 0))) w2 = some (.inl (1, 6, .inl (fun _ => nI 0))) := hk_set_eq
                      have x2 := x1.tr x1b
                      generalize hk_set (hk_set g w1 (.inl (0, 6, .inl (fun _ => 0)))) w2 (.inl (1, 6, .inl (fun _ => 0))) = gg at c1 c2 x2 hk2 ⊢
                      refine hk_iload_n dX9_throwOver_165 rfl rfl rfl ?_
                      refine hk_istore dX9_throwOver_166 rfl (by decide) rfl ?_
                      refine hk_iconst (v := nI 0) dX9_throwOver_168 rfl (by decide) ?_
                      refine hk_istore dX9_throwOver_169 rfl (by decide) rfl ?_
                      have lp171 : ∀ f (j : Nat) (gg : hk_H), j ≤ 6 → 6 - j < f → ha_ok (hm_D S M0) A gg → gg w1 = some (.inl (0, 6, .inl (ho_f S a (nI k2) (nI s) j))) → gg w2 = some (.inl (1, 6, .inl (fun _ => nI 0))) → hm_x g gg → hk_W G l 9 yX9_throwOver cX9_throwOver 12 (some .int) [] (hk_qi fun rv h1 => ml_Q G (A 0) (ml_tr [1, 2, 3, 4] (cd_throwOver S c (nI a) (nI b2) (nI k2))) S c nc nb (hs_tho S (nI a) (nI b2) (nI k2)) (c) (nc) (nb) g (rv = hs_thr S (nI a) (nI b2) (nI k2)) h1) hk_no 0 0 (hm_h G S M0 A gg) 171 [some (.ref (A 0)), some (.int (nI a)), some (.int (nI b2)), some (.int (nI k2)), some (.ref (A (18 + a))), some (.int (cx_b (ho_any S a b2 c))), some (.int (nI s)), some (.ref w1), some (.ref w2), some (.int (ho_l S a (nI k2) (nI s) j)), some (.int (nI j)), none] [] := by
                        intro f
                        induction f with
                        | zero => intro j gg hj hf hk3 c1 c2 x3; exact absurd hf (by omega)
                        | succ f ih171 =>
                          intro j gg hj hf hk3 c1 c2 x3
                          refine hk_iload dX9_throwOver_171 rfl rfl ?_
                          refine hk_bipush (v := nI 6) dX9_throwOver_173 rfl (by decide) ?_
                          refine cx_icmp_ge (tgt := 209) (by omega) (by omega) dX9_throwOver_175 (by decide) rfl (fun z175 => ?_) (fun z175 => ?_)
                          · skip
                            have lp209 : ∀ f (k : Nat) (gg : hk_H) (lvx lvy : Option Value), k ≤ L → L - k < f → ha_ok (hm_D S M0) A gg → gg w1 = some (.inl (0, 6, .inl ((ho_k S a (nI k2) (nI s) k).1))) → gg w2 = some (.inl (1, 6, .inl ((ho_k S a (nI k2) (nI s) k).2))) → hm_x g gg → hk_W G l 9 yX9_throwOver cX9_throwOver 12 (some .int) [] (hk_qi fun rv h1 => ml_Q G (A 0) (ml_tr [1, 2, 3, 4] (cd_throwOver S c (nI a) (nI b2) (nI k2))) S c nc nb (hs_tho S (nI a) (nI b2) (nI k2)) (c) (nc) (nb) g (rv = hs_thr S (nI a) (nI b2) (nI k2)) h1) hk_no 0 0 (hm_h G S M0 A gg) 209 [some (.ref (A 0)), some (.int (nI a)), some (.int (nI b2)), some (.int (nI k2)), some (.ref (A (18 + a))), some (.int (cx_b (ho_any S a b2 c))), some (.int (nI s)), some (.ref w1), some (.ref w2), some (.int (nI (L - k))), lvx, lvy] [] := by
                              intro f
                              induction f with
                              | zero => intro k gg lvx lvy hkL hf hk5 c1 c2 x5; exact absurd hf (by omega)
                              | succ f ih209 =>
                                intro k gg lvx lvy hkL hf hk5 c1 c2 x5
                                refine hk_iload dX9_throwOver_209 rfl rfl ?_
                                refine cx_ifn_le (tgt := 303) (by omega) dX9_throwOver_211 (by decide) rfl (fun z211 => ?_) (fun z211 => ?_)
                                · skip
                                  have ek : k = L := (by omega)
                                  rw [ek] at c1 c2
                                  refine hk_iconst (v := nI 0) dX9_throwOver_303 rfl (by decide) ?_
                                  refine hk_istore dX9_throwOver_304 rfl (by decide) rfl ?_
                                  have lp306 : ∀ f j : Nat, j ≤ 6 → 6 - j < f → hk_W G l 9 yX9_throwOver cX9_throwOver 12 (some .int) [] (hk_qi fun rv h1 => ml_Q G (A 0) (ml_tr [1, 2, 3, 4] (cd_throwOver S c (nI a) (nI b2) (nI k2))) S c nc nb (hs_tho S (nI a) (nI b2) (nI k2)) (c) (nc) (nb) g (rv = hs_thr S (nI a) (nI b2) (nI k2)) h1) hk_no 0 0 (hm_h G (ho_c b2 (ho_k S a (nI k2) (nI s) L).1 S j) M0 A gg) 306 [some (.ref (A 0)), some (.int (nI a)), some (.int (nI b2)), some (.int (nI k2)), some (.ref (A (18 + a))), some (.int (cx_b (ho_any S a b2 c))), some (.int (nI s)), some (.ref w1), some (.ref w2), some (.int (nI (L - k))), some (.int (nI j)), lvy] [] := by
                                    intro f
                                    induction f with
                                    | zero => intro j hj hf; exact absurd hf (by omega)
                                    | succ f ih306 =>
                                      intro j hj hf
                                      have hk8 := hm_hkS (fun i hi => ho_c_ne (a := b2) (f := (ho_k S a (nI k2) (nI s) L).1) (S := S) (by omega) j) hk5
                                      have ok8 := hm_okS ok0 (fun i hi => ho_c_ne (a := b2) (f := (ho_k S a (nI k2) (nI s) L).1) (S := S) (by omega) j)
                                      refine hk_iload dX9_throwOver_306 rfl rfl ?_
                                      refine hk_bipush (v := nI 6) dX9_throwOver_308 rfl (by decide) ?_
                                      refine cx_icmp_ge (tgt := 346) (by omega) (by omega) dX9_throwOver_310 (by decide) rfl (fun z310 => ?_) (fun z310 => ?_)
                                      · skip
                                        refine hk_aload dX9_throwOver_346 rfl rfl ?_
                                        refine hk_iload_n dX9_throwOver_348 rfl rfl rfl ?_
                                        refine hx_iald dX9_throwOver_349 rfl (hm_gnd hk8 c1) (show _ < 6 by omega) (by decide) ?_
                                        exact hk_ireturn rfl (rfl) dX9_throwOver_350 (by have e6 : j = 6 := (by omega); subst e6; exact ⟨_, rfl, gg, x5, Or.inl ⟨by rw [hEZ]; rfl, eR.symm, A, M0, rfl, m0, by rw [eT]; exact ok8, by rw [eT]; exact hk8, by rw [eT]⟩⟩)
                                      · skip
                                        refine hk_aload_n dX9_throwOver_313 rfl rfl rfl ?_
                                        refine hk_getf dX9_throwOver_314 rfl fl_X9_35 (hm_g0 hk8) rfl ?_
                                        refine hk_iload_n dX9_throwOver_317 rfl rfl rfl ?_
                                        refine hx_aaldI dX9_throwOver_318 rfl (hm_g10 hk8) (show _ < 6 by omega) (by decide) (if_pos (show _ < 6 by omega)) ?_
                                        refine hk_iload dX9_throwOver_319 rfl rfl ?_
                                        refine hk_dup2 dX9_throwOver_321 rfl rfl rfl ?_
                                        refine hx_iald dX9_throwOver_322 rfl (hm_g11 hk8 (by omega)) (show _ < 6 by omega) (by decide) ?_
                                        refine cx_top (if_pos (by omega)) ?_
                                        refine hk_iload dX9_throwOver_323 rfl rfl ?_
                                        refine hk_iload_n dX9_throwOver_325 rfl rfl rfl ?_
                                        refine cx_icmp_ne (tgt := 333) (by omega) (by omega) dX9_throwOver_326 (by decide) rfl (fun z326 => ?_) (fun z326 => ?_)
                                        · skip
                                          refine hk_aload dX9_throwOver_333 rfl rfl ?_
                                          refine hk_iload dX9_throwOver_335 rfl rfl ?_
                                          refine hx_iald dX9_throwOver_337 rfl (hm_gnd hk8 c1) (show _ < 6 by omega) (by decide) ?_
                                          refine hk_iadd dX9_throwOver_338 rfl ?_
                                          refine hx_iast dX9_throwOver_339 rfl (hm_g11 hk8 (by omega)) (show _ < 6 by omega) (by decide) ?_
                                          refine hx_cg (hm_v19 hk8 (by omega) (by omega)) ?_
                                          refine hk_iinc dX9_throwOver_340 rfl rfl (nI_1 _) (by decide) rfl ?_
                                          refine hk_goto (tgt := 306) dX9_throwOver_343 (by decide) ?_
                                          have ih4 := ih306 (j + 1) (by omega) (by omega)
                                          rw [ho_c_s] at ih4
                                          first | (rw [if_pos z326] at ih4; exact ih4) | (rw [if_neg z326] at ih4; exact ih4)
                                        · skip
                                          refine hk_iconst (v := nI 0) dX9_throwOver_329 rfl (by decide) ?_
                                          refine hk_goto (tgt := 338) dX9_throwOver_330 (by decide) ?_
                                          refine hk_iadd dX9_throwOver_338 rfl ?_
                                          refine hx_iast dX9_throwOver_339 rfl (hm_g11 hk8 (by omega)) (show _ < 6 by omega) (by decide) ?_
                                          refine hx_cg (hm_v19 hk8 (by omega) (by omega)) ?_
                                          refine hk_iinc dX9_throwOver_340 rfl rfl (nI_1 _) (by decide) rfl ?_
                                          refine hk_goto (tgt := 306) dX9_throwOver_343 (by decide) ?_
                                          have ih4 := ih306 (j + 1) (by omega) (by omega)
                                          rw [ho_c_s] at ih4
                                          first | (rw [if_pos z326] at ih4; exact ih4) | (rw [if_neg z326] at ih4; exact ih4)
                                  exact lp306 (6 + 1) 0 (by omega) (by omega)
                                · skip
                                  obtain ⟨b, hb6, hbs⟩ := ho_some hXX hk22 hs hsp k (by omega)
                                  refine hk_iconst (v := -1) dX9_throwOver_214 rfl (by decide) ?_
                                  refine hk_istore dX9_throwOver_215 rfl (by decide) rfl ?_
                                  refine hk_iconst (v := nI 0) dX9_throwOver_217 rfl (by decide) ?_
                                  refine hk_istore dX9_throwOver_218 rfl (by decide) rfl ?_
                                  have lp220 : ∀ f n : Nat, n ≤ 6 → 6 - n < f → hk_W G l 9 yX9_throwOver cX9_throwOver 12 (some .int) [] (hk_qi fun rv h1 => ml_Q G (A 0) (ml_tr [1, 2, 3, 4] (cd_throwOver S c (nI a) (nI b2) (nI k2))) S c nc nb (hs_tho S (nI a) (nI b2) (nI k2)) (c) (nc) (nb) g (rv = hs_thr S (nI a) (nI b2) (nI k2)) h1) hk_no 0 0 (hm_h G S M0 A gg) 220 [some (.ref (A 0)), some (.int (nI a)), some (.int (nI b2)), some (.int (nI k2)), some (.ref (A (18 + a))), some (.int (cx_b (ho_any S a b2 c))), some (.int (nI s)), some (.ref w1), some (.ref w2), some (.int (nI (L - k))), some (.int (cs_o (ho_b S a (nI k2) (nI s) (ho_k S a (nI k2) (nI s) k).2 n))), some (.int (nI n))] [] := by
                                    intro f
                                    induction f with
                                    | zero => intro n hn hf; exact absurd hf (by omega)
                                    | succ f ih220 =>
                                      intro n hn hf
                                      refine hk_iload dX9_throwOver_220 rfl rfl ?_
                                      refine hk_bipush (v := nI 6) dX9_throwOver_222 rfl (by decide) ?_
                                      refine cx_icmp_ge (tgt := 282) (by omega) (by omega) dX9_throwOver_224 (by decide) rfl (fun z224 => ?_) (fun z224 => ?_)
                                      · skip
                                        have en : n = 6 := (by omega)
                                        · rw [en, hbs, show cs_o (some b) = nI b from rfl]
                                          refine hk_aload dX9_throwOver_282 rfl rfl ?_
                                          refine hk_iload dX9_throwOver_284 rfl rfl ?_
                                          refine hk_iconst (v := nI 1) dX9_throwOver_286 rfl (by decide) ?_
                                          refine hx_zast dX9_throwOver_287 rfl (hm_gnd hk5 c2) (show _ < 6 by omega) (by decide) rfl ?_
                                          refine hx_cg (show _ = hm_h G S M0 A (hk_set gg w2 (.inl (1, 6, .inl (upd (ho_k S a (nI k2) (nI s) k).2 b (nI 1))))) from (hm_sg hk5 c2).2) ?_
                                          have hk6 := (hm_sg (G := G) (x := .inl (1, 6, .inl (upd (ho_k S a (nI k2) (nI s) k).2 b (nI 1)))) hk5 c2).1
                                          refine hk_aload dX9_throwOver_288 rfl rfl ?_
                                          refine hk_iload dX9_throwOver_290 rfl rfl ?_
                                          refine hk_dup2 dX9_throwOver_292 rfl rfl rfl ?_
                                          have c1b : (hk_set gg w2 (.inl (1, 6, .inl (upd (ho_k S a (nI k2) (nI s) k).2 b (nI 1))))) w1 = some (.inl (0, 6, .inl (ho_k S a (nI k2) (nI s) k).1)) := (by rw [hk_set_ne hne]; exact c1)
                                          refine hx_iald dX9_throwOver_293 rfl (hm_gnd hk6 c1b) (show _ < 6 by omega) (by decide) ?_
                                          refine hk_iconst (v := nI 1) dX9_throwOver_294 rfl (by decide) ?_
                                          refine hk_iadd dX9_throwOver_295 rfl ?_
                                          refine hx_iast dX9_throwOver_296 rfl (hm_gnd hk6 c1b) (show _ < 6 by omega) (by decide) ?_
                                          refine hx_cg (show _ = hm_h G S M0 A (hk_set (hk_set gg w2 (.inl (1, 6, .inl (upd (ho_k S a (nI k2) (nI s) k).2 b (nI 1))))) w1 (.inl (0, 6, .inl (upd (ho_k S a (nI k2) (nI s) k).1 b ((ho_k S a (nI k2) (nI s) k).1 b + nI 1))))) from (hm_sg hk6 c1b).2) ?_
                                          have hk7 := (hm_sg (G := G) (x := .inl (0, 6, .inl (upd (ho_k S a (nI k2) (nI s) k).1 b ((ho_k S a (nI k2) (nI s) k).1 b + nI 1)))) hk6 c1b).1
                                          refine hk_iinc (v := nI (L - (k + 1))) dX9_throwOver_297 rfl rfl (by rw [nI_dec (by omega)]; congr 1) (by decide) rfl ?_
                                          refine hk_goto (tgt := 209) dX9_throwOver_300 (by decide) ?_
                                          have es := ho_k_s S a (nI k2) (nI s) k
                                          rw [ho_st_e hbs] at es
                                          exact ih209 (k + 1) _ _ _ (by omega) (by omega) hk7 (by rw [es]; exact hk_set_eq) (by rw [es, hk_set_ne (Ne.symm hne)]; exact hk_set_eq) ((x5.st g2n).st g1n)
                                      · skip
                                        refine hk_aload dX9_throwOver_227 rfl rfl ?_
                                        refine hk_iload dX9_throwOver_229 rfl rfl ?_
                                        refine hx_iald dX9_throwOver_231 rfl (hm_g18 hk5 (by omega)) (show _ < 6 by omega) (by decide) ?_
                                        refine cx_top (if_pos (by omega)) ?_
                                        refine hk_if_le (tgt := 276) dX9_throwOver_232 (by decide) rfl (fun z232 => ?_) (fun z232 => ?_)
                                        · skip
                                          refine hk_iinc dX9_throwOver_276 rfl rfl (nI_1 _) (by decide) rfl ?_
                                          refine hk_goto (tgt := 220) dX9_throwOver_279 (by decide) ?_
                                          have ih4 := ih220 (n + 1) (by omega) (by omega)
                                          first | (rw [ho_b1 (S := S) (g := a) (n := n) z232] at ih4; exact ih4) | (rw [ho_b2 (S := S) (g := a) (n := n) z232 z240] at ih4; exact ih4) | (rw [ho_b3 (S := S) (g := a) (n := n) z232 z240 hb] at ih4; exact ih4) | (rw [ho_b4 (S := S) (g := a) (n := n) z232 z240 hb z269] at ih4; exact ih4) | (rw [ho_b5 (S := S) (g := a) (n := n) z232 z240 hb z269] at ih4; exact ih4)
                                        · skip
                                          refine hk_aload dX9_throwOver_235 rfl rfl ?_
                                          refine hk_iload dX9_throwOver_237 rfl rfl ?_
                                          refine hx_zald dX9_throwOver_239 rfl (hm_gnd hk5 c2) (show _ < 6 by omega) (by decide) ?_
                                          refine hk_if_ne (tgt := 276) dX9_throwOver_240 (by decide) rfl (fun z240 => ?_) (fun z240 => ?_)
                                          · skip
                                            refine hk_iinc dX9_throwOver_276 rfl rfl (nI_1 _) (by decide) rfl ?_
                                            refine hk_goto (tgt := 220) dX9_throwOver_279 (by decide) ?_
                                            have ih4 := ih220 (n + 1) (by omega) (by omega)
                                            first | (rw [ho_b1 (S := S) (g := a) (n := n) z232] at ih4; exact ih4) | (rw [ho_b2 (S := S) (g := a) (n := n) z232 z240] at ih4; exact ih4) | (rw [ho_b3 (S := S) (g := a) (n := n) z232 z240 hb] at ih4; exact ih4) | (rw [ho_b4 (S := S) (g := a) (n := n) z232 z240 hb z269] at ih4; exact ih4) | (rw [ho_b5 (S := S) (g := a) (n := n) z232 z240 hb z269] at ih4; exact ih4)
                                          · skip
                                            rcases hb : ho_b S a (nI k2) (nI s) (ho_k S a (nI k2) (nI s) k).2 n with _ | kb
                                            · skip
                                              refine hk_iload dX9_throwOver_243 rfl rfl ?_
                                              refine hk_iconst (v := -1) dX9_throwOver_245 rfl (by decide) ?_
                                              refine hk_icmp_eq (tgt := 272) dX9_throwOver_246 (by decide) rfl (fun z246 => ?_) (fun z246 => ?_)
                                              · skip
                                                refine hk_iload dX9_throwOver_272 rfl rfl ?_
                                                refine hk_istore dX9_throwOver_274 rfl (by decide) rfl ?_
                                                refine hk_iinc dX9_throwOver_276 rfl rfl (nI_1 _) (by decide) rfl ?_
                                                refine hk_goto (tgt := 220) dX9_throwOver_279 (by decide) ?_
                                                have ih4 := ih220 (n + 1) (by omega) (by omega)
                                                first | (rw [ho_b1 (S := S) (g := a) (n := n) z232] at ih4; exact ih4) | (rw [ho_b2 (S := S) (g := a) (n := n) z232 z240] at ih4; exact ih4) | (rw [ho_b3 (S := S) (g := a) (n := n) z232 z240 hb] at ih4; exact ih4) | (rw [ho_b4 (S := S) (g := a) (n := n) z232 z240 hb z269] at ih4; exact ih4) | (rw [ho_b5 (S := S) (g := a) (n := n) z232 z240 hb z269] at ih4; exact ih4)
                                              · exact absurd rfl z246
                                            · have kb6 := ((ho_b_p hXX hk22 hsp (by omega) n hn).2 kb hb).1
                                              rw [show cs_o (some kb) = nI kb from rfl]
                                              refine hk_iload dX9_throwOver_243 rfl rfl ?_
                                              refine hk_iconst (v := -1) dX9_throwOver_245 rfl (by decide) ?_
                                              refine hk_icmp_eq (tgt := 272) dX9_throwOver_246 (by decide) rfl (fun z246 => ?_) (fun z246 => ?_)
                                              · exact absurd z246 (cx_ne1 (by omega))
                                              · skip
                                                refine hk_iload_n dX9_throwOver_249 rfl rfl rfl ?_
                                                refine hk_aload dX9_throwOver_250 rfl rfl ?_
                                                refine hk_iload dX9_throwOver_252 rfl rfl ?_
                                                refine hx_iald dX9_throwOver_254 rfl (hm_g18 hk5 (by omega)) (show _ < 6 by omega) (by decide) ?_
                                                refine cx_top (if_pos (by omega)) ?_
                                                refine hk_imul dX9_throwOver_255 rfl ?_
                                                refine hk_iload dX9_throwOver_256 rfl rfl ?_
                                                refine hk_irem dX9_throwOver_258 rfl hs0 ?_
                                                refine cx_top (ho_rm hXX hk22 (by omega) (by omega)) ?_
                                                refine hk_iload_n dX9_throwOver_259 rfl rfl rfl ?_
                                                refine hk_aload dX9_throwOver_260 rfl rfl ?_
                                                refine hk_iload dX9_throwOver_262 rfl rfl ?_
                                                refine hx_iald dX9_throwOver_264 rfl (hm_g18 hk5 (by omega)) (show _ < 6 by omega) (by decide) ?_
                                                refine cx_top (if_pos (by omega)) ?_
                                                refine hk_imul dX9_throwOver_265 rfl ?_
                                                refine hk_iload dX9_throwOver_266 rfl rfl ?_
                                                refine hk_irem dX9_throwOver_268 rfl hs0 ?_
                                                refine cx_top (ho_rm hXX hk22 (by omega) (by omega)) ?_
                                                refine hk_icmp_le (tgt := 276) dX9_throwOver_269 (by decide) rfl (fun z269 => ?_) (fun z269 => ?_)
                                                · skip
                                                  refine hk_iinc dX9_throwOver_276 rfl rfl (nI_1 _) (by decide) rfl ?_
                                                  refine hk_goto (tgt := 220) dX9_throwOver_279 (by decide) ?_
                                                  have ih4 := ih220 (n + 1) (by omega) (by omega)
                                                  first | (rw [ho_b1 (S := S) (g := a) (n := n) z232] at ih4; exact ih4) | (rw [ho_b2 (S := S) (g := a) (n := n) z232 z240] at ih4; exact ih4) | (rw [ho_b3 (S := S) (g := a) (n := n) z232 z240 hb] at ih4; exact ih4) | (rw [ho_b4 (S := S) (g := a) (n := n) z232 z240 hb z269] at ih4; exact ih4) | (rw [ho_b5 (S := S) (g := a) (n := n) z232 z240 hb z269] at ih4; exact ih4)
                                                · skip
                                                  refine hk_iload dX9_throwOver_272 rfl rfl ?_
                                                  refine hk_istore dX9_throwOver_274 rfl (by decide) rfl ?_
                                                  refine hk_iinc dX9_throwOver_276 rfl rfl (nI_1 _) (by decide) rfl ?_
                                                  refine hk_goto (tgt := 220) dX9_throwOver_279 (by decide) ?_
                                                  have ih4 := ih220 (n + 1) (by omega) (by omega)
                                                  first | (rw [ho_b1 (S := S) (g := a) (n := n) z232] at ih4; exact ih4) | (rw [ho_b2 (S := S) (g := a) (n := n) z232 z240] at ih4; exact ih4) | (rw [ho_b3 (S := S) (g := a) (n := n) z232 z240 hb] at ih4; exact ih4) | (rw [ho_b4 (S := S) (g := a) (n := n) z232 z240 hb z269] at ih4; exact ih4) | (rw [ho_b5 (S := S) (g := a) (n := n) z232 z240 hb z269] at ih4; exact ih4)
                                  exact lp220 (6 + 1) 0 (by omega) (by omega)
                            have ej2 : j = 6 := (by omega)
                            rw [ej2] at c1
                            rw [ej2, hlL]
                            exact lp209 (L + 1) 0 gg _ _ (by omega) (by omega) hk3 c1 c2 x3
                          · skip
                            refine hk_aload dX9_throwOver_178 rfl rfl ?_
                            refine hk_iload dX9_throwOver_180 rfl rfl ?_
                            refine hk_iload_n dX9_throwOver_182 rfl rfl rfl ?_
                            refine hk_aload dX9_throwOver_183 rfl rfl ?_
                            refine hk_iload dX9_throwOver_185 rfl rfl ?_
                            refine hx_iald dX9_throwOver_187 rfl (hm_g18 hk3 (by omega)) (show _ < 6 by omega) (by decide) ?_
                            refine cx_top (if_pos (by omega)) ?_
                            refine hk_imul dX9_throwOver_188 rfl ?_
                            refine hk_iload dX9_throwOver_189 rfl rfl ?_
                            refine hk_idiv dX9_throwOver_191 rfl hs0 ?_
                            refine hx_iast dX9_throwOver_192 rfl (hm_gnd hk3 c1) (show _ < 6 by omega) (by decide) ?_
                            refine hx_cg (show _ = hm_h G S M0 A (hk_set gg w1 (.inl (0, 6, .inl (ho_f S a (nI k2) (nI s) (j + 1))))) from (hm_sg hk3 c1).2) ?_
                            have hk4 := (hm_sg (G := G) (x := .inl (0, 6, .inl (ho_f S a (nI k2) (nI s) (j + 1)))) hk3 c1).1
                            refine hk_iload dX9_throwOver_193 rfl rfl ?_
                            refine hk_aload dX9_throwOver_195 rfl rfl ?_
                            refine hk_iload dX9_throwOver_197 rfl rfl ?_
                            refine hx_iald dX9_throwOver_199 rfl (hm_gnd hk4 hk_set_eq) (show _ < 6 by omega) (by decide) ?_
                            refine cx_top (show _ = nI k2 * S.1 27 (a * 6 + j) / nI s from if_pos rfl) ?_
                            refine hk_isub dX9_throwOver_200 rfl ?_
                            refine cx_top (ho_l_s S a (nI k2) (nI s) j).symm ?_
                            refine hk_istore dX9_throwOver_201 rfl (by decide) rfl ?_
                            refine hk_iinc dX9_throwOver_203 rfl rfl (nI_1 _) (by decide) rfl ?_
                            refine hk_goto (tgt := 171) dX9_throwOver_206 (by decide) ?_
                            exact ih171 (j + 1) _ (by omega) (by omega) hk4 hk_set_eq (by rw [hk_set_ne (Ne.symm hne)]; exact c2) (x3.st g1n)
                      refine hk_bud (Nat.zero_le _) (Nat.zero_le _) (lp171 (6 + 1) 0 gg (by omega) (by omega) hk2 c1 c2 x2)
                    · exact absurd z148 (by decide)
                  · skip
                    refine hk_iconst (v := nI 4) dX9_throwOver_140 rfl (by decide) ?_
                    refine hk_goto (tgt := 145) dX9_throwOver_141 (by decide) ?_
                    refine hk_callV dX9_throwOver_145 rfl mv_X9_80 (cm_isWrong (k := 4) hfl (by decide) hk) rfl rfl (hm_g0 hk) rfl rfl (by decide) ⟨Nat.zero_le _, Nat.zero_le _⟩ (Nat.le_of_ble_eq_true rfl) (hk_ki fun v h1 q => ?_) hk_nx
                    obtain ⟨rfl, rfl⟩ := q
                    try rw [hm_mt_mt]
                    refine cx_ifb_eq (tgt := 153) dX9_throwOver_148 (by decide) rfl (fun z148 => ?_) (fun z148 => ?_)
                    · exact absurd z148 (by decide)
                    · skip
                      refine hk_iconst (v := nI 0) dX9_throwOver_151 rfl (by decide) ?_
                      exact hk_ireturn rfl (rfl) dX9_throwOver_152 (by have e : cd_throwOver S c (nI a) (nI b2) (nI k2) = 4 := (by unfold cd_throwOver; rw [cs_sq_0 f7, cs_sq_0 f15, cs_sq_0 f29, vaa, vab2]; rw [cs_sq_0 (ho_an0 z126).1, cs_sq_0 (ho_an0 z126).2]; exact if_pos z137); exact ⟨_, rfl, g, hm_x.rf, Or.inr ⟨by rw [e]; decide, A, hm_mt M (nI 4), rfl, by rw [e]; exact hm_mt0, ok, hk, rfl⟩⟩)
                · skip
                  refine hk_iconst (v := nI 3) dX9_throwOver_129 rfl (by decide) ?_
                  refine hk_goto (tgt := 145) dX9_throwOver_130 (by decide) ?_
                  refine hk_callV dX9_throwOver_145 rfl mv_X9_80 (cm_isWrong (k := 3) hfl (by decide) hk) rfl rfl (hm_g0 hk) rfl rfl (by decide) ⟨Nat.zero_le _, Nat.zero_le _⟩ (Nat.le_of_ble_eq_true rfl) (hk_ki fun v h1 q => ?_) hk_nx
                  obtain ⟨rfl, rfl⟩ := q
                  try rw [hm_mt_mt]
                  refine cx_ifb_eq (tgt := 153) dX9_throwOver_148 (by decide) rfl (fun z148 => ?_) (fun z148 => ?_)
                  · exact absurd z148 (by decide)
                  · skip
                    refine hk_iconst (v := nI 0) dX9_throwOver_151 rfl (by decide) ?_
                    exact hk_ireturn rfl (rfl) dX9_throwOver_152 (by have e : cd_throwOver S c (nI a) (nI b2) (nI k2) = 3 := (by unfold cd_throwOver; rw [cs_sq_0 f7, cs_sq_0 f15, cs_sq_0 f29, vaa, vab2]; exact ho_an3 z126 _); exact ⟨_, rfl, g, hm_x.rf, Or.inr ⟨by rw [e]; decide, A, hm_mt M (nI 3), rfl, by rw [e]; exact hm_mt0, ok, hk, rfl⟩⟩)
              · skip
                refine hk_iload dX9_throwOver_80 rfl rfl ?_
                refine hk_aload dX9_throwOver_82 rfl rfl ?_
                refine hk_iload dX9_throwOver_84 rfl rfl ?_
                refine hx_iald dX9_throwOver_86 rfl (hm_g18 hk (by omega)) (show _ < 6 by omega) (by decide) ?_
                refine cx_top (if_pos (by omega)) ?_
                refine hk_if_le (tgt := 103) dX9_throwOver_87 (by decide) rfl (fun z87 => ?_) (fun z87 => ?_)
                · skip
                  refine hk_iconst (v := nI 0) dX9_throwOver_103 rfl (by decide) ?_
                  refine hk_ior dX9_throwOver_104 rfl ?_
                  refine cx_top (show _ = cx_b (ho_any S a b2 (j + 1)) from by first | exact ho_an_z (ho_Ss0 hXX (by omega) z87) | exact ho_an_z (ho_SsO f96 z87) | exact ho_an_f (ho_SsO f96 z87)) ?_
                  refine hk_istore dX9_throwOver_105 rfl (by decide) rfl ?_
                  refine hk_iload dX9_throwOver_107 rfl rfl ?_
                  refine hk_aload dX9_throwOver_109 rfl rfl ?_
                  refine hk_iload dX9_throwOver_111 rfl rfl ?_
                  refine hx_iald dX9_throwOver_113 rfl (hm_g18 hk (by omega)) (show _ < 6 by omega) (by decide) ?_
                  refine cx_top (if_pos (by omega)) ?_
                  refine hk_iadd dX9_throwOver_114 rfl ?_
                  refine cx_top (cs_va_s S a j).symm ?_
                  refine hk_istore dX9_throwOver_115 rfl (by decide) rfl ?_
                  refine hk_iinc dX9_throwOver_117 rfl rfl (nI_1 _) (by decide) rfl ?_
                  refine hk_goto (tgt := 66) dX9_throwOver_120 (by decide) ?_
                  exact ih66 (j + 1) (by omega) (by omega)
                · skip
                  refine hk_aload_n dX9_throwOver_90 rfl rfl rfl ?_
                  refine hk_iload dX9_throwOver_91 rfl rfl ?_
                  refine hk_callV dX9_throwOver_93 rfl mv_X9_91 (cm_hasFailed hfl hk ok (by omega)) rfl rfl (hm_g0 hk) rfl rfl (by decide) ⟨Nat.zero_le _, Nat.zero_le _⟩ (Nat.le_of_ble_eq_true rfl) (hk_ki fun v h1 q => ?_) hk_nx
                  obtain ⟨rfl, rfl⟩ := q
                  refine cx_ifb_eq (tgt := 103) dX9_throwOver_96 (by decide) rfl (fun z96 => ?_) (fun z96 => ?_)
                  · have f96 : cd_O (S) j = 0 := Decidable.of_not_not (of_decide_eq_false z96)
                    refine hk_iconst (v := nI 0) dX9_throwOver_103 rfl (by decide) ?_
                    refine hk_ior dX9_throwOver_104 rfl ?_
                    refine cx_top (show _ = cx_b (ho_any S a b2 (j + 1)) from by first | exact ho_an_z (ho_Ss0 hXX (by omega) z87) | exact ho_an_z (ho_SsO f96 z87) | exact ho_an_f (ho_SsO f96 z87)) ?_
                    refine hk_istore dX9_throwOver_105 rfl (by decide) rfl ?_
                    refine hk_iload dX9_throwOver_107 rfl rfl ?_
                    refine hk_aload dX9_throwOver_109 rfl rfl ?_
                    refine hk_iload dX9_throwOver_111 rfl rfl ?_
                    refine hx_iald dX9_throwOver_113 rfl (hm_g18 hk (by omega)) (show _ < 6 by omega) (by decide) ?_
                    refine cx_top (if_pos (by omega)) ?_
                    refine hk_iadd dX9_throwOver_114 rfl ?_
                    refine cx_top (cs_va_s S a j).symm ?_
                    refine hk_istore dX9_throwOver_115 rfl (by decide) rfl ?_
                    refine hk_iinc dX9_throwOver_117 rfl rfl (nI_1 _) (by decide) rfl ?_
                    refine hk_goto (tgt := 66) dX9_throwOver_120 (by decide) ?_
                    exact ih66 (j + 1) (by omega) (by omega)
                  · have f96 : cd_O (S) j = 3 := cd_O_3 (of_decide_eq_true z96)
                    refine hk_iconst (v := nI 1) dX9_throwOver_99 rfl (by decide) ?_
                    refine hk_goto (tgt := 104) dX9_throwOver_100 (by decide) ?_
                    refine hk_ior dX9_throwOver_104 rfl ?_
                    refine cx_top (show _ = cx_b (ho_any S a b2 (j + 1)) from by first | exact ho_an_z (ho_Ss0 hXX (by omega) z87) | exact ho_an_z (ho_SsO f96 z87) | exact ho_an_f (ho_SsO f96 z87)) ?_
                    refine hk_istore dX9_throwOver_105 rfl (by decide) rfl ?_
                    refine hk_iload dX9_throwOver_107 rfl rfl ?_
                    refine hk_aload dX9_throwOver_109 rfl rfl ?_
                    refine hk_iload dX9_throwOver_111 rfl rfl ?_
                    refine hx_iald dX9_throwOver_113 rfl (hm_g18 hk (by omega)) (show _ < 6 by omega) (by decide) ?_
                    refine cx_top (if_pos (by omega)) ?_
                    refine hk_iadd dX9_throwOver_114 rfl ?_
                    refine cx_top (cs_va_s S a j).symm ?_
                    refine hk_istore dX9_throwOver_115 rfl (by decide) rfl ?_
                    refine hk_iinc dX9_throwOver_117 rfl rfl (nI_1 _) (by decide) rfl ?_
                    refine hk_goto (tgt := 66) dX9_throwOver_120 (by decide) ?_
                    exact ih66 (j + 1) (by omega) (by omega)
          exact lp66 (c + 1) 0 (by omega) (by omega)
        · exact absurd z40 (by decide)
      · have f29 : cd_R v2 99 = 2 := cd_R_2 (of_decide_eq_false z29)
        refine hk_iconst (v := nI 2) dX9_throwOver_32 rfl (by decide) ?_
        refine hk_goto (tgt := 37) dX9_throwOver_33 (by decide) ?_
        refine hk_callV dX9_throwOver_37 rfl mv_X9_80 (cm_isWrong (k := 2) hfl (by decide) hk) rfl rfl (hm_g0 hk) rfl rfl (by decide) ⟨Nat.zero_le _, Nat.zero_le _⟩ (Nat.le_of_ble_eq_true rfl) (hk_ki fun v h1 q => ?_) hk_nx
        obtain ⟨rfl, rfl⟩ := q
        try rw [hm_mt_mt]
        refine cx_ifb_eq (tgt := 45) dX9_throwOver_40 (by decide) rfl (fun z40 => ?_) (fun z40 => ?_)
        · exact absurd z40 (by decide)
        · skip
          refine hk_iconst (v := nI 0) dX9_throwOver_43 rfl (by decide) ?_
          exact hk_ireturn rfl (rfl) dX9_throwOver_44 (by have e : cd_throwOver S c (nI a) (nI b2) v2 = 2 := (by simp [cd_throwOver, cs_sq, f7, vaa, f15, vab2, f29]); exact ⟨_, rfl, g, hm_x.rf, Or.inr ⟨by rw [e]; decide, A, hm_mt M (nI 2), rfl, by rw [e]; exact hm_mt0, ok, hk, rfl⟩⟩)
    · have f15 : cd_H c v1 = 1 := cd_H_1 (of_decide_eq_false z15)
      refine hk_iconst (v := nI 1) dX9_throwOver_18 rfl (by decide) ?_
      refine hk_goto (tgt := 37) dX9_throwOver_19 (by decide) ?_
      refine hk_callV dX9_throwOver_37 rfl mv_X9_80 (cm_isWrong (k := 1) hfl (by decide) hk) rfl rfl (hm_g0 hk) rfl rfl (by decide) ⟨Nat.zero_le _, Nat.zero_le _⟩ (Nat.le_of_ble_eq_true rfl) (hk_ki fun v h1 q => ?_) hk_nx
      obtain ⟨rfl, rfl⟩ := q
      try rw [hm_mt_mt]
      refine cx_ifb_eq (tgt := 45) dX9_throwOver_40 (by decide) rfl (fun z40 => ?_) (fun z40 => ?_)
      · exact absurd z40 (by decide)
      · skip
        refine hk_iconst (v := nI 0) dX9_throwOver_43 rfl (by decide) ?_
        exact hk_ireturn rfl (rfl) dX9_throwOver_44 (by have e : cd_throwOver S c (nI a) v1 v2 = 1 := (by simp [cd_throwOver, cs_sq, f7, vaa, f15]); exact ⟨_, rfl, g, hm_x.rf, Or.inr ⟨by rw [e]; decide, A, hm_mt M (nI 1), rfl, by rw [e]; exact hm_mt0, ok, hk, rfl⟩⟩)
end CM16

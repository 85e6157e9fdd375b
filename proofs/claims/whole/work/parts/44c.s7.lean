section SX
variable {S S' : hs_S} {c nc nb i B : Nat}
theorem fp_m {a b : Nat} (hb0 : b ≠ 0) (hb : b < 91) (ha : a ≤ 9 * b) : vf_n64 (FP.ddiv (FP.i2d (nI a)) (FP.i2d (nI b))) := by
  rcases (show b < 45 ∨ (45 ≤ b ∧ b < 64) ∨ (64 ≤ b ∧ b < 79) ∨ (79 ≤ b ∧ b < 91) by omega) with h | ⟨g, h⟩ | ⟨g, h⟩ | ⟨g, h⟩
  · exact (fp_m0 b (by omega)).resolve_left (by omega) a (by omega)
  · have := (fp_m1 (b - 45) (by omega)).resolve_left (by omega) a (by omega)
    rw [show b - 45 + 45 = b by omega] at this
    exact this
  · have := (fp_m2 (b - 64) (by omega)).resolve_left (by omega) a (by omega)
    rw [show b - 64 + 64 = b by omega] at this
    exact this
  · have := (fp_m3 (b - 79) (by omega)).resolve_left (by omega) a (by omega)
    rw [show b - 79 + 79 = b by omega] at this
    exact this
theorem lg_le : ∀ n, hs_lg S n ≤ n
  | 0 => Nat.le_refl _
  | n + 1 => by
    have := lg_le n
    rw [hs_lg_s]
    split
    · omega
    · split <;> omega
theorem ls_n {S : hs_S} {c nc nb i : Nat} (hj : hJ S c nc nb i) : ¬ cs_unm S nc = 0 → vf_n32 (FP.fdiv (FP.i2f (nI (cs_lsh S nc 2))) (FP.i2f (nI (cs_unm S nc)))) ∧ vf_n64 (FP.f2d (FP.fdiv (FP.i2f (nI (cs_lsh S nc 2))) (FP.i2f (nI (cs_unm S nc))))) := fun h => by
  have hnc := hj.2.1.2.1
  have h1 := cs_unm_le S nc
  have h2 := lg_le (S := S) nc
  rw [ls_e hj] at h2
  exact (fp_a (cs_unm S nc) (by omega)).resolve_left h (cs_lsh S nc 2) (by omega)
theorem wt_b (hC : mi_C S c nc) (hc : c ≤ 6) : ∀ n, n ≤ nc → ∃ w : Nat, hs_wt S n = nI w ∧ w ≤ 9 * cs_unm S n
  | 0, _ => ⟨0, rfl, Nat.zero_le _⟩
  | n + 1, h => by
    obtain ⟨w, w1, w2⟩ := wt_b hC hc n (by omega)
    obtain ⟨m, x, h1, h2, h3, h4, h5⟩ := hC n (by omega)
    rw [hs_wt_s, cs_unm_s, w1, h4, nI_add]
    rcases h5 with ⟨rfl, h5⟩ | ⟨h5, a, h6, h7⟩
    · rw [if_pos h5]
      exact ⟨w + 0, rfl, by omega⟩
    · rw [if_neg (by rw [h7]; exact cx_ne1 (by omega))]
      exact ⟨w + x, rfl, by omega⟩
theorem mw_n {S : hs_S} {c nc nb i : Nat} (hj : hJ S c nc nb i) (hi : i < 512) : ¬ cs_unm S nc = 0 → vf_n64 (FP.ddiv (FP.i2d (cs_woa S 0 nc + cs_woa S 1 nc)) (FP.i2d (nI (cs_unm S nc)))) := fun h => by
  have hnc := hj.2.1.2.1
  have h1 := cs_unm_le S nc
  obtain ⟨w, w1, w2⟩ := wt_b hj.C hj.c6.2 nc (Nat.le_refl _)
  rw [← wt_e hj, w1]
  exact fp_m h (by omega) w2
theorem st_lightShare {S : hs_S} {c nc nb i : Nat} (hj : hJ S c nc nb i) (hi : i < 512) (z : cd_U S nc = 0) : hm_q (S) (S) ∧ hJ (S) (c) (nc) (nb) (i + 1) ∧ FP.fdiv (FP.i2f (nI (cs_lsh S nc 2))) (FP.i2f (nI (cs_unm S nc))) = FP.fdiv (FP.i2f (nI (hs_lg S nc))) (FP.i2f (nI (hs_al S nc))) :=
  ⟨hm_q.rf, hj.up (Nat.le_succ i), by rw [ls_e hj, al_e hj]⟩
theorem st_meanWeight {S : hs_S} {c nc nb i : Nat} (hj : hJ S c nc nb i) (hi : i < 512) (z : cd_U S nc = 0) : hm_q (S) (S) ∧ hJ (S) (c) (nc) (nb) (i + 1) ∧ FP.ddiv (FP.i2d (cs_woa S 0 nc + cs_woa S 1 nc)) (FP.i2d (nI (cs_unm S nc))) = FP.ddiv (FP.i2d (hs_wt S nc)) (FP.i2d (nI (hs_al S nc))) :=
  ⟨hm_q.rf, hj.up (Nat.le_succ i), by rw [wt_e hj, al_e hj]⟩
-- wealth
theorem nI_L {k : Nat} (h : k + 1 < 2 ^ 31) : (nI (k + 1)).toInt64 = (nI k).toInt64 + 1 := by
  apply Int64.toInt_inj.mp
  rw [Int32.toInt_toInt64, nI_toInt h, Int64.toInt_add, Int32.toInt_toInt64, nI_toInt (by omega), show (1 : Int64).toInt = 1 from by decide]
  have : ((k : Int) + 1).bmod (2 ^ 64) = (k : Int) + 1 := Int.bmod_eq_of_le (by omega) (by omega)
  rw [this]
  omega
theorem own_le {a m : Nat} : ∀ n, cs_owned S a m n ≤ n
  | 0 => Nat.le_refl _
  | n + 1 => by
    have := own_le (a := a) (m := m) n
    rw [cs_owned_s]
    split
    · split <;> omega
    · omega
theorem wl_e {a : Nat} (hC : mi_C S c nc) (hn : nc ≤ 90) : ∀ n, n ≤ nc → hs_wl S a n = (nI (cs_owned S a 0 n)).toInt64 * (S.1 9 0).toInt64 + (nI (cs_owned S a 1 n)).toInt64 * (S.1 9 1).toInt64
  | 0, _ => by
    show (0 : Int64) = (nI 0).toInt64 * _ + (nI 0).toInt64 * _
    rw [show (nI 0).toInt64 = 0 from by decide, Int64.zero_mul, Int64.zero_mul, Int64.add_zero]
  | n + 1, h => by
    obtain ⟨m, x, h1, h2, h3, h4, h5⟩ := hC n (by omega)
    have l0 := own_le (S := S) (a := a) (m := 0) n
    have l1 := own_le (S := S) (a := a) (m := 1) n
    rw [hs_wl_s, cs_owned_s, cs_owned_s, wl_e hC hn n (by omega)]
    by_cases q : S.1 15 n = nI a
    · rw [if_pos q, if_pos q, if_pos q, h3, vN_nI (by omega)]
      rcases (show m = 0 ∨ m = 1 by omega) with rfl | rfl
      · rw [if_pos rfl, if_neg (show ¬ nI 0 = nI 1 by decide), nI_L (by omega), Int64.add_mul, Int64.one_mul]
        ac_rfl
      · rw [if_neg (show ¬ nI 1 = nI 0 by decide), if_pos rfl, nI_L (by omega), Int64.add_mul, Int64.one_mul]
        ac_rfl
    · rw [if_neg q, if_neg q, if_neg q, Int64.add_zero]
theorem st_wealth {S : hs_S} {c nc nb i : Nat} {v0 : Int32} (hj : hJ S c nc nb i) (hi : i < 512) (z : cd_H c v0 = 0) : hm_q (S) (S) ∧ hJ (S) (c) (nc) (nb) (i + 1) ∧ cs_wf S (vN v0) nc 2 + cs_sof S (vN v0) 6 - cs_son S (vN v0) 6 = hs_wm S (vN v0) nc 6 := by
  refine ⟨hm_q.rf, hj.up (Nat.le_succ i), ?_⟩
  have hw := wl_e (a := vN v0) hj.C hj.2.1.2.1 nc (Nat.le_refl _)
  simp only [hs_wm, cs_wf, cs_sof, cs_son, cx_it, hw, Int64.zero_add, Int64.sub_eq_add_neg, Int64.neg_add]
  ac_rfl
-- a number is itself
theorem nar_u {w u : Int32} (e : (w.toUInt32 % 65536).toInt32 = u) : narrow .char (.int u) = .int u := by
  subst e
  have h : (w.toUInt32 % 65536).toInt32 = nI (w.toUInt32.toNat % 65536) := by
    apply Int32.toBitVec_inj.1
    apply BitVec.eq_of_toNat_eq
    show (w.toUInt32 % 65536).toNat = (BitVec.ofNat 32 (w.toUInt32.toNat % 65536)).toNat
    rw [UInt32.toNat_mod, BitVec.toNat_ofNat]
    show w.toUInt32.toNat % 65536 = _
    omega
  rw [h]
  exact nar_ch (Nat.mod_lt _ (by decide))
end SX
section SJ
theorem hs_T_z : ∀ n, hs_T (fun _ => (0 : Int32)) n = 0
  | 0 => rfl
  | n + 1 => by
    rw [hs_T_s, hs_T_z n, show vN (0 : Int32) = 0 from vN_nI (a := 0) (by decide)]
theorem z8 (a : Nat) : cs_S0.1 8 a = upd (fun _ => (0 : Int32)) 0 (nI 1) a := rfl
theorem z7 (a : Nat) : cs_S0.1 7 a = upd (fun _ => (0 : Int32)) 0 (nI 99) a := rfl
theorem hJ0 : hJ cs_S0 1 0 0 0 := by
  have z19 : cs_S0.1 19 = fun _ => (0 : Int32) := rfl
  have z12 : cs_S0.1 12 = fun _ => (0 : Int32) := rfl
  have z11 : cs_S0.1 11 = fun _ => (0 : Int32) := rfl
  have z27 : cs_S0.1 27 = fun _ => (0 : Int32) := rfl
  have z26 : cs_S0.1 26 = fun _ => (0 : Int32) := rfl
  have z16 : cs_S0.1 16 = fun _ => (0 : Int32) := rfl
  have z17 : cs_S0.1 17 = fun _ => (0 : Int32) := rfl
  have z33 : cs_S0.1 33 = fun _ => (0 : Int32) := rfl
  have e0 : (0 : Int32) = nI 0 := rfl
  refine ⟨⟨rfl, by omega, by omega, rfl, rfl, fun a => ?_, fun a => ?_, fun a ha => ?_⟩, ⟨rfl, by omega, fun j hj => absurd hj (Nat.not_lt_zero j), fun j _ => by rw [z16], fun j => Or.inl (by rw [z17]; rfl), fun j hj => absurd hj (Nat.not_lt_zero j)⟩, fun m hm => ?_, ⟨fun k _ => ?_, fun m hm => ?_⟩, ⟨fun k _ => ?_, ?_, fun a _ => ?_, fun a q _ _ _ => ?_⟩, ⟨rfl, by omega, fun j hj => absurd hj (Nat.not_lt_zero j), fun j hj => absurd hj (Nat.not_lt_zero j), fun j hj => absurd hj (Nat.not_lt_zero j), fun j _ => by rw [z26], 0, by omega, by rw [z33]; rfl, fun j hj => absurd hj (Nat.not_lt_zero j)⟩, fun v a _ _ => ⟨0, by omega, by rw [z27]; rfl, fun _ => rfl⟩⟩
  · rw [z8]
    by_cases e : a = 0
    · exact Or.inr (by rw [e]; exact if_pos rfl)
    · exact Or.inl (by rw [pk_un e]; rfl)
  · rw [z7]
    by_cases e : a = 0
    · exact ⟨99, by decide, by rw [e]; exact if_pos rfl⟩
    · exact ⟨0, by decide, by rw [pk_un e]; rfl⟩
  · rw [z8, pk_un (by omega)]; rfl
  · rcases (show m = 0 ∨ m = 1 by omega) with rfl | rfl
    · exact ⟨⟨10, by decide, rfl⟩, 5, by decide, by decide, rfl⟩
    · exact ⟨⟨1, by decide, rfl⟩, 5, by decide, by decide, rfl⟩
  · rw [z12]; show ¬ (0 : Int32) < 0; decide
  · have e1 : hs_oT cs_S0 m = 0 := by
      unfold hs_oT
      rw [z12]
      exact hs_T_z 6
    rw [e1, hs_wT_0, z11]
    exact ⟨rfl, by omega⟩
  · rw [z19]; show ¬ (0 : Int32) < 0; decide
  · rw [z19, hs_T_z]; omega
  · rw [z19]; rfl
  · rw [z19]; rfl
end SJ

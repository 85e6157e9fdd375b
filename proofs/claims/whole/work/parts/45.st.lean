def hs_tho (S : hs_S) (v0 v1 v2 : Int32) : hs_S := cs_throwOver S v0 v1 v2
def hs_thr (S : hs_S) (v0 v1 v2 : Int32) : Int32 := (cs_throwOver S v0 v1 v2).1 28 (vN v1)
theorem rc_O {S : hs_S} {c nc nb i : Nat} (hj : hJ S c nc nb i) (hi : i < 512) : ∀ a m, a < 6 → m < 2 → ∃ x : Nat, x < 2 ^ 31 ∧ (hs_rcl a m S nc).1 12 (a * 2 + m) = nI x := by
  sorry
theorem sn_1 {S : hs_S} {c nc nb i : Nat} (hj : hJ S c nc nb i) : ∀ j, j < 6 → ¬ cs_lst S j 5 < 0 := by
  sorry
theorem sn_2 {S : hs_S} {c nc nb i : Nat} (hj : hJ S c nc nb i) : ∀ j, j < 6 → S.1 8 j = 0 → cs_sof S j 6 = 0 ∧ cs_son S j 6 = 0 := by
  sorry
theorem sn_3 {S : hs_S} {c nc nb i : Nat} (hj : hJ S c nc nb i) : cs_sumof S 6 = cs_sumon S 6 := by
  sorry
theorem sn_w {S : hs_S} {c nc nb i m : Nat} (hj : hJ S c nc nb i) (hm : m < 2) : S.1 11 m = cs_oal S m 6 + cs_woa S m nc := by
  sorry
theorem sn_g {S : hs_S} {c nc nb i : Nat} (hj : hJ S c nc nb i) : cs_wg S nc = true := by
  sorry
theorem to_z {S : hs_S} {c nc nb i : Nat} {v0 v1 v2 : Int32} (hj : hJ S c nc nb i) (hi : i < 512) : cd_throwOver S c v0 v1 v2 = 0 → ¬ cs_va S (vN v0) 6 = 0 ∧ ∃ L, L ≤ 6 ∧ (cs_p1 (vN v0) v2 (cs_va S (vN v0) 6) S 6).2 = nI L := by
  sorry
theorem ls_n {S : hs_S} {c nc nb i : Nat} (hj : hJ S c nc nb i) : ¬ cs_unm S nc = 0 → vf_n32 (FP.fdiv (FP.i2f (nI (cs_lsh S nc 2))) (FP.i2f (nI (cs_unm S nc)))) ∧ vf_n64 (FP.f2d (FP.fdiv (FP.i2f (nI (cs_lsh S nc 2))) (FP.i2f (nI (cs_unm S nc))))) := by
  sorry
theorem mw_n {S : hs_S} {c nc nb i : Nat} (hj : hJ S c nc nb i) (hi : i < 512) : ¬ cs_unm S nc = 0 → vf_n64 (FP.ddiv (FP.i2d (cs_woa S 0 nc + cs_woa S 1 nc)) (FP.i2d (nI (cs_unm S nc)))) := by
  sorry
theorem ls_e {S : hs_S} {c nc nb i : Nat} (hj : hJ S c nc nb i) : hs_lg S nc = cs_lsh S nc 2 := by
  sorry
theorem al_e {S : hs_S} {c nc nb i : Nat} (hj : hJ S c nc nb i) : hs_al S nc = cs_unm S nc := by
  sorry
theorem wt_e {S : hs_S} {c nc nb i : Nat} (hj : hJ S c nc nb i) : hs_wt S nc = cs_woa S 0 nc + cs_woa S 1 nc := by
  sorry
theorem st_addHouse {S : hs_S} {c nc nb i : Nat} {v0 : Int32} (hj : hJ S c nc nb i) (hi : i < 512) (z : cd_addHouse c v0 = 0) : hm_q (cs_open S c v0) (cs_open S c v0) ∧ hJ (cs_open S c v0) (c + 1) (nc) (nb) (i + 1) ∧ nI c = nI c := by
  sorry
theorem st_kindOf {S : hs_S} {c nc nb i : Nat} {v0 : Int32} (hj : hJ S c nc nb i) (hi : i < 512) (z : cd_H c v0 = 0) : hm_q (S) (S) ∧ hJ (S) (c) (nc) (nb) (i + 1) ∧ cs_kindOf S (vN v0) = cs_kindOf S (vN v0) := by
  sorry
theorem st_dig {S : hs_S} {c nc nb i : Nat} {v0 v1 v2 : Int32} (hj : hJ S c nc nb i) (hi : i < 512) (z : cd_dig S c v0 v1 v2 = 0) : hm_q (cs_dig S v0 v1 v2) (cs_dig S v0 v1 v2) ∧ hJ (cs_dig S v0 v1 v2) (c) (nc) (nb) (i + 1) ∧ (cs_dig S v0 v1 v2).1 12 (vN v0 * 2 + cs_m v1) = (cs_dig S v0 v1 v2).1 12 (vN v0 * 2 + cs_m v1) := by
  sorry
theorem st_decree {S : hs_S} {c nc nb i : Nat} {v0 v1 v2 : Int32} (hj : hJ S c nc nb i) (hi : i < 512) (z : cd_decree v0 v1 v2 = 0) : hm_q (cs_decree S v0 v1 v2) (cs_decree S v0 v1 v2) ∧ hJ (cs_decree S v0 v1 v2) (c) (nc) (nb) (i + 1) ∧ nI 100 * S.1 9 (cs_m v0) + S.1 10 (cs_m v0) = nI 100 * S.1 9 (cs_m v0) + S.1 10 (cs_m v0) := by
  sorry
theorem st_mint {S : hs_S} {c nc nb i : Nat} {v0 v1 v2 : Int32} (hj : hJ S c nc nb i) (hi : i < 512) (z : cd_mint S c nc v0 v1 v2 = 0) : hm_q (cs_mn (vN v0) (cs_m v1) nc S (vN v2)) (cs_mint S nc v0 v1 v2) ∧ hJ (cs_mint S nc v0 v1 v2) (c) (nc + vN v2) (nb) (i + 1) ∧ nI nc = nI nc := by
  sorry
theorem st_clip {S : hs_S} {c nc nb i : Nat} {v0 v1 : Int32} (hj : hJ S c nc nb i) (hi : i < 512) (z : cd_clip S nc v0 v1 = 0) : hm_q (cs_clip S v0 v1) (cs_clip S v0 v1) ∧ hJ (cs_clip S v0 v1) (c) (nc) (nb) (i + 1) ∧ (cs_clip S v0 v1).1 14 (vN v0) = (cs_clip S v0 v1).1 14 (vN v0) := by
  sorry
theorem st_hoard {S : hs_S} {c nc nb i : Nat} {v0 v1 : Int32} (hj : hJ S c nc nb i) (hi : i < 512) (hq : v1 = nI 0 ∨ v1 = nI 1) (z : cd_hoard S nc v0 = 0) : hm_q (hs_su S 17 (vN v0) v1) (hs_su S 17 (vN v0) v1) ∧ hJ (hs_su S 17 (vN v0) v1) (c) (nc) (nb) (i + 1) ∧ S.1 17 (vN v0) = S.1 17 (vN v0) := by
  sorry
theorem st_recoin {S : hs_S} {c nc nb i : Nat} {v0 v1 : Int32} (hj : hJ S c nc nb i) (hi : i < 512) (z : cd_recoin S c v0 v1 = 0) : hm_q (cs_mn (vN v0) (cs_m v1) nc (hs_rcl (vN v0) (cs_m v1) S nc) (hs_rk S (vN v0) (cs_m v1) nc)) ((cs_recoin S nc v0 v1).1) ∧ hJ ((cs_recoin S nc v0 v1).1) (c) (nc + hs_rk S (vN v0) (cs_m v1) nc) (nb) (i + 1) ∧ nI (cs_recoin S nc v0 v1).2 = nI (hs_rk S (vN v0) (cs_m v1) nc) := by
  sorry
theorem st_pay {S : hs_S} {c nc nb i : Nat} {v0 v1 v2 v3 : Int32} (hj : hJ S c nc nb i) (hi : i < 512) (z : cd_pay S c nc v0 v1 v2 v3 = 0) : hm_q ((cs_pay S nc v0 v1 v2 v3).1) ((cs_pay S nc v0 v1 v2 v3).1) ∧ hJ ((cs_pay S nc v0 v1 v2 v3).1) (c) (nc) (nb) (i + 1) ∧ (cs_pay S nc v0 v1 v2 v3).2 = (cs_pay S nc v0 v1 v2 v3).2 := by
  sorry
theorem st_deposit {S : hs_S} {c nc nb i : Nat} {v0 v1 v2 v3 : Int32} (hj : hJ S c nc nb i) (hi : i < 512) (z : cd_deposit S c nc v0 v1 v2 v3 = 0) : hm_q (cs_deposit S nc v0 v1 v2 v3) (cs_deposit S nc v0 v1 v2 v3) ∧ hJ (cs_deposit S nc v0 v1 v2 v3) (c) (nc) (nb) (i + 1) ∧ (cs_deposit S nc v0 v1 v2 v3).1 19 (vN v0 * 6 + vN v1) = (cs_deposit S nc v0 v1 v2 v3).1 19 (vN v0 * 6 + vN v1) := by
  sorry
theorem st_withdraw {S : hs_S} {c nc nb i : Nat} {v0 v1 v2 v3 : Int32} (hj : hJ S c nc nb i) (hi : i < 512) (z : cd_withdraw S c v0 v1 v2 v3 = 0) : hm_q ((hs_wd S c nc (vN v0) (vN v1) (cs_m v2) (vN v3)).1) ((cs_withdraw S nc v0 v1 v2 v3).1) ∧ hJ ((cs_withdraw S nc v0 v1 v2 v3).1) (c) (nc) (nb) (i + 1) ∧ (cs_withdraw S nc v0 v1 v2 v3).2 = (hs_wd S c nc (vN v0) (vN v1) (cs_m v2) (vN v3)).2 := by
  sorry
theorem st_lend {S : hs_S} {c nc nb i : Nat} {v0 v1 v2 : Int32} (hj : hJ S c nc nb i) (hi : i < 512) (z : cd_lend S c v0 v1 v2 = 0) : hm_q (cs_lend S v0 v1 v2) (cs_lend S v0 v1 v2) ∧ hJ (cs_lend S v0 v1 v2) (c) (nc) (nb) (i + 1) ∧ (cs_lend S v0 v1 v2).1 19 (vN v1 * 6 + vN v0) = (cs_lend S v0 v1 v2).1 19 (vN v1 * 6 + vN v0) := by
  sorry
theorem st_hand {S : hs_S} {c nc nb i : Nat} {v0 v1 v2 v3 : Int32} (hj : hJ S c nc nb i) (hi : i < 512) (z : cd_hand S c v0 v1 v2 v3 = 0) : hm_q (cs_hand S v0 v1 v2 v3) (cs_hand S v0 v1 v2 v3) ∧ hJ (cs_hand S v0 v1 v2 v3) (c) (nc) (nb) (i + 1) ∧ (cs_hand S v0 v1 v2 v3).1 19 (vN v0 * 6 + vN v2) = (cs_hand S v0 v1 v2 v3).1 19 (vN v0 * 6 + vN v2) := by
  sorry
theorem st_forgive {S : hs_S} {c nc nb i : Nat} {v0 v1 v2 : Int32} (hj : hJ S c nc nb i) (hi : i < 512) (z : cd_forgive S c v0 v1 v2 = 0) : hm_q (cs_cadd S (vN v0) (vN v1) (-v2)) (cs_cadd S (vN v0) (vN v1) (-v2)) ∧ hJ (cs_cadd S (vN v0) (vN v1) (-v2)) (c) (nc) (nb) (i + 1) ∧ (cs_cadd S (vN v0) (vN v1) (-v2)).1 19 (vN v0 * 6 + vN v1) = (cs_cadd S (vN v0) (vN v1) (-v2)).1 19 (vN v0 * 6 + vN v1) := by
  sorry
theorem st_claim {S : hs_S} {c nc nb i : Nat} {v0 v1 : Int32} (hj : hJ S c nc nb i) (hi : i < 512) (z : cd_claim c v0 v1 = 0) : hm_q (S) (S) ∧ hJ (S) (c) (nc) (nb) (i + 1) ∧ S.1 19 (vN v0 * 6 + vN v1) = S.1 19 (vN v0 * 6 + vN v1) := by
  sorry
theorem st_draw {S : hs_S} {c nc nb i : Nat} {v0 v1 v2 v3 : Int32} (hj : hJ S c nc nb i) (hi : i < 512) (z : cd_draw S c nb v0 v1 v2 v3 = 0) : hm_q (cs_write S nb v0 v1 v2 v3) (cs_write S nb v0 v1 v2 v3) ∧ hJ (cs_write S nb v0 v1 v2 v3) (c) (nc) (nb + 1) (i + 1) ∧ nI nb = nI nb := by
  sorry
theorem st_endorse {S : hs_S} {c nc nb i : Nat} {v0 v1 : Int32} (hj : hJ S c nc nb i) (hi : i < 512) (z : cd_endorse S c nb v0 v1 = 0) : hm_q (cs_endorse S v0 v1) (cs_endorse S v0 v1) ∧ hJ (cs_endorse S v0 v1) (c) (nc) (nb) (i + 1) ∧ S.1 24 (vN v0) = S.1 24 (vN v0) := by
  sorry
theorem st_holderOf {S : hs_S} {c nc nb i : Nat} {v0 : Int32} (hj : hJ S c nc nb i) (hi : i < 512) (z : cd_H nb v0 = 0) : hm_q (S) (S) ∧ hJ (S) (c) (nc) (nb) (i + 1) ∧ S.1 24 (vN v0) = S.1 24 (vN v0) := by
  sorry
theorem st_addShare {S : hs_S} {c nc nb i : Nat} {v0 v1 v2 : Int32} (hj : hJ S c nc nb i) (hi : i < 512) (z : cd_addShare S c v0 v1 v2 = 0) : hm_q (cs_addShare S v0 v1 v2) (cs_addShare S v0 v1 v2) ∧ hJ (cs_addShare S v0 v1 v2) (c) (nc) (nb) (i + 1) ∧ (cs_addShare S v0 v1 v2).1 27 (vN v0 * 6 + vN v1) = (cs_addShare S v0 v1 v2).1 27 (vN v0 * 6 + vN v1) := by
  sorry
theorem st_throwOver {S : hs_S} {c nc nb i : Nat} {v0 v1 v2 : Int32} (hj : hJ S c nc nb i) (hi : i < 512) (z : cd_throwOver S c v0 v1 v2 = 0) : hm_q (hs_tho S v0 v1 v2) (cs_throwOver S v0 v1 v2) ∧ hJ (cs_throwOver S v0 v1 v2) (c) (nc) (nb) (i + 1) ∧ (cs_throwOver S v0 v1 v2).1 28 (vN v1) = hs_thr S v0 v1 v2 := by
  sorry
theorem st_coins {S : hs_S} {c nc nb i : Nat} {v0 v1 : Int32} (hj : hJ S c nc nb i) (hi : i < 512) (z : cd_HM c v0 v1 = 0) : hm_q (S) (S) ∧ hJ (S) (c) (nc) (nb) (i + 1) ∧ nI (cs_owned S (vN v0) (cs_m v1) nc) = nI (cs_owned S (vN v0) (cs_m v1) nc) := by
  sorry
theorem st_weightOf {S : hs_S} {c nc nb i : Nat} {v0 : Int32} (hj : hJ S c nc nb i) (hi : i < 512) (z : cd_H nc v0 = 0) : hm_q (S) (S) ∧ hJ (S) (c) (nc) (nb) (i + 1) ∧ S.1 14 (vN v0) = S.1 14 (vN v0) := by
  sorry
theorem st_ownerOf {S : hs_S} {c nc nb i : Nat} {v0 : Int32} (hj : hJ S c nc nb i) (hi : i < 512) (z : cd_H nc v0 = 0) : hm_q (S) (S) ∧ hJ (S) (c) (nc) (nb) (i + 1) ∧ S.1 15 (vN v0) = S.1 15 (vN v0) := by
  sorry
theorem st_owners {S : hs_S} {c nc nb i : Nat} {v0 : Int32} (hj : hJ S c nc nb i) (hi : i < 512) (z : cd_H nc v0 = 0) : hm_q (S) (S) ∧ hJ (S) (c) (nc) (nb) (i + 1) ∧ S.1 16 (vN v0) = S.1 16 (vN v0) := by
  sorry
theorem st_ore {S : hs_S} {c nc nb i : Nat} {v0 v1 : Int32} (hj : hJ S c nc nb i) (hi : i < 512) (z : cd_HM c v0 v1 = 0) : hm_q (S) (S) ∧ hJ (S) (c) (nc) (nb) (i + 1) ∧ S.1 12 (vN v0 * 2 + cs_m v1) = S.1 12 (vN v0 * 2 + cs_m v1) := by
  sorry
theorem st_wealth {S : hs_S} {c nc nb i : Nat} {v0 : Int32} (hj : hJ S c nc nb i) (hi : i < 512) (z : cd_H c v0 = 0) : hm_q (S) (S) ∧ hJ (S) (c) (nc) (nb) (i + 1) ∧ cs_wf S (vN v0) nc 2 + cs_sof S (vN v0) 6 - cs_son S (vN v0) 6 = hs_wm S (vN v0) nc 6 := by
  sorry
theorem st_lightShare {S : hs_S} {c nc nb i : Nat} (hj : hJ S c nc nb i) (hi : i < 512) (z : cd_U S nc = 0) : hm_q (S) (S) ∧ hJ (S) (c) (nc) (nb) (i + 1) ∧ FP.fdiv (FP.i2f (nI (cs_lsh S nc 2))) (FP.i2f (nI (cs_unm S nc))) = FP.fdiv (FP.i2f (nI (hs_lg S nc))) (FP.i2f (nI (hs_al S nc))) := by
  sorry
theorem st_meanWeight {S : hs_S} {c nc nb i : Nat} (hj : hJ S c nc nb i) (hi : i < 512) (z : cd_U S nc = 0) : hm_q (S) (S) ∧ hJ (S) (c) (nc) (nb) (i + 1) ∧ FP.ddiv (FP.i2d (cs_woa S 0 nc + cs_woa S 1 nc)) (FP.i2d (nI (cs_unm S nc))) = FP.ddiv (FP.i2d (hs_wt S nc)) (FP.i2d (nI (hs_al S nc))) := by
  sorry
theorem st_nextDay {S : hs_S} {c nc nb i : Nat} (hj : hJ S c nc nb i) (hi : i < 512) : hJ (cs_nd S nb).1 c nc nb (i + 1) := by
  sorry

section WF
variable {s : State} {b L : Nat} {xs : Nat → Int32}
def ws_A (s : State) : Nat → Prop := fun q => s.heap.size ≤ q
theorem ws_hA : ∀ a : Nat, a < s.heap.size → ¬ ws_A s a := fun a h => Nat.not_le.mpr h
theorem wk_J0 (hts : ∀ w ∈ lw_tbl, w.before #[Value.ref b] s = true) : ∃ (c : ClassId) (i : Nat → Nat), u_Kn s RJ0 TJ0 4 c i := u_known (n := 4) hts (fun w hw => (List.mem_filter.mp (hk_in (u_ws RJ0 TJ0 4) [475, 477, 1740, 1742] (by decide +kernel) (by decide +kernel) w hw)).1) (hts _ (List.mem_of_getElem? (i := 474) (by decide +kernel)))
theorem wk_J4 (hts : ∀ w ∈ lw_tbl, w.before #[Value.ref b] s = true) : ∃ (c : ClassId) (i : Nat → Nat), u_Kn s RJ4 TJ4 4 c i := u_known (n := 4) hts (fun w hw => (List.mem_filter.mp (hk_in (u_ws RJ4 TJ4 4) [1572, 1574, 1576, 1578] (by decide +kernel) (by decide +kernel) w hw)).1) (hts _ (List.mem_of_getElem? (i := 1552) (by decide +kernel)))
theorem wk_J6 (hts : ∀ w ∈ lw_tbl, w.before #[Value.ref b] s = true) : ∃ (c : ClassId) (i : Nat → Nat), u_Kn s RJ6 TJ6 1 c i := u_known (n := 1) hts (fun w hw => (List.mem_filter.mp (hkc_J6.2.1 w hw)).1) (hts _ (List.mem_of_getElem? (i := 1521) (by decide +kernel)))
theorem wk_J11 (hts : ∀ w ∈ lw_tbl, w.before #[Value.ref b] s = true) : ∃ (c : ClassId) (i : Nat → Nat), u_Kn s RJ11 TJ11 1 c i := u_known (n := 1) hts (fun w hw => (List.mem_filter.mp (hkc_J11.2.1 w hw)).1) (hts _ (List.mem_of_getElem? (i := 1020) (by decide +kernel)))
theorem wk_Jx00060 (hts : ∀ w ∈ lw_tbl, w.before #[Value.ref b] s = true) : ∃ (c : ClassId) (i : Nat → Nat), u_Kn s RJx00060 TJx00060 6 c i := u_known (n := 6) hts (fun w hw => (List.mem_filter.mp (hk_in (u_ws RJx00060 TJx00060 6) [463, 464, 465, 466, 467, 468] (by decide +kernel) (by decide +kernel) w hw)).1) (hts _ (List.mem_of_getElem? (i := 456) (by decide +kernel)))
theorem wk_Jx35411 (hts : ∀ w ∈ lw_tbl, w.before #[Value.ref b] s = true) : ∃ (c : ClassId) (i : Nat → Nat), u_Kn s RJx35411 TJx35411 4 c i := u_known (n := 4) hts (fun w hw => (List.mem_filter.mp (hkc_Jx35411.2.1 w hw)).1) (hts _ (List.mem_of_getElem? (i := 1354) (by decide +kernel)))
theorem wk_Jx4a65c (hts : ∀ w ∈ lw_tbl, w.before #[Value.ref b] s = true) : ∃ (c : ClassId) (i : Nat → Nat), u_Kn s RJx4a65c TJx4a65c 3 c i := u_known (n := 3) hts (fun w hw => (List.mem_filter.mp (hkc_Jx4a65c.2.1 w hw)).1) (hts _ (List.mem_of_getElem? (i := 984) (by decide +kernel)))
theorem wk_X0 (hts : ∀ w ∈ lw_tbl, w.before #[Value.ref b] s = true) : ∃ (c : ClassId) (i : Nat → Nat), u_Kn s RX0 TX0 9 c i := u_known (n := 9) hts (fun w hw => (List.mem_filter.mp (hkc_X0.2.1 w hw)).1) (hts _ (List.mem_of_getElem? (i := 170) (by decide +kernel)))
theorem wk_X1 (hts : ∀ w ∈ lw_tbl, w.before #[Value.ref b] s = true) : ∃ (c : ClassId) (i : Nat → Nat), u_Kn s RX1 TX1 1 c i := u_known (n := 1) hts (fun w hw => (List.mem_filter.mp (hkc_X1.2.1 w hw)).1) (hts _ (List.mem_of_getElem? (i := 160) (by decide +kernel)))
theorem wk_X2 (hts : ∀ w ∈ lw_tbl, w.before #[Value.ref b] s = true) : ∃ (c : ClassId) (i : Nat → Nat), u_Kn s RX2 TX2 7 c i := u_known (n := 7) hts (fun w hw => (List.mem_filter.mp (hkc_X2.2.1 w hw)).1) (hts _ (List.mem_of_getElem? (i := 132) (by decide +kernel)))
theorem wk_X3 (hts : ∀ w ∈ lw_tbl, w.before #[Value.ref b] s = true) : ∃ (c : ClassId) (i : Nat → Nat), u_Kn s RX3 TX3 3 c i := u_known (n := 3) hts (fun w hw => (List.mem_filter.mp (hkc_X3.2.1 w hw)).1) (hts _ (List.mem_of_getElem? (i := 94) (by decide +kernel)))
theorem wk_X4 (hts : ∀ w ∈ lw_tbl, w.before #[Value.ref b] s = true) : ∃ (c : ClassId) (i : Nat → Nat), u_Kn s RX4 TX4 4 c i := u_known (n := 4) hts (fun w hw => (List.mem_filter.mp (hkc_X4.2.1 w hw)).1) (hts _ (List.mem_of_getElem? (i := 112) (by decide +kernel)))
theorem wk_X5 (hts : ∀ w ∈ lw_tbl, w.before #[Value.ref b] s = true) : ∃ (c : ClassId) (i : Nat → Nat), u_Kn s RX5 TX5 3 c i := u_known (n := 3) hts (fun w hw => (List.mem_filter.mp (hkc_X5.2.1 w hw)).1) (hts _ (List.mem_of_getElem? (i := 204) (by decide +kernel)))
theorem wk_X6 (hts : ∀ w ∈ lw_tbl, w.before #[Value.ref b] s = true) : ∃ (c : ClassId) (i : Nat → Nat), u_Kn s RX6 TX6 7 c i := u_known (n := 7) hts (fun w hw => (List.mem_filter.mp (hkc_X6.2.1 w hw)).1) (hts _ (List.mem_of_getElem? (i := 86) (by decide +kernel)))
theorem wk_X7 (hts : ∀ w ∈ lw_tbl, w.before #[Value.ref b] s = true) : ∃ (c : ClassId) (i : Nat → Nat), u_Kn s RX7 TX7 7 c i := u_known (n := 7) hts (fun w hw => (List.mem_filter.mp (hkc_X7.2.1 w hw)).1) (hts _ (List.mem_of_getElem? (i := 1470) (by decide +kernel)))
theorem wk_X8 (hts : ∀ w ∈ lw_tbl, w.before #[Value.ref b] s = true) : ∃ (c : ClassId) (i : Nat → Nat), u_Kn s RX8 TX8 6 c i := u_known (n := 6) hts (fun w hw => (List.mem_filter.mp (hkc_X8.2.1 w hw)).1) (hts _ (List.mem_of_getElem? (i := 1295) (by decide +kernel)))
theorem wk_X9 (hts : ∀ w ∈ lw_tbl, w.before #[Value.ref b] s = true) : ∃ (c : ClassId) (i : Nat → Nat), u_Kn s RX9 TX9 11 c i := u_known (n := 11) hts (fun w hw => (List.mem_filter.mp (hkc_X9.2.1 w hw)).1) (hts _ (List.mem_of_getElem? (i := 978) (by decide +kernel)))
theorem ws_cl (hts : ∀ w ∈ lw_tbl, w.before #[Value.ref b] s = true) : ∃ (dC : Nat → ClassId) (dI : Nat → Nat → Nat), ∀ (c : Nat) (q : vw_C), vwCl[c]? = some q → u_Kn s q.1 q.2.1 q.2.2 (dC c) (dI c) := by
  obtain ⟨c_J0, i_J0, k_J0⟩ := wk_J0 hts
  obtain ⟨c_J4, i_J4, k_J4⟩ := wk_J4 hts
  obtain ⟨c_J6, i_J6, k_J6⟩ := wk_J6 hts
  obtain ⟨c_J11, i_J11, k_J11⟩ := wk_J11 hts
  obtain ⟨c_Jx00060, i_Jx00060, k_Jx00060⟩ := wk_Jx00060 hts
  obtain ⟨c_Jx35411, i_Jx35411, k_Jx35411⟩ := wk_Jx35411 hts
  obtain ⟨c_Jx4a65c, i_Jx4a65c, k_Jx4a65c⟩ := wk_Jx4a65c hts
  obtain ⟨c_X0, i_X0, k_X0⟩ := wk_X0 hts
  obtain ⟨c_X1, i_X1, k_X1⟩ := wk_X1 hts
  obtain ⟨c_X2, i_X2, k_X2⟩ := wk_X2 hts
  obtain ⟨c_X3, i_X3, k_X3⟩ := wk_X3 hts
  obtain ⟨c_X4, i_X4, k_X4⟩ := wk_X4 hts
  obtain ⟨c_X5, i_X5, k_X5⟩ := wk_X5 hts
  obtain ⟨c_X6, i_X6, k_X6⟩ := wk_X6 hts
  obtain ⟨c_X7, i_X7, k_X7⟩ := wk_X7 hts
  obtain ⟨c_X8, i_X8, k_X8⟩ := wk_X8 hts
  obtain ⟨c_X9, i_X9, k_X9⟩ := wk_X9 hts
  refine ⟨fun k => if k = 0 then c_J0 else if k = 1 then c_J4 else if k = 2 then c_J6 else if k = 3 then c_J11 else if k = 4 then c_Jx00060 else if k = 5 then c_Jx35411 else if k = 6 then c_Jx4a65c else if k = 7 then c_X0 else if k = 8 then c_X1 else if k = 9 then c_X2 else if k = 10 then c_X3 else if k = 11 then c_X4 else if k = 12 then c_X5 else if k = 13 then c_X6 else if k = 14 then c_X7 else if k = 15 then c_X8 else if k = 16 then c_X9 else c_J0, fun k => if k = 0 then i_J0 else if k = 1 then i_J4 else if k = 2 then i_J6 else if k = 3 then i_J11 else if k = 4 then i_Jx00060 else if k = 5 then i_Jx35411 else if k = 6 then i_Jx4a65c else if k = 7 then i_X0 else if k = 8 then i_X1 else if k = 9 then i_X2 else if k = 10 then i_X3 else if k = 11 then i_X4 else if k = 12 then i_X5 else if k = 13 then i_X6 else if k = 14 then i_X7 else if k = 15 then i_X8 else if k = 16 then i_X9 else i_J0, ?_⟩
  intro k q hq
  match k, hq with
  | 0, hq => cases hq; exact k_J0
  | 1, hq => cases hq; exact k_J4
  | 2, hq => cases hq; exact k_J6
  | 3, hq => cases hq; exact k_J11
  | 4, hq => cases hq; exact k_Jx00060
  | 5, hq => cases hq; exact k_Jx35411
  | 6, hq => cases hq; exact k_Jx4a65c
  | 7, hq => cases hq; exact k_X0
  | 8, hq => cases hq; exact k_X1
  | 9, hq => cases hq; exact k_X2
  | 10, hq => cases hq; exact k_X3
  | 11, hq => cases hq; exact k_X4
  | 12, hq => cases hq; exact k_X5
  | 13, hq => cases hq; exact k_X6
  | 14, hq => cases hq; exact k_X7
  | 15, hq => cases hq; exact k_X8
  | 16, hq => cases hq; exact k_X9
  | k + 17, hq => simp [vwCl] at hq
theorem ws_ar (hts : ∀ w ∈ lw_tbl, w.before #[Value.ref b] s = true) : ∃ dA : Nat → ClassId, ∀ t : Nat, t < 7 → ArrOfT s (dA t) (hk_ty t) ∧ va_RA s (dA t) (hk_ty t) := by
  obtain ⟨a0, x0, y0⟩ := ws_arr (ty := .int) (hts _ (List.mem_of_getElem? (i := 130) (by decide +kernel)))
  obtain ⟨a1, x1, y1⟩ := ws_arr (ty := .boolean) (hts _ (List.mem_of_getElem? (i := 110) (by decide +kernel)))
  obtain ⟨a2, x2, y2⟩ := ws_arr (ty := .long) (hts _ (List.mem_of_getElem? (i := 1827) (by decide +kernel)))
  obtain ⟨a3, x3, y3⟩ := ws_arr (ty := .double) (hts _ (List.mem_of_getElem? (i := 1828) (by decide +kernel)))
  obtain ⟨a4, x4, y4⟩ := ws_arr (ty := .char) (hts _ (List.mem_of_getElem? (i := 109) (by decide +kernel)))
  obtain ⟨cm5, a5, k5, z1, z2, z3, z4, z5⟩ := Cond.arrayOver_spec (args := #[Value.ref b]) (first := s) (o := none) (s := s) (idx := []) (n := "java/lang/Object") (hts _ (List.mem_of_getElem? (i := 1094) (by decide +kernel)))
  obtain ⟨cm6, a6, k6, w1, w2, w3, w5⟩ := Cond.arrayOver_specA (args := #[Value.ref b]) (first := s) (o := none) (s := s) (idx := []) (t := .int) (hts _ (List.mem_of_getElem? (i := 1013) (by decide +kernel)))
  refine ⟨fun t => if t = 0 then a0 else if t = 1 then a1 else if t = 2 then a2 else if t = 3 then a3 else if t = 4 then a4 else if t = 5 then a5 else a6, ?_⟩
  intro t ht
  match t, ht with
  | 0, _ => exact ⟨x0, y0⟩
  | 1, _ => exact ⟨x1, y1⟩
  | 2, _ => exact ⟨x2, y2⟩
  | 3, _ => exact ⟨x3, y3⟩
  | 4, _ => exact ⟨x4, y4⟩
  | 5, _ => exact ⟨fun n z => ⟨fun k h => (by cases h), k5, z3, cm5, z4⟩, k5, cm5, z3, z4, z1, z5⟩
  | 6, _ => exact ⟨fun n z => ⟨fun k h => (by cases h), k6, w2, cm6, w3⟩, w5⟩
  | k + 7, hk => exact absurd hk (by omega)
theorem ws_ot {w : Cond} (hn : hk_isN w = true) : w.onTables = true := by cases w <;> simp_all [hk_isN, Cond.onTables]
theorem ws_Nw (hts : ∀ w ∈ lw_tbl, w.before #[Value.ref b] s = true) : ∀ w ∈ lw_tbl, hk_isN w = true → va_Nw w s := fun w hw hn => va_Nw.of (ws_ot hn) (hts w hw)
theorem ws_Fw (hts : ∀ w ∈ lw_tbl, w.before #[Value.ref b] s = true) : ∀ q ∈ hk_fws, va_Fw q.1 q.2.1 q.2.2 s := by
  intro q hq
  simp only [hk_fws, List.mem_cons, List.not_mem_nil, or_false] at hq
  rcases hq with rfl | rfl | rfl | rfl | rfl | rfl | rfl | rfl | rfl | rfl
  · exact va_Fw.of (hts _ (List.mem_of_getElem? (i := 1032) (by decide +kernel))) (hts _ (List.mem_of_getElem? (i := 1031) (by decide +kernel))) (hts _ (List.mem_of_getElem? (i := 1037) (by decide +kernel))) (hts _ (List.mem_of_getElem? (i := 1035) (by decide +kernel))) (hts _ (List.mem_of_getElem? (i := 1033) (by decide +kernel)))
  · exact va_Fw.of (hts _ (List.mem_of_getElem? (i := 1143) (by decide +kernel))) (hts _ (List.mem_of_getElem? (i := 1142) (by decide +kernel))) (hts _ (List.mem_of_getElem? (i := 1147) (by decide +kernel))) (hts _ (List.mem_of_getElem? (i := 1145) (by decide +kernel))) (hts _ (List.mem_of_getElem? (i := 1033) (by decide +kernel)))
  · exact va_Fw.of (hts _ (List.mem_of_getElem? (i := 1167) (by decide +kernel))) (hts _ (List.mem_of_getElem? (i := 1166) (by decide +kernel))) (hts _ (List.mem_of_getElem? (i := 1171) (by decide +kernel))) (hts _ (List.mem_of_getElem? (i := 1169) (by decide +kernel))) (hts _ (List.mem_of_getElem? (i := 1033) (by decide +kernel)))
  · exact va_Fw.of (hts _ (List.mem_of_getElem? (i := 1347) (by decide +kernel))) (hts _ (List.mem_of_getElem? (i := 1346) (by decide +kernel))) (hts _ (List.mem_of_getElem? (i := 1351) (by decide +kernel))) (hts _ (List.mem_of_getElem? (i := 1349) (by decide +kernel))) (hts _ (List.mem_of_getElem? (i := 1033) (by decide +kernel)))
  · exact va_Fw.of (hts _ (List.mem_of_getElem? (i := 1375) (by decide +kernel))) (hts _ (List.mem_of_getElem? (i := 1374) (by decide +kernel))) (hts _ (List.mem_of_getElem? (i := 1380) (by decide +kernel))) (hts _ (List.mem_of_getElem? (i := 1378) (by decide +kernel))) (hts _ (List.mem_of_getElem? (i := 1376) (by decide +kernel)))
  · exact va_Fw.of (hts _ (List.mem_of_getElem? (i := 1385) (by decide +kernel))) (hts _ (List.mem_of_getElem? (i := 1384) (by decide +kernel))) (hts _ (List.mem_of_getElem? (i := 1389) (by decide +kernel))) (hts _ (List.mem_of_getElem? (i := 1387) (by decide +kernel))) (hts _ (List.mem_of_getElem? (i := 1376) (by decide +kernel)))
  · exact va_Fw.of (hts _ (List.mem_of_getElem? (i := 1434) (by decide +kernel))) (hts _ (List.mem_of_getElem? (i := 1433) (by decide +kernel))) (hts _ (List.mem_of_getElem? (i := 1438) (by decide +kernel))) (hts _ (List.mem_of_getElem? (i := 1436) (by decide +kernel))) (hts _ (List.mem_of_getElem? (i := 1033) (by decide +kernel)))
  · exact va_Fw.of (hts _ (List.mem_of_getElem? (i := 1536) (by decide +kernel))) (hts _ (List.mem_of_getElem? (i := 1535) (by decide +kernel))) (hts _ (List.mem_of_getElem? (i := 1540) (by decide +kernel))) (hts _ (List.mem_of_getElem? (i := 1538) (by decide +kernel))) (hts _ (List.mem_of_getElem? (i := 1033) (by decide +kernel)))
  · exact va_Fw.of (hts _ (List.mem_of_getElem? (i := 1758) (by decide +kernel))) (hts _ (List.mem_of_getElem? (i := 1757) (by decide +kernel))) (hts _ (List.mem_of_getElem? (i := 1762) (by decide +kernel))) (hts _ (List.mem_of_getElem? (i := 1760) (by decide +kernel))) (hts _ (List.mem_of_getElem? (i := 1033) (by decide +kernel)))
  · exact va_Fw.of (hts _ (List.mem_of_getElem? (i := 1767) (by decide +kernel))) (hts _ (List.mem_of_getElem? (i := 1766) (by decide +kernel))) (hts _ (List.mem_of_getElem? (i := 1772) (by decide +kernel))) (hts _ (List.mem_of_getElem? (i := 1770) (by decide +kernel))) (hts _ (List.mem_of_getElem? (i := 1768) (by decide +kernel)))
theorem ws_st (hts : ∀ w ∈ lw_tbl, w.before #[Value.ref b] s = true) : ∃ sk : Nat → Nat, ∀ x ∈ hk_strs, vk_R RX6 x.1 x.2 (sk x.1) s := by
  obtain ⟨a57, r57, -⟩ := ws_str (C := "Harbourmint") (k := 57) (tx := "no such kind") (n := 7) (hts _ (List.mem_of_getElem? (i := 86) (by decide +kernel))) (hts _ (List.mem_of_getElem? (i := 405) (by decide +kernel)))
  obtain ⟨a68, r68, -⟩ := ws_str (C := "Harbourmint") (k := 68) (tx := "no more houses") (n := 7) (hts _ (List.mem_of_getElem? (i := 86) (by decide +kernel))) (hts _ (List.mem_of_getElem? (i := 445) (by decide +kernel)))
  obtain ⟨a276, r276, -⟩ := ws_str (C := "Harbourmint") (k := 276) (tx := "no such house") (n := 7) (hts _ (List.mem_of_getElem? (i := 86) (by decide +kernel))) (hts _ (List.mem_of_getElem? (i := 496) (by decide +kernel)))
  obtain ⟨a285, r285, -⟩ := ws_str (C := "Harbourmint") (k := 285) (tx := "no such metal") (n := 7) (hts _ (List.mem_of_getElem? (i := 86) (by decide +kernel))) (hts _ (List.mem_of_getElem? (i := 515) (by decide +kernel)))
  obtain ⟨a287, r287, -⟩ := ws_str (C := "Harbourmint") (k := 287) (tx := "a number is out of range") (n := 7) (hts _ (List.mem_of_getElem? (i := 86) (by decide +kernel))) (hts _ (List.mem_of_getElem? (i := 520) (by decide +kernel)))
  obtain ⟨a293, r293, -⟩ := ws_str (C := "Harbourmint") (k := 293) (tx := "the house failed") (n := 7) (hts _ (List.mem_of_getElem? (i := 86) (by decide +kernel))) (hts _ (List.mem_of_getElem? (i := 525) (by decide +kernel)))
  obtain ⟨a113, r113, -⟩ := ws_str (C := "Harbourmint") (k := 113) (tx := "not enough ore") (n := 7) (hts _ (List.mem_of_getElem? (i := 86) (by decide +kernel))) (hts _ (List.mem_of_getElem? (i := 571) (by decide +kernel)))
  obtain ⟨a119, r119, -⟩ := ws_str (C := "Harbourmint") (k := 119) (tx := "too many coins") (n := 7) (hts _ (List.mem_of_getElem? (i := 86) (by decide +kernel))) (hts _ (List.mem_of_getElem? (i := 582) (by decide +kernel)))
  obtain ⟨a279, r279, -⟩ := ws_str (C := "Harbourmint") (k := 279) (tx := "there never was such a coin") (n := 7) (hts _ (List.mem_of_getElem? (i := 86) (by decide +kernel))) (hts _ (List.mem_of_getElem? (i := 611) (by decide +kernel)))
  obtain ⟨a295, r295, -⟩ := ws_str (C := "Harbourmint") (k := 295) (tx := "the coin was melted") (n := 7) (hts _ (List.mem_of_getElem? (i := 86) (by decide +kernel))) (hts _ (List.mem_of_getElem? (i := 620) (by decide +kernel)))
  obtain ⟨a135, r135, -⟩ := ws_str (C := "Harbourmint") (k := 135) (tx := "too little would be left") (n := 7) (hts _ (List.mem_of_getElem? (i := 86) (by decide +kernel))) (hts _ (List.mem_of_getElem? (i := 625) (by decide +kernel)))
  obtain ⟨a289, r289, -⟩ := ws_str (C := "Harbourmint") (k := 289) (tx := "the houses are the same") (n := 7) (hts _ (List.mem_of_getElem? (i := 86) (by decide +kernel))) (hts _ (List.mem_of_getElem? (i := 675) (by decide +kernel)))
  obtain ⟨a297, r297, -⟩ := ws_str (C := "Harbourmint") (k := 297) (tx := "not so many coins") (n := 7) (hts _ (List.mem_of_getElem? (i := 86) (by decide +kernel))) (hts _ (List.mem_of_getElem? (i := 684) (by decide +kernel)))
  obtain ⟨a291, r291, -⟩ := ws_str (C := "Harbourmint") (k := 291) (tx := "it is no bank") (n := 7) (hts _ (List.mem_of_getElem? (i := 86) (by decide +kernel))) (hts _ (List.mem_of_getElem? (i := 704) (by decide +kernel)))
  obtain ⟨a299, r299, -⟩ := ws_str (C := "Harbourmint") (k := 299) (tx := "the claim is less") (n := 7) (hts _ (List.mem_of_getElem? (i := 86) (by decide +kernel))) (hts _ (List.mem_of_getElem? (i := 717) (by decide +kernel)))
  obtain ⟨a188, r188, -⟩ := ws_str (C := "Harbourmint") (k := 188) (tx := "no more bills") (n := 7) (hts _ (List.mem_of_getElem? (i := 86) (by decide +kernel))) (hts _ (List.mem_of_getElem? (i := 797) (by decide +kernel)))
  obtain ⟨a281, r281, -⟩ := ws_str (C := "Harbourmint") (k := 281) (tx := "no such bill") (n := 7) (hts _ (List.mem_of_getElem? (i := 86) (by decide +kernel))) (hts _ (List.mem_of_getElem? (i := 813) (by decide +kernel)))
  obtain ⟨a199, r199, -⟩ := ws_str (C := "Harbourmint") (k := 199) (tx := "the bill came due") (n := 7) (hts _ (List.mem_of_getElem? (i := 86) (by decide +kernel))) (hts _ (List.mem_of_getElem? (i := 814) (by decide +kernel)))
  obtain ⟨a204, r204, -⟩ := ws_str (C := "Harbourmint") (k := 204) (tx := "no more endorsers") (n := 7) (hts _ (List.mem_of_getElem? (i := 86) (by decide +kernel))) (hts _ (List.mem_of_getElem? (i := 819) (by decide +kernel)))
  obtain ⟨a283, r283, -⟩ := ws_str (C := "Harbourmint") (k := 283) (tx := "no such voyage") (n := 7) (hts _ (List.mem_of_getElem? (i := 86) (by decide +kernel))) (hts _ (List.mem_of_getElem? (i := 842) (by decide +kernel)))
  obtain ⟨a230, r230, -⟩ := ws_str (C := "Harbourmint") (k := 230) (tx := "no share") (n := 7) (hts _ (List.mem_of_getElem? (i := 86) (by decide +kernel))) (hts _ (List.mem_of_getElem? (i := 862) (by decide +kernel)))
  obtain ⟨a306, r306, -⟩ := ws_str (C := "Harbourmint") (k := 306) (tx := "there are no coins") (n := 7) (hts _ (List.mem_of_getElem? (i := 86) (by decide +kernel))) (hts _ (List.mem_of_getElem? (i := 960) (by decide +kernel)))
  refine ⟨fun i => if i = 57 then a57 else if i = 68 then a68 else if i = 276 then a276 else if i = 285 then a285 else if i = 287 then a287 else if i = 293 then a293 else if i = 113 then a113 else if i = 119 then a119 else if i = 279 then a279 else if i = 295 then a295 else if i = 135 then a135 else if i = 289 then a289 else if i = 297 then a297 else if i = 291 then a291 else if i = 299 then a299 else if i = 188 then a188 else if i = 281 then a281 else if i = 199 then a199 else if i = 204 then a204 else if i = 283 then a283 else if i = 230 then a230 else if i = 306 then a306 else 0, ?_⟩
  intro x hx
  simp only [hk_strs, List.mem_cons, List.not_mem_nil, or_false] at hx
  rcases hx with rfl | rfl | rfl | rfl | rfl | rfl | rfl | rfl | rfl | rfl | rfl | rfl | rfl | rfl | rfl | rfl | rfl | rfl | rfl | rfl | rfl | rfl
  · exact r57
  · exact r68
  · exact r276
  · exact r285
  · exact r287
  · exact r293
  · exact r113
  · exact r119
  · exact r279
  · exact r295
  · exact r135
  · exact r289
  · exact r297
  · exact r291
  · exact r299
  · exact r188
  · exact r281
  · exact r199
  · exact r204
  · exact r283
  · exact r230
  · exact r306
theorem ws_al (hts : ∀ w ∈ lw_tbl, w.before #[Value.ref b] s = true) (hg : ∀ c ∈ flatC (Cond.and given_1 narrow_1), c.before #[Value.ref b] s = true) : ∃ t : Nat, va_Z "java/util/ArrayList" "DEFAULTCAPACITY_EMPTY_ELEMENTDATA" "[Ljava/lang/Object;" (.ref t) (ws_A s) s s.heap ∧ va_T (.object "java/lang/Object") t 0 (fun _ => .null) (ws_A s) s s.heap ∧ va_O "[Ljava/lang/Object;" t (ws_A s) s s.heap := by
  obtain ⟨t, q1, q2⟩ := va_Tof (tm := (.static "java/util/ArrayList" "DEFAULTCAPACITY_EMPTY_ELEMENTDATA" "[Ljava/lang/Object;")) (ty := .object "java/lang/Object") (N := 0) (f := fun _ => .null) (A := ws_A s) (args := #[Value.ref b]) (s := s) (by decide) (hg _ (List.mem_of_getElem? (i := 7) (by decide +kernel))) (va_eqt (z := 0) (hg _ (List.mem_of_getElem? (i := 9) (by decide +kernel)))) (fun j hj => absurd hj (Nat.not_lt_zero j)) ws_hA
  exact ⟨t, va_Zref (hts _ (List.mem_of_getElem? (i := 996) (by decide +kernel))) (hts _ (List.mem_of_getElem? (i := 56) (by decide +kernel))) q1 ws_hA, q2, va_Oof (t := (.static "java/util/ArrayList" "DEFAULTCAPACITY_EMPTY_ELEMENTDATA" "[Ljava/lang/Object;")) (args := #[Value.ref b]) (hg _ (List.mem_of_getElem? (i := 8) (by decide +kernel))) q1 ws_hA⟩
theorem ws_cc (hts : ∀ w ∈ lw_tbl, w.before #[Value.ref b] s = true) (hg : ∀ c ∈ flatC (Cond.and given_1 narrow_1), c.before #[Value.ref b] s = true) : ∃ (t : Nat) (ad : Nat → Nat), va_Z "java/lang/Character$CharacterCache" "cache" "[Ljava/lang/Character;" (.ref t) (ws_A s) s s.heap ∧ va_T (.object "java/lang/Character") t 128 (fun i => .ref (ad i)) (ws_A s) s s.heap ∧ ∀ i, i < 128 → va_O "java/lang/Character" (ad i) (ws_A s) s s.heap ∧ va_OF "java/lang/Character" "value" "C" (.int ((fun j => nI j) i)) (ad i) (ws_A s) s s.heap := by
  obtain ⟨t, ad, q1, q2, q3⟩ := ws_box (C := "java/lang/Character$CharacterCache") (n := "cache") (d0 := "[Ljava/lang/Character;") (K := "java/lang/Character") (d := "C") (N := 128) (F := (.add (.index 0) (.int 0))) (val := fun j => nI j) (A := ws_A s) (args := #[Value.ref b]) (s := s) (by decide) (hg _ (List.mem_of_getElem? (i := 11) (by decide +kernel))) (hg _ (List.mem_of_getElem? (i := 12) (by decide +kernel))) (hg _ (List.mem_of_getElem? (i := 13) (by decide +kernel))) (fun j hj => by show some (Value.int (nI j + 0)) = _; rw [Int32.add_zero]) ws_hA
  exact ⟨t, ad, va_Zref (hts _ (List.mem_of_getElem? (i := 1018) (by decide +kernel))) (hts _ (List.mem_of_getElem? (i := 58) (by decide +kernel))) q1 ws_hA, q2, q3⟩
theorem ws_ic (hts : ∀ w ∈ lw_tbl, w.before #[Value.ref b] s = true) (hg : ∀ c ∈ flatC (Cond.and given_1 narrow_1), c.before #[Value.ref b] s = true) : ∃ (t : Nat) (ad : Nat → Nat), va_Z "java/lang/Integer$IntegerCache" "cache" "[Ljava/lang/Integer;" (.ref t) (ws_A s) s s.heap ∧ va_T (.object "java/lang/Integer") t 256 (fun i => .ref (ad i)) (ws_A s) s s.heap ∧ ∀ i, i < 256 → va_O "java/lang/Integer" (ad i) (ws_A s) s s.heap ∧ va_OF "java/lang/Integer" "value" "I" (.int ((fun j => nI j - 128) i)) (ad i) (ws_A s) s s.heap := by
  obtain ⟨t, ad, q1, q2, q3⟩ := ws_box (C := "java/lang/Integer$IntegerCache") (n := "cache") (d0 := "[Ljava/lang/Integer;") (K := "java/lang/Integer") (d := "I") (N := 256) (F := (.sub (.index 0) (.int 128))) (val := fun j => nI j - 128) (A := ws_A s) (args := #[Value.ref b]) (s := s) (by decide) (hg _ (List.mem_of_getElem? (i := 21) (by decide +kernel))) (hg _ (List.mem_of_getElem? (i := 22) (by decide +kernel))) (hg _ (List.mem_of_getElem? (i := 23) (by decide +kernel))) (fun j hj => rfl) ws_hA
  exact ⟨t, ad, va_Zref (hts _ (List.mem_of_getElem? (i := 1519) (by decide +kernel))) (hts _ (List.mem_of_getElem? (i := 81) (by decide +kernel))) q1 ws_hA, q2, q3⟩
theorem ws_gs (hts : ∀ w ∈ lw_tbl, w.before #[Value.ref b] s = true) (hg : ∀ c ∈ flatC (Cond.and given_1 narrow_1), c.before #[Value.ref b] s = true) : ∃ a t : Nat, vk_R RX9 72 "gs" a s ∧ va_O "java/lang/String" a (ws_A s) s s.heap ∧ va_OF "java/lang/String" "coder" "B" (.int 0) a (ws_A s) s s.heap ∧ va_OF "java/lang/String" "value" "[B" (.ref t) a (ws_A s) s s.heap ∧ va_T .byte t 2 (fun j => .int (if j = 0 then 103 else 115)) (ws_A s) s s.heap := by
  obtain ⟨a, r, e⟩ := ws_str (C := "HarbourmintModel") (k := 72) (tx := "gs") (n := 11) (hts _ (List.mem_of_getElem? (i := 978) (by decide +kernel))) (hts _ (List.mem_of_getElem? (i := 1195) (by decide +kernel)))
  obtain ⟨t, q1, q2⟩ := va_Tof (tm := (.field (.string "HarbourmintModel" 72) "java/lang/String" "value" "[B")) (ty := .byte) (N := 2) (f := fun j => .int (if j = 0 then 103 else 115)) (A := ws_A s) (args := #[Value.ref b]) (s := s) (by decide) (hg _ (List.mem_of_getElem? (i := 784) (by decide +kernel))) (va_eqt (z := 2) (hg _ (List.mem_of_getElem? (i := 785) (by decide +kernel)))) (fun j hj => by
    match j, hj with
    | 0, _ => exact va_eqt (z := 103) (hg _ (List.mem_of_getElem? (i := 786) (by decide +kernel)))
    | 1, _ => exact va_eqt (z := 115) (hg _ (List.mem_of_getElem? (i := 787) (by decide +kernel)))
    | k + 2, h => exact absurd h (by omega)) ws_hA
  exact ⟨a, t, r, va_Oof (t := (.string "HarbourmintModel" 72)) (args := #[Value.ref b]) (hg _ (List.mem_of_getElem? (i := 782) (by decide +kernel))) e ws_hA, vk_OFof e (va_eqt (z := 0) (hg _ (List.mem_of_getElem? (i := 783) (by decide +kernel)))) ws_hA, vk_OFof e q1 ws_hA, q2⟩
theorem ws_Tx {ty : FieldType} {t N : Nat} {f g : Nat → Value} {A : Nat → Prop} {U : State} {H : Heap} (h : va_T ty t N f A U H) (e : ∀ i, i < N → g i = f i) : va_T ty t N g A U H := by
  obtain ⟨cell, h1, h2, h3, h4, h5, h6, h7⟩ := h
  exact ⟨cell, h1, h2, h3, h4, h5, fun j hj => by rw [e j hj]; exact h6 j hj, h7⟩
theorem ws_F (hts : ∀ w ∈ lw_tbl, w.before #[Value.ref b] s = true) (hgv : (Cond.and given_1 narrow_1).before #[Value.ref b] s = true) (hX : va_X b L xs s s.heap) (hbl : b < s.heap.size) (hL : L ≤ 2560) : ∃ G : hk_G, hk_B G = s.heap.size ∧ hk_K G 1100 = b ∧ hk_K G 1101 = L ∧ hk_F G s s.heap := by
  have hg := flat_of_before _ hgv
  obtain ⟨dC, dI, hC⟩ := ws_cl hts
  obtain ⟨dA, hD⟩ := ws_ar hts
  obtain ⟨sk, hS⟩ := ws_st hts
  obtain ⟨k1, a1, a2, a3⟩ := ws_al hts hg
  obtain ⟨k2, ac, b1, b2, b3⟩ := ws_cc hts hg
  obtain ⟨k3, ai, c1, c2, c3⟩ := ws_ic hts hg
  obtain ⟨k4, k5, d1, d2, d3, d4, d5⟩ := ws_gs hts hg
  obtain ⟨k6, e1⟩ := va_Mi.of (C := "[Ljava/lang/Object;") (args := #[Value.ref b]) (s := s) (hg _ (List.mem_of_getElem? (i := 334) (by decide +kernel)))
  obtain ⟨K, hK⟩ : ∃ K : Nat → Nat, K = fun i => if 4000 ≤ i then (xs (i - 4000)).toBitVec.toNat else if 3000 ≤ i then ai (i - 3000) else if 2000 ≤ i then ac (i - 2000) else if i = 1001 then k1 else if i = 1002 then k2 else if i = 1003 then k3 else if i = 1004 then k4 else if i = 1005 then k5 else if i = 1006 then k6 else if i = 1100 then b else if i = 1101 then L else sk i := ⟨_, rfl⟩
  have g1 : K 1001 = k1 := by rw [hK]; rfl
  have g2 : K 1002 = k2 := by rw [hK]; rfl
  have g3 : K 1003 = k3 := by rw [hK]; rfl
  have g4 : K 1004 = k4 := by rw [hK]; rfl
  have g5 : K 1005 = k5 := by rw [hK]; rfl
  have g6 : K 1006 = k6 := by rw [hK]; rfl
  have g7 : K 1100 = b := by rw [hK]; rfl
  have g8 : K 1101 = L := by rw [hK]; rfl
  have gc : ∀ i, i < 128 → K (2000 + i) = ac i := fun i hi => by
    rw [hK]
    show (if 4000 ≤ 2000 + i then _ else _) = _
    rw [if_neg (by omega), if_neg (by omega), if_pos (by omega), Nat.add_sub_cancel_left]
  have gi : ∀ i, i < 256 → K (3000 + i) = ai i := fun i hi => by
    rw [hK]
    show (if 4000 ≤ 3000 + i then _ else _) = _
    rw [if_neg (by omega), if_pos (by omega), Nat.add_sub_cancel_left]
  have gx : ∀ j, nI (K (4000 + j)) = xs j := fun j => by
    rw [hK]
    show nI (if 4000 ≤ 4000 + j then _ else _) = _
    rw [if_pos (by omega), Nat.add_sub_cancel_left]
    exact (nI_back _).symm
  have gs : ∀ x ∈ hk_strs, K x.1 = sk x.1 := by
    intro x hx
    rw [hK]
    simp only [hk_strs, List.mem_cons, List.not_mem_nil, or_false] at hx
    rcases hx with rfl | rfl | rfl | rfl | rfl | rfl | rfl | rfl | rfl | rfl | rfl | rfl | rfl | rfl | rfl | rfl | rfl | rfl | rfl | rfl | rfl | rfl <;> rfl
  refine ⟨(dC, dI, dA, s.heap.size, K), rfl, g7, g8, hC, hD, vx_Zqof (hts _ (List.mem_of_getElem? (i := 388) (by decide +kernel))) (hts _ (List.mem_of_getElem? (i := 63) (by decide +kernel))) (hg _ (List.mem_of_getElem? (i := 4) (by decide +kernel))) ws_hA, vx_Zqof (hts _ (List.mem_of_getElem? (i := 390) (by decide +kernel))) (hts _ (List.mem_of_getElem? (i := 63) (by decide +kernel))) (hg _ (List.mem_of_getElem? (i := 5) (by decide +kernel))) ws_hA, fun x hx => ?_, ws_Nw hts, ?_⟩
  · show vk_R RX6 x.1 x.2 (K x.1) s
    rw [gs x hx]
    exact hS x hx
  · unfold hk_J hk_scr
    show (va_Z _ _ _ (.ref (K 1001)) (ws_A s) s s.heap ∧ va_T _ (K 1001) 0 _ (ws_A s) s s.heap ∧ va_O _ (K 1001) (ws_A s) s s.heap) ∧ (va_Z _ _ _ (.ref (K 1002)) (ws_A s) s s.heap ∧ va_T _ (K 1002) 128 (fun i => .ref (K (2000 + i))) (ws_A s) s s.heap ∧ (∀ i : Nat, i < 128 → va_O _ (K (2000 + i)) (ws_A s) s s.heap ∧ va_OF _ _ _ (.int (nI i)) (K (2000 + i)) (ws_A s) s s.heap)) ∧ (va_Z _ _ _ (.int 127) (ws_A s) s s.heap ∧ va_Z _ _ _ (.ref (K 1003)) (ws_A s) s s.heap ∧ va_T _ (K 1003) 256 (fun i => .ref (K (3000 + i))) (ws_A s) s s.heap ∧ (∀ i : Nat, i < 256 → va_O _ (K (3000 + i)) (ws_A s) s s.heap ∧ va_OF _ _ _ (.int (nI i - 128)) (K (3000 + i)) (ws_A s) s s.heap)) ∧ (va_Z _ _ _ (.int 1) (ws_A s) s s.heap ∧ vk_R RX9 72 "gs" (K 1004) s ∧ va_O _ (K 1004) (ws_A s) s s.heap ∧ va_OF _ _ _ (.int 0) (K 1004) (ws_A s) s s.heap ∧ va_OF _ _ _ (.ref (K 1005)) (K 1004) (ws_A s) s s.heap ∧ va_T .byte (K 1005) 2 _ (ws_A s) s s.heap) ∧ va_Mi _ (K 1006) s ∧ _ ∧ _ ∧ _ ∧ (va_X (K 1100) (K 1101) (fun j => nI (K (4000 + j))) s s.heap ∧ ¬ ws_A s (K 1100) ∧ K 1101 ≤ 2560 ∧ _)
    rw [g1, g2, g3, g4, g5, g6, g7, g8, show (fun j => nI (K (4000 + j))) = xs from funext gx]
    refine ⟨⟨a1, a2, a3⟩, ⟨b1, ws_Tx b2 (fun i hi => by rw [gc i hi]), fun i hi => by rw [gc i hi]; exact b3 i hi⟩, ⟨va_Zof (hts _ (List.mem_of_getElem? (i := 1517) (by decide +kernel))) (hts _ (List.mem_of_getElem? (i := 81) (by decide +kernel))) (va_eqt (z := 127) (hg _ (List.mem_of_getElem? (i := 19) (by decide +kernel)))) ws_hA, c1, ws_Tx c2 (fun i hi => by rw [gi i hi]), fun i hi => by rw [gi i hi]; exact c3 i hi⟩, ⟨va_Zof (hts _ (List.mem_of_getElem? (i := 1209) (by decide +kernel))) (hts _ (List.mem_of_getElem? (i := 70) (by decide +kernel))) (va_eqt (z := 1) (hg _ (List.mem_of_getElem? (i := 14) (by decide +kernel)))) ws_hA, d1, d2, d3, d4, d5⟩, e1, ws_Fw hts, va_AO.of (hts _ (List.mem_of_getElem? (i := 1094) (by decide +kernel))), (by unfold hk_AOA; exact hts (.arrayOver (.array .int)) (List.mem_of_getElem? (i := 1013) (by decide +kernel))), hX, ws_hA b hbl, hL, ?_⟩
    intro q hq
    simp only [hk_ncs, List.mem_cons, List.not_mem_nil, or_false] at hq
    rcases hq with rfl | rfl | rfl | rfl | rfl | rfl
    · exact va_Nc.of (args := #[Value.ref b]) (hg _ (List.mem_of_getElem? (i := 282) (by decide +kernel)))
    · exact va_Nc.of (args := #[Value.ref b]) (hg _ (List.mem_of_getElem? (i := 283) (by decide +kernel)))
    · exact va_Nc.of (args := #[Value.ref b]) (hg _ (List.mem_of_getElem? (i := 284) (by decide +kernel)))
    · exact va_Nc.of (args := #[Value.ref b]) (hg _ (List.mem_of_getElem? (i := 240) (by decide +kernel)))
    · exact va_Nc.of (args := #[Value.ref b]) (hg _ (List.mem_of_getElem? (i := 243) (by decide +kernel)))
    · exact va_Nc.of (args := #[Value.ref b]) (hg _ (List.mem_of_getElem? (i := 264) (by decide +kernel)))
end WF

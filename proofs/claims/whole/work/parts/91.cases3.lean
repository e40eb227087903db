/-! the cases with a helper, second half -/
set_option maxHeartbeats 4000000 in
set_option maxRecDepth 100000 in
theorem lb_35 {p : Program} {l : Launch} {e : Env} {s : State} {m : MethodId} {args : Array Value} {below : List Frame} {meth : Method} {c : Code} {cells slots : Nat} {Q : State → Prop} {dd : cl_D} {b scr L : Nat} {xs : Nat → Int32} (V : lb_C p l s m args meth c dd b scr L xs) {B i : Nat} {M : cl_M} (hi : i + 6 ≤ L) (hL : L ≤ 3072) (R0 : cx_R B M) (hB : B + 8200 < 2 ^ 30) (hcs : cells + 10 ≤ 601024 ∧ slots + 60 ≤ 7293034) (back : ∀ (M : cl_M) (H : Heap) (locs : List Loc) (ls : Array Slot), cx_R (B + 8200) M → cl_H dd b M s H locs → lv_has ls 9 (lb_l scr b i) → W p l e room_1 s m args below meth c H locs (cells + 10) (slots + 60) Q (F0 m 3095 ls [])) {H : Heap} {locs : List Loc} {ls : Array Slot} (hw : cl_H dd b M s H locs) (hl : lv_has ls 9 (lb_l scr b i)) : W p l e room_1 s m args below meth c H locs cells slots Q (F0 m 1663 ls []) := by
  have V0 := V
  obtain ⟨C, hN, hd, hX, hsb, hbs⟩ := V
  have hx := C.1
  have hb := C.2.1
  have hlt := C.2.2.2.2.2.2.2.2.2.2
  have s5 := cl_s00 hd
  have s6 := cl_s237 hd
  obtain ⟨o, w, M2, e1, e2, e3, e4, e5, e6⟩ := lh_ok (cs := lc_hangObstacle) (by decide) (an_hangObstacle R0 (xs (i + 1)) (xs (i + 2)) (xs (i + 3)) (xs (i + 4)))
  have e3 : f_X6_hangObstacle (lh_M o) 237 (xs (i + 1)) (xs (i + 2)) (xs (i + 3)) (xs (i + 4)) = some (w, M2) := e3
  refine lv_aload_n hx hb dL_law_1663 rfl (lv_at hl 2 rfl) ?_
  refine lb_arg V0 hw (lv_at hl 1 rfl) (lv_at hl 0 rfl) (j := 1) dL_law_1664 dL_law_1665 dL_law_1667 dL_law_1668 dL_law_1669 rfl (by omega) hL ?_
  refine lb_arg V0 hw (lv_at hl 1 rfl) (lv_at hl 0 rfl) (j := 2) dL_law_1670 dL_law_1671 dL_law_1673 dL_law_1674 dL_law_1675 rfl (by omega) hL ?_
  refine lb_arg V0 hw (lv_at hl 1 rfl) (lv_at hl 0 rfl) (j := 3) dL_law_1676 dL_law_1677 dL_law_1679 dL_law_1680 dL_law_1681 rfl (by omega) hL ?_
  refine lb_arg V0 hw (lv_at hl 1 rfl) (lv_at hl 0 rfl) (j := 4) dL_law_1682 dL_law_1683 dL_law_1685 dL_law_1686 dL_law_1687 rfl (by omega) hL ?_
  refine lv_aload_n hx hb dL_law_1688 rfl (lv_at hl 4 rfl) ?_
  refine lh_call C hN hw (h_hangObstacle hlt hd e1 e2) lo_269 sw_L_hangObstacle in_L cw_L_hangObstacle ⟨by decide +kernel, by decide +kernel, by decide +kernel⟩ (n := 6) rfl hl.1 (As := [.ref b, .int (xs (i + 1)), .int (xs (i + 2)), .int (xs (i + 3)), .int (xs (i + 4)), .ref (b + 247)]) rfl ⟨⟨Nat.le_of_ble_eq_true rfl, Nat.le_of_ble_eq_true rfl⟩, Nat.le_of_ble_eq_true rfl, by show cells + 4 ≤ 601024; omega, by show slots + 6 * 4 ≤ 7293034; omega⟩ dL_law_1689 (fun H locs hw => ?_)
  refine lv_istore (lv' := (5, .int (lh_r lc_hangObstacle o)) :: lb_l scr b i) hx hb dL_law_1692 hl (by decide) rfl (fun ls hl => ?_)
  refine lv_aload_n hx hb dL_law_1694 rfl (lv_at hl 4 rfl) ?_
  refine lb_arg V0 hw (lv_at hl 2 rfl) (lv_at hl 1 rfl) (j := 1) dL_law_1695 dL_law_1696 dL_law_1698 dL_law_1699 dL_law_1700 rfl (by omega) hL ?_
  refine lb_arg V0 hw (lv_at hl 2 rfl) (lv_at hl 1 rfl) (j := 2) dL_law_1701 dL_law_1702 dL_law_1704 dL_law_1705 dL_law_1706 rfl (by omega) hL ?_
  refine lb_arg V0 hw (lv_at hl 2 rfl) (lv_at hl 1 rfl) (j := 3) dL_law_1707 dL_law_1708 dL_law_1710 dL_law_1711 dL_law_1712 rfl (by omega) hL ?_
  refine lb_arg V0 hw (lv_at hl 2 rfl) (lv_at hl 1 rfl) (j := 4) dL_law_1713 dL_law_1714 dL_law_1716 dL_law_1717 dL_law_1718 rfl (by omega) hL ?_
  refine cr_Vi C hw (c_X6_hangObstacle hlt s6 e3) cy_X6_hangObstacle vy_X6_hangObstacle lo_272 (cl_lt s6 (by decide)) (cl_e6 s6) rfl rfl (As := [.int (xs (i + 1)), .int (xs (i + 2)), .int (xs (i + 3)), .int (xs (i + 4))]) rfl hl.1 rfl ⟨⟨Nat.le_of_ble_eq_true rfl, Nat.le_of_ble_eq_true rfl⟩, Nat.le_of_ble_eq_true rfl, by show cells + 4 ≤ 601024; omega, by show slots + 6 * 4 ≤ 7293034; omega⟩ dL_law_1719 (fun H locs hw => ?_)
  refine lv_istore (lv' := (6, .int w) :: (5, .int (lh_r lc_hangObstacle o)) :: lb_l scr b i) hx hb dL_law_1722 hl (by decide) rfl (fun ls hl => ?_)
  refine lv_aload_n hx hb dL_law_1724 rfl (lv_at hl 5 rfl) ?_
  refine cr_Vi C hw (c_X6_thrown hlt s6 (show f_X6_thrown M2 237 = some (M2 237 4) from rfl)) cy_X6_thrown vy_X6_thrown lo_180 (cl_lt s6 (by decide)) (cl_e6 s6) rfl rfl (As := []) rfl hl.1 rfl ⟨⟨Nat.le_of_ble_eq_true rfl, Nat.le_of_ble_eq_true rfl⟩, Nat.le_of_ble_eq_true rfl, by show cells + 4 ≤ 601024; omega, by show slots + 6 * 4 ≤ 7293034; omega⟩ dL_law_1725 (fun H locs hw => ?_)
  refine lv_iload hx hb dL_law_1728 (lv_at hl 1 rfl) ?_
  refine lv_icmp_eq (tgt := 1735) hx hb dL_law_1730 (by decide) (fun c1 => ?_) (fun c1 => absurd e4 c1)
  refine lv_iload hx hb dL_law_1735 (lv_at hl 1 rfl) ?_
  have fin : W p l e room_1 s m args below meth c H locs (cells + 4) (slots + 6 * 4) Q (F0 m 1752 ls []) := by
    refine lv_goto (tgt := 3095) hx hb dL_law_1752 (by decide) ?_
    refine W.widen (k := cells + 10) (n := slots + 60) (by omega) (by omega) ?_
    exact back M2 H locs ls (cx_R_le e5 (by omega)) hw (lv_sub hl [2, 3, 4, 5, 6] rfl)
  refine lv_if_ne (tgt := 1752) hx hb dL_law_1737 (by decide) (fun c2 => fin) (fun c2 => ?_)
  refine lv_aload_n hx hb dL_law_1740 rfl (lv_at hl 6 rfl) ?_
  refine lv_iconst (v := 0) hx hb dL_law_1741 (by decide) ?_
  refine cr_lald C hw hd rfl dL_law_1742 ?_
  refine lv_iload hx hb dL_law_1743 (lv_at hl 0 rfl) ?_
  refine lv_i2l (v := w.toInt64) hx hb dL_law_1745 rfl ?_
  refine W.lcmp hx hb dL_law_1746 ?_
  exact lv_if_eq (tgt := 1752) hx hb dL_law_1747 (by decide) (fun _ => fin) (fun c3 => absurd (lf_lcmp (by rw [e6 c2])) c3)
set_option maxHeartbeats 4000000 in
set_option maxRecDepth 100000 in
theorem lb_36 {p : Program} {l : Launch} {e : Env} {s : State} {m : MethodId} {args : Array Value} {below : List Frame} {meth : Method} {c : Code} {cells slots : Nat} {Q : State → Prop} {dd : cl_D} {b scr L : Nat} {xs : Nat → Int32} (V : lb_C p l s m args meth c dd b scr L xs) {B i : Nat} {M : cl_M} (hi : i + 6 ≤ L) (hL : L ≤ 3072) (R0 : cx_R B M) (hB : B + 8200 < 2 ^ 30) (hcs : cells + 10 ≤ 601024 ∧ slots + 60 ≤ 7293034) (back : ∀ (M : cl_M) (H : Heap) (locs : List Loc) (ls : Array Slot), cx_R (B + 8200) M → cl_H dd b M s H locs → lv_has ls 9 (lb_l scr b i) → W p l e room_1 s m args below meth c H locs (cells + 10) (slots + 60) Q (F0 m 3095 ls [])) {H : Heap} {locs : List Loc} {ls : Array Slot} (hw : cl_H dd b M s H locs) (hl : lv_has ls 9 (lb_l scr b i)) : W p l e room_1 s m args below meth c H locs cells slots Q (F0 m 1755 ls []) := by
  have V0 := V
  obtain ⟨C, hN, hd, hX, hsb, hbs⟩ := V
  have hx := C.1
  have hb := C.2.1
  have hlt := C.2.2.2.2.2.2.2.2.2.2
  have s5 := cl_s00 hd
  have s6 := cl_s237 hd
  obtain ⟨o, w, M2, e1, e2, e3, e4, e5, e6⟩ := lh_ok (cs := lc_fewestPegs) (by decide) (an_fewestPegs R0 (xs (i + 1)))
  have e3 : f_X6_fewestPegs (lh_M o) 237 (xs (i + 1)) = some (w, M2) := e3
  refine lv_aload_n hx hb dL_law_1755 rfl (lv_at hl 2 rfl) ?_
  refine lb_arg V0 hw (lv_at hl 1 rfl) (lv_at hl 0 rfl) (j := 1) dL_law_1756 dL_law_1757 dL_law_1759 dL_law_1760 dL_law_1761 rfl (by omega) hL ?_
  refine lv_aload_n hx hb dL_law_1762 rfl (lv_at hl 4 rfl) ?_
  refine lh_call C hN hw (h_fewestPegs hlt hd e1 e2) lo_273 sw_L_fewestPegs in_L cw_L_fewestPegs ⟨by decide +kernel, by decide +kernel, by decide +kernel⟩ (n := 3) rfl hl.1 (As := [.ref b, .int (xs (i + 1)), .ref (b + 247)]) rfl ⟨⟨Nat.le_of_ble_eq_true rfl, Nat.le_of_ble_eq_true rfl⟩, Nat.le_of_ble_eq_true rfl, by show cells + 1 ≤ 601024; omega, by show slots + 6 * 1 ≤ 7293034; omega⟩ dL_law_1763 (fun H locs hw => ?_)
  refine lv_istore (lv' := (5, .int (lh_r lc_fewestPegs o)) :: lb_l scr b i) hx hb dL_law_1766 hl (by decide) rfl (fun ls hl => ?_)
  refine lv_aload_n hx hb dL_law_1768 rfl (lv_at hl 4 rfl) ?_
  refine lb_arg V0 hw (lv_at hl 2 rfl) (lv_at hl 1 rfl) (j := 1) dL_law_1769 dL_law_1770 dL_law_1772 dL_law_1773 dL_law_1774 rfl (by omega) hL ?_
  refine cr_Vi C hw (c_X6_fewestPegs hlt s6 e3) cy_X6_fewestPegs vy_X6_fewestPegs lo_275 (cl_lt s6 (by decide)) (cl_e6 s6) rfl rfl (As := [.int (xs (i + 1))]) rfl hl.1 rfl ⟨⟨Nat.le_of_ble_eq_true rfl, Nat.le_of_ble_eq_true rfl⟩, Nat.le_of_ble_eq_true rfl, by show cells + 1 ≤ 601024; omega, by show slots + 6 * 1 ≤ 7293034; omega⟩ dL_law_1775 (fun H locs hw => ?_)
  refine lv_istore (lv' := (6, .int w) :: (5, .int (lh_r lc_fewestPegs o)) :: lb_l scr b i) hx hb dL_law_1778 hl (by decide) rfl (fun ls hl => ?_)
  refine lv_aload_n hx hb dL_law_1780 rfl (lv_at hl 5 rfl) ?_
  refine cr_Vi C hw (c_X6_thrown hlt s6 (show f_X6_thrown M2 237 = some (M2 237 4) from rfl)) cy_X6_thrown vy_X6_thrown lo_180 (cl_lt s6 (by decide)) (cl_e6 s6) rfl rfl (As := []) rfl hl.1 rfl ⟨⟨Nat.le_of_ble_eq_true rfl, Nat.le_of_ble_eq_true rfl⟩, Nat.le_of_ble_eq_true rfl, by show cells + 1 ≤ 601024; omega, by show slots + 6 * 1 ≤ 7293034; omega⟩ dL_law_1781 (fun H locs hw => ?_)
  refine lv_iload hx hb dL_law_1784 (lv_at hl 1 rfl) ?_
  refine lv_icmp_eq (tgt := 1791) hx hb dL_law_1786 (by decide) (fun c1 => ?_) (fun c1 => absurd e4 c1)
  refine lv_iload hx hb dL_law_1791 (lv_at hl 1 rfl) ?_
  have fin : W p l e room_1 s m args below meth c H locs (cells + 1) (slots + 6 * 1) Q (F0 m 1808 ls []) := by
    refine lv_goto (tgt := 3095) hx hb dL_law_1808 (by decide) ?_
    refine W.widen (k := cells + 10) (n := slots + 60) (by omega) (by omega) ?_
    exact back M2 H locs ls (cx_R_le e5 (by omega)) hw (lv_sub hl [2, 3, 4, 5, 6] rfl)
  refine lv_if_ne (tgt := 1808) hx hb dL_law_1793 (by decide) (fun c2 => fin) (fun c2 => ?_)
  refine lv_aload_n hx hb dL_law_1796 rfl (lv_at hl 6 rfl) ?_
  refine lv_iconst (v := 0) hx hb dL_law_1797 (by decide) ?_
  refine cr_lald C hw hd rfl dL_law_1798 ?_
  refine lv_iload hx hb dL_law_1799 (lv_at hl 0 rfl) ?_
  refine lv_i2l (v := w.toInt64) hx hb dL_law_1801 rfl ?_
  refine W.lcmp hx hb dL_law_1802 ?_
  exact lv_if_eq (tgt := 1808) hx hb dL_law_1803 (by decide) (fun _ => fin) (fun c3 => absurd (lf_lcmp (by rw [e6 c2])) c3)
set_option maxHeartbeats 4000000 in
set_option maxRecDepth 100000 in
theorem lb_44 {p : Program} {l : Launch} {e : Env} {s : State} {m : MethodId} {args : Array Value} {below : List Frame} {meth : Method} {c : Code} {cells slots : Nat} {Q : State → Prop} {dd : cl_D} {b scr L : Nat} {xs : Nat → Int32} (V : lb_C p l s m args meth c dd b scr L xs) {B i : Nat} {M : cl_M} (hi : i + 6 ≤ L) (hL : L ≤ 3072) (R0 : cx_R B M) (hB : B + 8200 < 2 ^ 30) (hcs : cells + 10 ≤ 601024 ∧ slots + 60 ≤ 7293034) (back : ∀ (M : cl_M) (H : Heap) (locs : List Loc) (ls : Array Slot), cx_R (B + 8200) M → cl_H dd b M s H locs → lv_has ls 9 (lb_l scr b i) → W p l e room_1 s m args below meth c H locs (cells + 10) (slots + 60) Q (F0 m 3095 ls [])) {H : Heap} {locs : List Loc} {ls : Array Slot} (hw : cl_H dd b M s H locs) (hl : lv_has ls 9 (lb_l scr b i)) : W p l e room_1 s m args below meth c H locs cells slots Q (F0 m 1960 ls []) := by
  have V0 := V
  obtain ⟨C, hN, hd, hX, hsb, hbs⟩ := V
  have hx := C.1
  have hb := C.2.1
  have hlt := C.2.2.2.2.2.2.2.2.2.2
  have s5 := cl_s00 hd
  have s6 := cl_s237 hd
  obtain ⟨o, w, M2, e1, e2, e3, e4, e5, e6⟩ := lh_ok (cs := lc_waterAfter) (by decide) (an_waterAfter R0 (by omega) (xs (i + 1)) (xs (i + 2)))
  have e3 : f_X6_waterAfter (lh_M o) 237 (xs (i + 1)) (xs (i + 2)) = some (w, M2) := e3
  refine lv_aload_n hx hb dL_law_1960 rfl (lv_at hl 2 rfl) ?_
  refine lb_arg V0 hw (lv_at hl 1 rfl) (lv_at hl 0 rfl) (j := 1) dL_law_1961 dL_law_1962 dL_law_1964 dL_law_1965 dL_law_1966 rfl (by omega) hL ?_
  refine lb_arg V0 hw (lv_at hl 1 rfl) (lv_at hl 0 rfl) (j := 2) dL_law_1967 dL_law_1968 dL_law_1970 dL_law_1971 dL_law_1972 rfl (by omega) hL ?_
  refine lv_aload_n hx hb dL_law_1973 rfl (lv_at hl 4 rfl) ?_
  refine lh_call C hN hw (h_waterAfter hlt hd e1 e2) lo_306 sw_L_waterAfter in_L cw_L_waterAfter ⟨by decide +kernel, by decide +kernel, by decide +kernel⟩ (n := 4) rfl hl.1 (As := [.ref b, .int (xs (i + 1)), .int (xs (i + 2)), .ref (b + 247)]) rfl ⟨⟨Nat.le_of_ble_eq_true rfl, Nat.le_of_ble_eq_true rfl⟩, Nat.le_of_ble_eq_true rfl, by show cells + 2 ≤ 601024; omega, by show slots + 6 * 2 ≤ 7293034; omega⟩ dL_law_1974 (fun H locs hw => ?_)
  refine lv_istore (lv' := (5, .int (lh_r lc_waterAfter o)) :: lb_l scr b i) hx hb dL_law_1977 hl (by decide) rfl (fun ls hl => ?_)
  refine lv_aload_n hx hb dL_law_1979 rfl (lv_at hl 4 rfl) ?_
  refine lb_arg V0 hw (lv_at hl 2 rfl) (lv_at hl 1 rfl) (j := 1) dL_law_1980 dL_law_1981 dL_law_1983 dL_law_1984 dL_law_1985 rfl (by omega) hL ?_
  refine lb_arg V0 hw (lv_at hl 2 rfl) (lv_at hl 1 rfl) (j := 2) dL_law_1986 dL_law_1987 dL_law_1989 dL_law_1990 dL_law_1991 rfl (by omega) hL ?_
  refine cr_Vi C hw (c_X6_waterAfter hlt s6 e3) cy_X6_waterAfter vy_X6_waterAfter lo_309 (cl_lt s6 (by decide)) (cl_e6 s6) rfl rfl (As := [.int (xs (i + 1)), .int (xs (i + 2))]) rfl hl.1 rfl ⟨⟨Nat.le_of_ble_eq_true rfl, Nat.le_of_ble_eq_true rfl⟩, Nat.le_of_ble_eq_true rfl, by show cells + 2 ≤ 601024; omega, by show slots + 6 * 2 ≤ 7293034; omega⟩ dL_law_1992 (fun H locs hw => ?_)
  refine lv_istore (lv' := (6, .int w) :: (5, .int (lh_r lc_waterAfter o)) :: lb_l scr b i) hx hb dL_law_1995 hl (by decide) rfl (fun ls hl => ?_)
  refine lv_aload_n hx hb dL_law_1997 rfl (lv_at hl 5 rfl) ?_
  refine cr_Vi C hw (c_X6_thrown hlt s6 (show f_X6_thrown M2 237 = some (M2 237 4) from rfl)) cy_X6_thrown vy_X6_thrown lo_180 (cl_lt s6 (by decide)) (cl_e6 s6) rfl rfl (As := []) rfl hl.1 rfl ⟨⟨Nat.le_of_ble_eq_true rfl, Nat.le_of_ble_eq_true rfl⟩, Nat.le_of_ble_eq_true rfl, by show cells + 2 ≤ 601024; omega, by show slots + 6 * 2 ≤ 7293034; omega⟩ dL_law_1998 (fun H locs hw => ?_)
  refine lv_iload hx hb dL_law_2001 (lv_at hl 1 rfl) ?_
  refine lv_icmp_eq (tgt := 2008) hx hb dL_law_2003 (by decide) (fun c1 => ?_) (fun c1 => absurd e4 c1)
  refine lv_iload hx hb dL_law_2008 (lv_at hl 1 rfl) ?_
  have fin : W p l e room_1 s m args below meth c H locs (cells + 2) (slots + 6 * 2) Q (F0 m 2025 ls []) := by
    refine lv_goto (tgt := 3095) hx hb dL_law_2025 (by decide) ?_
    refine W.widen (k := cells + 10) (n := slots + 60) (by omega) (by omega) ?_
    exact back M2 H locs ls (cx_R_le e5 (by omega)) hw (lv_sub hl [2, 3, 4, 5, 6] rfl)
  refine lv_if_ne (tgt := 2025) hx hb dL_law_2010 (by decide) (fun c2 => fin) (fun c2 => ?_)
  refine lv_aload_n hx hb dL_law_2013 rfl (lv_at hl 6 rfl) ?_
  refine lv_iconst (v := 0) hx hb dL_law_2014 (by decide) ?_
  refine cr_lald C hw hd rfl dL_law_2015 ?_
  refine lv_iload hx hb dL_law_2016 (lv_at hl 0 rfl) ?_
  refine lv_i2l (v := w.toInt64) hx hb dL_law_2018 rfl ?_
  refine W.lcmp hx hb dL_law_2019 ?_
  exact lv_if_eq (tgt := 2025) hx hb dL_law_2020 (by decide) (fun _ => fin) (fun c3 => absurd (lf_lcmp (by rw [e6 c2])) c3)
set_option maxHeartbeats 4000000 in
set_option maxRecDepth 100000 in
theorem lb_45 {p : Program} {l : Launch} {e : Env} {s : State} {m : MethodId} {args : Array Value} {below : List Frame} {meth : Method} {c : Code} {cells slots : Nat} {Q : State → Prop} {dd : cl_D} {b scr L : Nat} {xs : Nat → Int32} (V : lb_C p l s m args meth c dd b scr L xs) {B i : Nat} {M : cl_M} (hi : i + 6 ≤ L) (hL : L ≤ 3072) (R0 : cx_R B M) (hB : B + 8200 < 2 ^ 30) (hcs : cells + 10 ≤ 601024 ∧ slots + 60 ≤ 7293034) (back : ∀ (M : cl_M) (H : Heap) (locs : List Loc) (ls : Array Slot), cx_R (B + 8200) M → cl_H dd b M s H locs → lv_has ls 9 (lb_l scr b i) → W p l e room_1 s m args below meth c H locs (cells + 10) (slots + 60) Q (F0 m 3095 ls [])) {H : Heap} {locs : List Loc} {ls : Array Slot} (hw : cl_H dd b M s H locs) (hl : lv_has ls 9 (lb_l scr b i)) : W p l e room_1 s m args below meth c H locs cells slots Q (F0 m 2028 ls []) := by
  have V0 := V
  obtain ⟨C, hN, hd, hX, hsb, hbs⟩ := V
  have hx := C.1
  have hb := C.2.1
  have hlt := C.2.2.2.2.2.2.2.2.2.2
  have s5 := cl_s00 hd
  have s6 := cl_s237 hd
  obtain ⟨o, w, M2, e1, e2, e3, e4, e5, e6⟩ := lh_ok (cs := lc_minutesToDry) (by decide) (an_minutesToDry R0 (by omega) (xs (i + 1)))
  have e3 : f_X6_minutesToDry (lh_M o) 237 (xs (i + 1)) = some (w, M2) := e3
  refine lv_aload_n hx hb dL_law_2028 rfl (lv_at hl 2 rfl) ?_
  refine lb_arg V0 hw (lv_at hl 1 rfl) (lv_at hl 0 rfl) (j := 1) dL_law_2029 dL_law_2030 dL_law_2032 dL_law_2033 dL_law_2034 rfl (by omega) hL ?_
  refine lv_aload_n hx hb dL_law_2035 rfl (lv_at hl 4 rfl) ?_
  refine lh_call C hN hw (h_minutesToDry hlt hd e1 e2) lo_310 sw_L_minutesToDry in_L cw_L_minutesToDry ⟨by decide +kernel, by decide +kernel, by decide +kernel⟩ (n := 3) rfl hl.1 (As := [.ref b, .int (xs (i + 1)), .ref (b + 247)]) rfl ⟨⟨Nat.le_of_ble_eq_true rfl, Nat.le_of_ble_eq_true rfl⟩, Nat.le_of_ble_eq_true rfl, by show cells + 1 ≤ 601024; omega, by show slots + 6 * 1 ≤ 7293034; omega⟩ dL_law_2036 (fun H locs hw => ?_)
  refine lv_istore (lv' := (5, .int (lh_r lc_minutesToDry o)) :: lb_l scr b i) hx hb dL_law_2039 hl (by decide) rfl (fun ls hl => ?_)
  refine lv_aload_n hx hb dL_law_2041 rfl (lv_at hl 4 rfl) ?_
  refine lb_arg V0 hw (lv_at hl 2 rfl) (lv_at hl 1 rfl) (j := 1) dL_law_2042 dL_law_2043 dL_law_2045 dL_law_2046 dL_law_2047 rfl (by omega) hL ?_
  refine cr_Vi C hw (c_X6_minutesToDry hlt s6 e3) cy_X6_minutesToDry vy_X6_minutesToDry lo_312 (cl_lt s6 (by decide)) (cl_e6 s6) rfl rfl (As := [.int (xs (i + 1))]) rfl hl.1 rfl ⟨⟨Nat.le_of_ble_eq_true rfl, Nat.le_of_ble_eq_true rfl⟩, Nat.le_of_ble_eq_true rfl, by show cells + 1 ≤ 601024; omega, by show slots + 6 * 1 ≤ 7293034; omega⟩ dL_law_2048 (fun H locs hw => ?_)
  refine lv_istore (lv' := (6, .int w) :: (5, .int (lh_r lc_minutesToDry o)) :: lb_l scr b i) hx hb dL_law_2051 hl (by decide) rfl (fun ls hl => ?_)
  refine lv_aload_n hx hb dL_law_2053 rfl (lv_at hl 5 rfl) ?_
  refine cr_Vi C hw (c_X6_thrown hlt s6 (show f_X6_thrown M2 237 = some (M2 237 4) from rfl)) cy_X6_thrown vy_X6_thrown lo_180 (cl_lt s6 (by decide)) (cl_e6 s6) rfl rfl (As := []) rfl hl.1 rfl ⟨⟨Nat.le_of_ble_eq_true rfl, Nat.le_of_ble_eq_true rfl⟩, Nat.le_of_ble_eq_true rfl, by show cells + 1 ≤ 601024; omega, by show slots + 6 * 1 ≤ 7293034; omega⟩ dL_law_2054 (fun H locs hw => ?_)
  refine lv_iload hx hb dL_law_2057 (lv_at hl 1 rfl) ?_
  refine lv_icmp_eq (tgt := 2064) hx hb dL_law_2059 (by decide) (fun c1 => ?_) (fun c1 => absurd e4 c1)
  refine lv_iload hx hb dL_law_2064 (lv_at hl 1 rfl) ?_
  have fin : W p l e room_1 s m args below meth c H locs (cells + 1) (slots + 6 * 1) Q (F0 m 2081 ls []) := by
    refine lv_goto (tgt := 3095) hx hb dL_law_2081 (by decide) ?_
    refine W.widen (k := cells + 10) (n := slots + 60) (by omega) (by omega) ?_
    exact back M2 H locs ls (cx_R_le e5 (by omega)) hw (lv_sub hl [2, 3, 4, 5, 6] rfl)
  refine lv_if_ne (tgt := 2081) hx hb dL_law_2066 (by decide) (fun c2 => fin) (fun c2 => ?_)
  refine lv_aload_n hx hb dL_law_2069 rfl (lv_at hl 6 rfl) ?_
  refine lv_iconst (v := 0) hx hb dL_law_2070 (by decide) ?_
  refine cr_lald C hw hd rfl dL_law_2071 ?_
  refine lv_iload hx hb dL_law_2072 (lv_at hl 0 rfl) ?_
  refine lv_i2l (v := w.toInt64) hx hb dL_law_2074 rfl ?_
  refine W.lcmp hx hb dL_law_2075 ?_
  exact lv_if_eq (tgt := 2081) hx hb dL_law_2076 (by decide) (fun _ => fin) (fun c3 => absurd (lf_lcmp (by rw [e6 c2])) c3)
set_option maxHeartbeats 4000000 in
set_option maxRecDepth 100000 in
theorem lb_46 {p : Program} {l : Launch} {e : Env} {s : State} {m : MethodId} {args : Array Value} {below : List Frame} {meth : Method} {c : Code} {cells slots : Nat} {Q : State → Prop} {dd : cl_D} {b scr L : Nat} {xs : Nat → Int32} (V : lb_C p l s m args meth c dd b scr L xs) {B i : Nat} {M : cl_M} (hi : i + 6 ≤ L) (hL : L ≤ 3072) (R0 : cx_R B M) (hB : B + 8200 < 2 ^ 30) (hcs : cells + 10 ≤ 601024 ∧ slots + 60 ≤ 7293034) (back : ∀ (M : cl_M) (H : Heap) (locs : List Loc) (ls : Array Slot), cx_R (B + 8200) M → cl_H dd b M s H locs → lv_has ls 9 (lb_l scr b i) → W p l e room_1 s m args below meth c H locs (cells + 10) (slots + 60) Q (F0 m 3095 ls [])) {H : Heap} {locs : List Loc} {ls : Array Slot} (hw : cl_H dd b M s H locs) (hl : lv_has ls 9 (lb_l scr b i)) : W p l e room_1 s m args below meth c H locs cells slots Q (F0 m 2084 ls []) := by
  have V0 := V
  obtain ⟨C, hN, hd, hX, hsb, hbs⟩ := V
  have hx := C.1
  have hb := C.2.1
  have hlt := C.2.2.2.2.2.2.2.2.2.2
  have s5 := cl_s00 hd
  have s6 := cl_s237 hd
  obtain ⟨o, w, M2, e1, e2, e3, e4, e5, e6⟩ := lh_ok (cs := lc_minutesToFall) (by decide) (an_minutesToFall R0 (by omega) (xs (i + 1)))
  have e3 : f_X6_minutesToFall (lh_M o) 237 (xs (i + 1)) = some (w, M2) := e3
  refine lv_aload_n hx hb dL_law_2084 rfl (lv_at hl 2 rfl) ?_
  refine lb_arg V0 hw (lv_at hl 1 rfl) (lv_at hl 0 rfl) (j := 1) dL_law_2085 dL_law_2086 dL_law_2088 dL_law_2089 dL_law_2090 rfl (by omega) hL ?_
  refine lv_aload_n hx hb dL_law_2091 rfl (lv_at hl 4 rfl) ?_
  refine lh_call C hN hw (h_minutesToFall hlt hd e1 e2) lo_313 sw_L_minutesToFall in_L cw_L_minutesToFall ⟨by decide +kernel, by decide +kernel, by decide +kernel⟩ (n := 3) rfl hl.1 (As := [.ref b, .int (xs (i + 1)), .ref (b + 247)]) rfl ⟨⟨Nat.le_of_ble_eq_true rfl, Nat.le_of_ble_eq_true rfl⟩, Nat.le_of_ble_eq_true rfl, by show cells + 1 ≤ 601024; omega, by show slots + 6 * 1 ≤ 7293034; omega⟩ dL_law_2092 (fun H locs hw => ?_)
  refine lv_istore (lv' := (5, .int (lh_r lc_minutesToFall o)) :: lb_l scr b i) hx hb dL_law_2095 hl (by decide) rfl (fun ls hl => ?_)
  refine lv_aload_n hx hb dL_law_2097 rfl (lv_at hl 4 rfl) ?_
  refine lb_arg V0 hw (lv_at hl 2 rfl) (lv_at hl 1 rfl) (j := 1) dL_law_2098 dL_law_2099 dL_law_2101 dL_law_2102 dL_law_2103 rfl (by omega) hL ?_
  refine cr_Vi C hw (c_X6_minutesToFall hlt s6 e3) cy_X6_minutesToFall vy_X6_minutesToFall lo_315 (cl_lt s6 (by decide)) (cl_e6 s6) rfl rfl (As := [.int (xs (i + 1))]) rfl hl.1 rfl ⟨⟨Nat.le_of_ble_eq_true rfl, Nat.le_of_ble_eq_true rfl⟩, Nat.le_of_ble_eq_true rfl, by show cells + 1 ≤ 601024; omega, by show slots + 6 * 1 ≤ 7293034; omega⟩ dL_law_2104 (fun H locs hw => ?_)
  refine lv_istore (lv' := (6, .int w) :: (5, .int (lh_r lc_minutesToFall o)) :: lb_l scr b i) hx hb dL_law_2107 hl (by decide) rfl (fun ls hl => ?_)
  refine lv_aload_n hx hb dL_law_2109 rfl (lv_at hl 5 rfl) ?_
  refine cr_Vi C hw (c_X6_thrown hlt s6 (show f_X6_thrown M2 237 = some (M2 237 4) from rfl)) cy_X6_thrown vy_X6_thrown lo_180 (cl_lt s6 (by decide)) (cl_e6 s6) rfl rfl (As := []) rfl hl.1 rfl ⟨⟨Nat.le_of_ble_eq_true rfl, Nat.le_of_ble_eq_true rfl⟩, Nat.le_of_ble_eq_true rfl, by show cells + 1 ≤ 601024; omega, by show slots + 6 * 1 ≤ 7293034; omega⟩ dL_law_2110 (fun H locs hw => ?_)
  refine lv_iload hx hb dL_law_2113 (lv_at hl 1 rfl) ?_
  refine lv_icmp_eq (tgt := 2120) hx hb dL_law_2115 (by decide) (fun c1 => ?_) (fun c1 => absurd e4 c1)
  refine lv_iload hx hb dL_law_2120 (lv_at hl 1 rfl) ?_
  have fin : W p l e room_1 s m args below meth c H locs (cells + 1) (slots + 6 * 1) Q (F0 m 2137 ls []) := by
    refine lv_goto (tgt := 3095) hx hb dL_law_2137 (by decide) ?_
    refine W.widen (k := cells + 10) (n := slots + 60) (by omega) (by omega) ?_
    exact back M2 H locs ls (cx_R_le e5 (by omega)) hw (lv_sub hl [2, 3, 4, 5, 6] rfl)
  refine lv_if_ne (tgt := 2137) hx hb dL_law_2122 (by decide) (fun c2 => fin) (fun c2 => ?_)
  refine lv_aload_n hx hb dL_law_2125 rfl (lv_at hl 6 rfl) ?_
  refine lv_iconst (v := 0) hx hb dL_law_2126 (by decide) ?_
  refine cr_lald C hw hd rfl dL_law_2127 ?_
  refine lv_iload hx hb dL_law_2128 (lv_at hl 0 rfl) ?_
  refine lv_i2l (v := w.toInt64) hx hb dL_law_2130 rfl ?_
  refine W.lcmp hx hb dL_law_2131 ?_
  exact lv_if_eq (tgt := 2137) hx hb dL_law_2132 (by decide) (fun _ => fin) (fun c3 => absurd (lf_lcmp (by rw [e6 c2])) c3)
set_option maxHeartbeats 4000000 in
set_option maxRecDepth 100000 in
theorem lb_48 {p : Program} {l : Launch} {e : Env} {s : State} {m : MethodId} {args : Array Value} {below : List Frame} {meth : Method} {c : Code} {cells slots : Nat} {Q : State → Prop} {dd : cl_D} {b scr L : Nat} {xs : Nat → Int32} (V : lb_C p l s m args meth c dd b scr L xs) {B i : Nat} {M : cl_M} (hi : i + 6 ≤ L) (hL : L ≤ 3072) (R0 : cx_R B M) (hB : B + 8200 < 2 ^ 30) (hcs : cells + 10 ≤ 601024 ∧ slots + 60 ≤ 7293034) (back : ∀ (M : cl_M) (H : Heap) (locs : List Loc) (ls : Array Slot), cx_R (B + 8200) M → cl_H dd b M s H locs → lv_has ls 9 (lb_l scr b i) → W p l e room_1 s m args below meth c H locs (cells + 10) (slots + 60) Q (F0 m 3095 ls [])) {H : Heap} {locs : List Loc} {ls : Array Slot} (hw : cl_H dd b M s H locs) (hl : lv_has ls 9 (lb_l scr b i)) : W p l e room_1 s m args below meth c H locs cells slots Q (F0 m 2153 ls []) := by
  have V0 := V
  obtain ⟨C, hN, hd, hX, hsb, hbs⟩ := V
  have hx := C.1
  have hb := C.2.1
  have hlt := C.2.2.2.2.2.2.2.2.2.2
  have s5 := cl_s00 hd
  have s6 := cl_s237 hd
  obtain ⟨o, w, M2, e1, e2, e3, e4, e5, e6⟩ := lh_ok (cs := lc_bestSpot) (by decide) (an_bestSpot R0 (by omega) (xs (i + 1)))
  have e3 : f_X6_bestSpot (lh_M o) 237 (xs (i + 1)) = some (w, M2) := e3
  refine lv_aload_n hx hb dL_law_2153 rfl (lv_at hl 2 rfl) ?_
  refine lb_arg V0 hw (lv_at hl 1 rfl) (lv_at hl 0 rfl) (j := 1) dL_law_2154 dL_law_2155 dL_law_2157 dL_law_2158 dL_law_2159 rfl (by omega) hL ?_
  refine lv_aload_n hx hb dL_law_2160 rfl (lv_at hl 4 rfl) ?_
  refine lh_call C hN hw (h_bestSpot hlt hd e1 e2) lo_320 sw_L_bestSpot in_L cw_L_bestSpot ⟨by decide +kernel, by decide +kernel, by decide +kernel⟩ (n := 3) rfl hl.1 (As := [.ref b, .int (xs (i + 1)), .ref (b + 247)]) rfl ⟨⟨Nat.le_of_ble_eq_true rfl, Nat.le_of_ble_eq_true rfl⟩, Nat.le_of_ble_eq_true rfl, by show cells + 1 ≤ 601024; omega, by show slots + 6 * 1 ≤ 7293034; omega⟩ dL_law_2161 (fun H locs hw => ?_)
  refine lv_istore (lv' := (5, .int (lh_r lc_bestSpot o)) :: lb_l scr b i) hx hb dL_law_2164 hl (by decide) rfl (fun ls hl => ?_)
  refine lv_aload_n hx hb dL_law_2166 rfl (lv_at hl 4 rfl) ?_
  refine lb_arg V0 hw (lv_at hl 2 rfl) (lv_at hl 1 rfl) (j := 1) dL_law_2167 dL_law_2168 dL_law_2170 dL_law_2171 dL_law_2172 rfl (by omega) hL ?_
  refine cr_Vi C hw (c_X6_bestSpot hlt s6 e3) cy_X6_bestSpot vy_X6_bestSpot lo_322 (cl_lt s6 (by decide)) (cl_e6 s6) rfl rfl (As := [.int (xs (i + 1))]) rfl hl.1 rfl ⟨⟨Nat.le_of_ble_eq_true rfl, Nat.le_of_ble_eq_true rfl⟩, Nat.le_of_ble_eq_true rfl, by show cells + 1 ≤ 601024; omega, by show slots + 6 * 1 ≤ 7293034; omega⟩ dL_law_2173 (fun H locs hw => ?_)
  refine lv_istore (lv' := (6, .int w) :: (5, .int (lh_r lc_bestSpot o)) :: lb_l scr b i) hx hb dL_law_2176 hl (by decide) rfl (fun ls hl => ?_)
  refine lv_aload_n hx hb dL_law_2178 rfl (lv_at hl 5 rfl) ?_
  refine cr_Vi C hw (c_X6_thrown hlt s6 (show f_X6_thrown M2 237 = some (M2 237 4) from rfl)) cy_X6_thrown vy_X6_thrown lo_180 (cl_lt s6 (by decide)) (cl_e6 s6) rfl rfl (As := []) rfl hl.1 rfl ⟨⟨Nat.le_of_ble_eq_true rfl, Nat.le_of_ble_eq_true rfl⟩, Nat.le_of_ble_eq_true rfl, by show cells + 1 ≤ 601024; omega, by show slots + 6 * 1 ≤ 7293034; omega⟩ dL_law_2179 (fun H locs hw => ?_)
  refine lv_iload hx hb dL_law_2182 (lv_at hl 1 rfl) ?_
  refine lv_icmp_eq (tgt := 2189) hx hb dL_law_2184 (by decide) (fun c1 => ?_) (fun c1 => absurd e4 c1)
  refine lv_iload hx hb dL_law_2189 (lv_at hl 1 rfl) ?_
  have fin : W p l e room_1 s m args below meth c H locs (cells + 1) (slots + 6 * 1) Q (F0 m 2206 ls []) := by
    refine lv_goto (tgt := 3095) hx hb dL_law_2206 (by decide) ?_
    refine W.widen (k := cells + 10) (n := slots + 60) (by omega) (by omega) ?_
    exact back M2 H locs ls (cx_R_le e5 (by omega)) hw (lv_sub hl [2, 3, 4, 5, 6] rfl)
  refine lv_if_ne (tgt := 2206) hx hb dL_law_2191 (by decide) (fun c2 => fin) (fun c2 => ?_)
  refine lv_aload_n hx hb dL_law_2194 rfl (lv_at hl 6 rfl) ?_
  refine lv_iconst (v := 0) hx hb dL_law_2195 (by decide) ?_
  refine cr_lald C hw hd rfl dL_law_2196 ?_
  refine lv_iload hx hb dL_law_2197 (lv_at hl 0 rfl) ?_
  refine lv_i2l (v := w.toInt64) hx hb dL_law_2199 rfl ?_
  refine W.lcmp hx hb dL_law_2200 ?_
  exact lv_if_eq (tgt := 2206) hx hb dL_law_2201 (by decide) (fun _ => fin) (fun c3 => absurd (lf_lcmp (by rw [e6 c2])) c3)
set_option maxHeartbeats 4000000 in
set_option maxRecDepth 100000 in
theorem lb_49 {p : Program} {l : Launch} {e : Env} {s : State} {m : MethodId} {args : Array Value} {below : List Frame} {meth : Method} {c : Code} {cells slots : Nat} {Q : State → Prop} {dd : cl_D} {b scr L : Nat} {xs : Nat → Int32} (V : lb_C p l s m args meth c dd b scr L xs) {B i : Nat} {M : cl_M} (hi : i + 6 ≤ L) (hL : L ≤ 3072) (R0 : cx_R B M) (hB : B + 8200 < 2 ^ 30) (hcs : cells + 10 ≤ 601024 ∧ slots + 60 ≤ 7293034) (back : ∀ (M : cl_M) (H : Heap) (locs : List Loc) (ls : Array Slot), cx_R (B + 8200) M → cl_H dd b M s H locs → lv_has ls 9 (lb_l scr b i) → W p l e room_1 s m args below meth c H locs (cells + 10) (slots + 60) Q (F0 m 3095 ls [])) {H : Heap} {locs : List Loc} {ls : Array Slot} (hw : cl_H dd b M s H locs) (hl : lv_has ls 9 (lb_l scr b i)) : W p l e room_1 s m args below meth c H locs cells slots Q (F0 m 2209 ls []) := by
  have V0 := V
  obtain ⟨C, hN, hd, hX, hsb, hbs⟩ := V
  have hx := C.1
  have hb := C.2.1
  have hlt := C.2.2.2.2.2.2.2.2.2.2
  have s5 := cl_s00 hd
  have s6 := cl_s237 hd
  obtain ⟨o, w, M2, e1, e2, e3, e4, e5, e6⟩ := lh_ok (cs := lc_addGarment) (by decide) (an_addGarment R0 (xs (i + 1)) (xs (i + 2)) (xs (i + 3)) (xs (i + 4)))
  have e3 : f_X6_addGarment (lh_M o) 237 (xs (i + 1)) (xs (i + 2)) (xs (i + 3)) (xs (i + 4)) = some (w, M2) := e3
  refine lv_aload_n hx hb dL_law_2209 rfl (lv_at hl 2 rfl) ?_
  refine lb_arg V0 hw (lv_at hl 1 rfl) (lv_at hl 0 rfl) (j := 1) dL_law_2210 dL_law_2211 dL_law_2213 dL_law_2214 dL_law_2215 rfl (by omega) hL ?_
  refine lb_arg V0 hw (lv_at hl 1 rfl) (lv_at hl 0 rfl) (j := 2) dL_law_2216 dL_law_2217 dL_law_2219 dL_law_2220 dL_law_2221 rfl (by omega) hL ?_
  refine lb_arg V0 hw (lv_at hl 1 rfl) (lv_at hl 0 rfl) (j := 3) dL_law_2222 dL_law_2223 dL_law_2225 dL_law_2226 dL_law_2227 rfl (by omega) hL ?_
  refine lb_arg V0 hw (lv_at hl 1 rfl) (lv_at hl 0 rfl) (j := 4) dL_law_2228 dL_law_2229 dL_law_2231 dL_law_2232 dL_law_2233 rfl (by omega) hL ?_
  refine lv_aload_n hx hb dL_law_2234 rfl (lv_at hl 4 rfl) ?_
  refine lh_call C hN hw (h_addGarment hlt hd e1 e2) lo_323 sw_L_addGarment in_L cw_L_addGarment ⟨by decide +kernel, by decide +kernel, by decide +kernel⟩ (n := 6) rfl hl.1 (As := [.ref b, .int (xs (i + 1)), .int (xs (i + 2)), .int (xs (i + 3)), .int (xs (i + 4)), .ref (b + 247)]) rfl ⟨⟨Nat.le_of_ble_eq_true rfl, Nat.le_of_ble_eq_true rfl⟩, Nat.le_of_ble_eq_true rfl, by show cells + 5 ≤ 601024; omega, by show slots + 6 * 5 ≤ 7293034; omega⟩ dL_law_2235 (fun H locs hw => ?_)
  refine lv_istore (lv' := (5, .int (lh_r lc_addGarment o)) :: lb_l scr b i) hx hb dL_law_2238 hl (by decide) rfl (fun ls hl => ?_)
  refine lv_aload_n hx hb dL_law_2240 rfl (lv_at hl 4 rfl) ?_
  refine lb_arg V0 hw (lv_at hl 2 rfl) (lv_at hl 1 rfl) (j := 1) dL_law_2241 dL_law_2242 dL_law_2244 dL_law_2245 dL_law_2246 rfl (by omega) hL ?_
  refine lb_arg V0 hw (lv_at hl 2 rfl) (lv_at hl 1 rfl) (j := 2) dL_law_2247 dL_law_2248 dL_law_2250 dL_law_2251 dL_law_2252 rfl (by omega) hL ?_
  refine lb_arg V0 hw (lv_at hl 2 rfl) (lv_at hl 1 rfl) (j := 3) dL_law_2253 dL_law_2254 dL_law_2256 dL_law_2257 dL_law_2258 rfl (by omega) hL ?_
  refine lb_arg V0 hw (lv_at hl 2 rfl) (lv_at hl 1 rfl) (j := 4) dL_law_2259 dL_law_2260 dL_law_2262 dL_law_2263 dL_law_2264 rfl (by omega) hL ?_
  refine cr_Vi C hw (c_X6_addGarment hlt s6 e3) cy_X6_addGarment vy_X6_addGarment lo_325 (cl_lt s6 (by decide)) (cl_e6 s6) rfl rfl (As := [.int (xs (i + 1)), .int (xs (i + 2)), .int (xs (i + 3)), .int (xs (i + 4))]) rfl hl.1 rfl ⟨⟨Nat.le_of_ble_eq_true rfl, Nat.le_of_ble_eq_true rfl⟩, Nat.le_of_ble_eq_true rfl, by show cells + 5 ≤ 601024; omega, by show slots + 6 * 5 ≤ 7293034; omega⟩ dL_law_2265 (fun H locs hw => ?_)
  refine lv_istore (lv' := (6, .int w) :: (5, .int (lh_r lc_addGarment o)) :: lb_l scr b i) hx hb dL_law_2268 hl (by decide) rfl (fun ls hl => ?_)
  refine lv_aload_n hx hb dL_law_2270 rfl (lv_at hl 5 rfl) ?_
  refine cr_Vi C hw (c_X6_thrown hlt s6 (show f_X6_thrown M2 237 = some (M2 237 4) from rfl)) cy_X6_thrown vy_X6_thrown lo_180 (cl_lt s6 (by decide)) (cl_e6 s6) rfl rfl (As := []) rfl hl.1 rfl ⟨⟨Nat.le_of_ble_eq_true rfl, Nat.le_of_ble_eq_true rfl⟩, Nat.le_of_ble_eq_true rfl, by show cells + 5 ≤ 601024; omega, by show slots + 6 * 5 ≤ 7293034; omega⟩ dL_law_2271 (fun H locs hw => ?_)
  refine lv_iload hx hb dL_law_2274 (lv_at hl 1 rfl) ?_
  refine lv_icmp_eq (tgt := 2281) hx hb dL_law_2276 (by decide) (fun c1 => ?_) (fun c1 => absurd e4 c1)
  refine lv_iload hx hb dL_law_2281 (lv_at hl 1 rfl) ?_
  have fin : W p l e room_1 s m args below meth c H locs (cells + 5) (slots + 6 * 5) Q (F0 m 2298 ls []) := by
    refine lv_goto (tgt := 3095) hx hb dL_law_2298 (by decide) ?_
    refine W.widen (k := cells + 10) (n := slots + 60) (by omega) (by omega) ?_
    exact back M2 H locs ls (cx_R_le e5 (by omega)) hw (lv_sub hl [2, 3, 4, 5, 6] rfl)
  refine lv_if_ne (tgt := 2298) hx hb dL_law_2283 (by decide) (fun c2 => fin) (fun c2 => ?_)
  refine lv_aload_n hx hb dL_law_2286 rfl (lv_at hl 6 rfl) ?_
  refine lv_iconst (v := 0) hx hb dL_law_2287 (by decide) ?_
  refine cr_lald C hw hd rfl dL_law_2288 ?_
  refine lv_iload hx hb dL_law_2289 (lv_at hl 0 rfl) ?_
  refine lv_i2l (v := w.toInt64) hx hb dL_law_2291 rfl ?_
  refine W.lcmp hx hb dL_law_2292 ?_
  exact lv_if_eq (tgt := 2298) hx hb dL_law_2293 (by decide) (fun _ => fin) (fun c3 => absurd (lf_lcmp (by rw [e6 c2])) c3)
set_option maxHeartbeats 4000000 in
set_option maxRecDepth 100000 in
theorem lb_50 {p : Program} {l : Launch} {e : Env} {s : State} {m : MethodId} {args : Array Value} {below : List Frame} {meth : Method} {c : Code} {cells slots : Nat} {Q : State → Prop} {dd : cl_D} {b scr L : Nat} {xs : Nat → Int32} (V : lb_C p l s m args meth c dd b scr L xs) {B i : Nat} {M : cl_M} (hi : i + 6 ≤ L) (hL : L ≤ 3072) (R0 : cx_R B M) (hB : B + 8200 < 2 ^ 30) (hcs : cells + 10 ≤ 601024 ∧ slots + 60 ≤ 7293034) (back : ∀ (M : cl_M) (H : Heap) (locs : List Loc) (ls : Array Slot), cx_R (B + 8200) M → cl_H dd b M s H locs → lv_has ls 9 (lb_l scr b i) → W p l e room_1 s m args below meth c H locs (cells + 10) (slots + 60) Q (F0 m 3095 ls [])) {H : Heap} {locs : List Loc} {ls : Array Slot} (hw : cl_H dd b M s H locs) (hl : lv_has ls 9 (lb_l scr b i)) : W p l e room_1 s m args below meth c H locs cells slots Q (F0 m 2301 ls []) := by
  have V0 := V
  obtain ⟨C, hN, hd, hX, hsb, hbs⟩ := V
  have hx := C.1
  have hb := C.2.1
  have hlt := C.2.2.2.2.2.2.2.2.2.2
  have s5 := cl_s00 hd
  have s6 := cl_s237 hd
  obtain ⟨o, w, M2, e1, e2, e3, e4, e5, e6⟩ := lh_ok (cs := lc_hang) (by decide) (an_hang R0 (xs (i + 1)) (xs (i + 2)) (xs (i + 3)) (xs (i + 4)))
  have e3 : f_X6_hang (lh_M o) 237 (xs (i + 1)) (xs (i + 2)) (xs (i + 3)) (xs (i + 4)) = some (w, M2) := e3
  refine lv_aload_n hx hb dL_law_2301 rfl (lv_at hl 2 rfl) ?_
  refine lb_arg V0 hw (lv_at hl 1 rfl) (lv_at hl 0 rfl) (j := 1) dL_law_2302 dL_law_2303 dL_law_2305 dL_law_2306 dL_law_2307 rfl (by omega) hL ?_
  refine lb_arg V0 hw (lv_at hl 1 rfl) (lv_at hl 0 rfl) (j := 2) dL_law_2308 dL_law_2309 dL_law_2311 dL_law_2312 dL_law_2313 rfl (by omega) hL ?_
  refine lb_arg V0 hw (lv_at hl 1 rfl) (lv_at hl 0 rfl) (j := 3) dL_law_2314 dL_law_2315 dL_law_2317 dL_law_2318 dL_law_2319 rfl (by omega) hL ?_
  refine lb_arg V0 hw (lv_at hl 1 rfl) (lv_at hl 0 rfl) (j := 4) dL_law_2320 dL_law_2321 dL_law_2323 dL_law_2324 dL_law_2325 rfl (by omega) hL ?_
  refine lv_aload_n hx hb dL_law_2326 rfl (lv_at hl 4 rfl) ?_
  refine lh_call C hN hw (h_hang hlt hd e1 e2) lo_326 sw_L_hang in_L cw_L_hang ⟨by decide +kernel, by decide +kernel, by decide +kernel⟩ (n := 6) rfl hl.1 (As := [.ref b, .int (xs (i + 1)), .int (xs (i + 2)), .int (xs (i + 3)), .int (xs (i + 4)), .ref (b + 247)]) rfl ⟨⟨Nat.le_of_ble_eq_true rfl, Nat.le_of_ble_eq_true rfl⟩, Nat.le_of_ble_eq_true rfl, by show cells + 6 ≤ 601024; omega, by show slots + 6 * 6 ≤ 7293034; omega⟩ dL_law_2327 (fun H locs hw => ?_)
  refine lv_istore (lv' := (5, .int (lh_r lc_hang o)) :: lb_l scr b i) hx hb dL_law_2330 hl (by decide) rfl (fun ls hl => ?_)
  refine lv_aload_n hx hb dL_law_2332 rfl (lv_at hl 4 rfl) ?_
  refine lb_arg V0 hw (lv_at hl 2 rfl) (lv_at hl 1 rfl) (j := 1) dL_law_2333 dL_law_2334 dL_law_2336 dL_law_2337 dL_law_2338 rfl (by omega) hL ?_
  refine lb_arg V0 hw (lv_at hl 2 rfl) (lv_at hl 1 rfl) (j := 2) dL_law_2339 dL_law_2340 dL_law_2342 dL_law_2343 dL_law_2344 rfl (by omega) hL ?_
  refine lb_arg V0 hw (lv_at hl 2 rfl) (lv_at hl 1 rfl) (j := 3) dL_law_2345 dL_law_2346 dL_law_2348 dL_law_2349 dL_law_2350 rfl (by omega) hL ?_
  refine lb_arg V0 hw (lv_at hl 2 rfl) (lv_at hl 1 rfl) (j := 4) dL_law_2351 dL_law_2352 dL_law_2354 dL_law_2355 dL_law_2356 rfl (by omega) hL ?_
  refine cr_Vi C hw (c_X6_hang hlt s6 e3) cy_X6_hang vy_X6_hang lo_328 (cl_lt s6 (by decide)) (cl_e6 s6) rfl rfl (As := [.int (xs (i + 1)), .int (xs (i + 2)), .int (xs (i + 3)), .int (xs (i + 4))]) rfl hl.1 rfl ⟨⟨Nat.le_of_ble_eq_true rfl, Nat.le_of_ble_eq_true rfl⟩, Nat.le_of_ble_eq_true rfl, by show cells + 6 ≤ 601024; omega, by show slots + 6 * 6 ≤ 7293034; omega⟩ dL_law_2357 (fun H locs hw => ?_)
  refine lv_istore (lv' := (6, .int w) :: (5, .int (lh_r lc_hang o)) :: lb_l scr b i) hx hb dL_law_2360 hl (by decide) rfl (fun ls hl => ?_)
  refine lv_aload_n hx hb dL_law_2362 rfl (lv_at hl 5 rfl) ?_
  refine cr_Vi C hw (c_X6_thrown hlt s6 (show f_X6_thrown M2 237 = some (M2 237 4) from rfl)) cy_X6_thrown vy_X6_thrown lo_180 (cl_lt s6 (by decide)) (cl_e6 s6) rfl rfl (As := []) rfl hl.1 rfl ⟨⟨Nat.le_of_ble_eq_true rfl, Nat.le_of_ble_eq_true rfl⟩, Nat.le_of_ble_eq_true rfl, by show cells + 6 ≤ 601024; omega, by show slots + 6 * 6 ≤ 7293034; omega⟩ dL_law_2363 (fun H locs hw => ?_)
  refine lv_iload hx hb dL_law_2366 (lv_at hl 1 rfl) ?_
  refine lv_icmp_eq (tgt := 2373) hx hb dL_law_2368 (by decide) (fun c1 => ?_) (fun c1 => absurd e4 c1)
  refine lv_iload hx hb dL_law_2373 (lv_at hl 1 rfl) ?_
  have fin : W p l e room_1 s m args below meth c H locs (cells + 6) (slots + 6 * 6) Q (F0 m 2390 ls []) := by
    refine lv_goto (tgt := 3095) hx hb dL_law_2390 (by decide) ?_
    refine W.widen (k := cells + 10) (n := slots + 60) (by omega) (by omega) ?_
    exact back M2 H locs ls (cx_R_le e5 (by omega)) hw (lv_sub hl [2, 3, 4, 5, 6] rfl)
  refine lv_if_ne (tgt := 2390) hx hb dL_law_2375 (by decide) (fun c2 => fin) (fun c2 => ?_)
  refine lv_aload_n hx hb dL_law_2378 rfl (lv_at hl 6 rfl) ?_
  refine lv_iconst (v := 0) hx hb dL_law_2379 (by decide) ?_
  refine cr_lald C hw hd rfl dL_law_2380 ?_
  refine lv_iload hx hb dL_law_2381 (lv_at hl 0 rfl) ?_
  refine lv_i2l (v := w.toInt64) hx hb dL_law_2383 rfl ?_
  refine W.lcmp hx hb dL_law_2384 ?_
  exact lv_if_eq (tgt := 2390) hx hb dL_law_2385 (by decide) (fun _ => fin) (fun c3 => absurd (lf_lcmp (by rw [e6 c2])) c3)
set_option maxHeartbeats 4000000 in
set_option maxRecDepth 100000 in
theorem lb_51 {p : Program} {l : Launch} {e : Env} {s : State} {m : MethodId} {args : Array Value} {below : List Frame} {meth : Method} {c : Code} {cells slots : Nat} {Q : State → Prop} {dd : cl_D} {b scr L : Nat} {xs : Nat → Int32} (V : lb_C p l s m args meth c dd b scr L xs) {B i : Nat} {M : cl_M} (hi : i + 6 ≤ L) (hL : L ≤ 3072) (R0 : cx_R B M) (hB : B + 8200 < 2 ^ 30) (hcs : cells + 10 ≤ 601024 ∧ slots + 60 ≤ 7293034) (back : ∀ (M : cl_M) (H : Heap) (locs : List Loc) (ls : Array Slot), cx_R (B + 8200) M → cl_H dd b M s H locs → lv_has ls 9 (lb_l scr b i) → W p l e room_1 s m args below meth c H locs (cells + 10) (slots + 60) Q (F0 m 3095 ls [])) {H : Heap} {locs : List Loc} {ls : Array Slot} (hw : cl_H dd b M s H locs) (hl : lv_has ls 9 (lb_l scr b i)) : W p l e room_1 s m args below meth c H locs cells slots Q (F0 m 2393 ls []) := by
  have V0 := V
  obtain ⟨C, hN, hd, hX, hsb, hbs⟩ := V
  have hx := C.1
  have hb := C.2.1
  have hlt := C.2.2.2.2.2.2.2.2.2.2
  have s5 := cl_s00 hd
  have s6 := cl_s237 hd
  obtain ⟨o, w, M2, e1, e2, e3, e4, e5, e6⟩ := lh_ok (cs := lc_takeDown) (by decide) (an_takeDown R0 (xs (i + 1)))
  have e3 : f_X6_takeDown (lh_M o) 237 (xs (i + 1)) = some (w, M2) := e3
  refine lv_aload_n hx hb dL_law_2393 rfl (lv_at hl 2 rfl) ?_
  refine lb_arg V0 hw (lv_at hl 1 rfl) (lv_at hl 0 rfl) (j := 1) dL_law_2394 dL_law_2395 dL_law_2397 dL_law_2398 dL_law_2399 rfl (by omega) hL ?_
  refine lv_aload_n hx hb dL_law_2400 rfl (lv_at hl 4 rfl) ?_
  refine lh_call C hN hw (h_takeDown hlt hd e1 e2) lo_329 sw_L_takeDown in_L cw_L_takeDown ⟨by decide +kernel, by decide +kernel, by decide +kernel⟩ (n := 3) rfl hl.1 (As := [.ref b, .int (xs (i + 1)), .ref (b + 247)]) rfl ⟨⟨Nat.le_of_ble_eq_true rfl, Nat.le_of_ble_eq_true rfl⟩, Nat.le_of_ble_eq_true rfl, by show cells + 2 ≤ 601024; omega, by show slots + 6 * 2 ≤ 7293034; omega⟩ dL_law_2401 (fun H locs hw => ?_)
  refine lv_istore (lv' := (5, .int (lh_r lc_takeDown o)) :: lb_l scr b i) hx hb dL_law_2404 hl (by decide) rfl (fun ls hl => ?_)
  refine lv_aload_n hx hb dL_law_2406 rfl (lv_at hl 4 rfl) ?_
  refine lb_arg V0 hw (lv_at hl 2 rfl) (lv_at hl 1 rfl) (j := 1) dL_law_2407 dL_law_2408 dL_law_2410 dL_law_2411 dL_law_2412 rfl (by omega) hL ?_
  refine cr_Vi C hw (c_X6_takeDown hlt s6 e3) cy_X6_takeDown vy_X6_takeDown lo_331 (cl_lt s6 (by decide)) (cl_e6 s6) rfl rfl (As := [.int (xs (i + 1))]) rfl hl.1 rfl ⟨⟨Nat.le_of_ble_eq_true rfl, Nat.le_of_ble_eq_true rfl⟩, Nat.le_of_ble_eq_true rfl, by show cells + 2 ≤ 601024; omega, by show slots + 6 * 2 ≤ 7293034; omega⟩ dL_law_2413 (fun H locs hw => ?_)
  refine lv_istore (lv' := (6, .int w) :: (5, .int (lh_r lc_takeDown o)) :: lb_l scr b i) hx hb dL_law_2416 hl (by decide) rfl (fun ls hl => ?_)
  refine lv_aload_n hx hb dL_law_2418 rfl (lv_at hl 5 rfl) ?_
  refine cr_Vi C hw (c_X6_thrown hlt s6 (show f_X6_thrown M2 237 = some (M2 237 4) from rfl)) cy_X6_thrown vy_X6_thrown lo_180 (cl_lt s6 (by decide)) (cl_e6 s6) rfl rfl (As := []) rfl hl.1 rfl ⟨⟨Nat.le_of_ble_eq_true rfl, Nat.le_of_ble_eq_true rfl⟩, Nat.le_of_ble_eq_true rfl, by show cells + 2 ≤ 601024; omega, by show slots + 6 * 2 ≤ 7293034; omega⟩ dL_law_2419 (fun H locs hw => ?_)
  refine lv_iload hx hb dL_law_2422 (lv_at hl 1 rfl) ?_
  refine lv_icmp_eq (tgt := 2429) hx hb dL_law_2424 (by decide) (fun c1 => ?_) (fun c1 => absurd e4 c1)
  refine lv_iload hx hb dL_law_2429 (lv_at hl 1 rfl) ?_
  have fin : W p l e room_1 s m args below meth c H locs (cells + 2) (slots + 6 * 2) Q (F0 m 2446 ls []) := by
    refine lv_goto (tgt := 3095) hx hb dL_law_2446 (by decide) ?_
    refine W.widen (k := cells + 10) (n := slots + 60) (by omega) (by omega) ?_
    exact back M2 H locs ls (cx_R_le e5 (by omega)) hw (lv_sub hl [2, 3, 4, 5, 6] rfl)
  refine lv_if_ne (tgt := 2446) hx hb dL_law_2431 (by decide) (fun c2 => fin) (fun c2 => ?_)
  refine lv_aload_n hx hb dL_law_2434 rfl (lv_at hl 6 rfl) ?_
  refine lv_iconst (v := 0) hx hb dL_law_2435 (by decide) ?_
  refine cr_lald C hw hd rfl dL_law_2436 ?_
  refine lv_iload hx hb dL_law_2437 (lv_at hl 0 rfl) ?_
  refine lv_i2l (v := w.toInt64) hx hb dL_law_2439 rfl ?_
  refine W.lcmp hx hb dL_law_2440 ?_
  exact lv_if_eq (tgt := 2446) hx hb dL_law_2441 (by decide) (fun _ => fin) (fun c3 => absurd (lf_lcmp (by rw [e6 c2])) c3)
set_option maxHeartbeats 4000000 in
set_option maxRecDepth 100000 in
theorem lb_52 {p : Program} {l : Launch} {e : Env} {s : State} {m : MethodId} {args : Array Value} {below : List Frame} {meth : Method} {c : Code} {cells slots : Nat} {Q : State → Prop} {dd : cl_D} {b scr L : Nat} {xs : Nat → Int32} (V : lb_C p l s m args meth c dd b scr L xs) {B i : Nat} {M : cl_M} (hi : i + 6 ≤ L) (hL : L ≤ 3072) (R0 : cx_R B M) (hB : B + 8200 < 2 ^ 30) (hcs : cells + 10 ≤ 601024 ∧ slots + 60 ≤ 7293034) (back : ∀ (M : cl_M) (H : Heap) (locs : List Loc) (ls : Array Slot), cx_R (B + 8200) M → cl_H dd b M s H locs → lv_has ls 9 (lb_l scr b i) → W p l e room_1 s m args below meth c H locs (cells + 10) (slots + 60) Q (F0 m 3095 ls [])) {H : Heap} {locs : List Loc} {ls : Array Slot} (hw : cl_H dd b M s H locs) (hl : lv_has ls 9 (lb_l scr b i)) : W p l e room_1 s m args below meth c H locs cells slots Q (F0 m 2449 ls []) := by
  have V0 := V
  obtain ⟨C, hN, hd, hX, hsb, hbs⟩ := V
  have hx := C.1
  have hb := C.2.1
  have hlt := C.2.2.2.2.2.2.2.2.2.2
  have s5 := cl_s00 hd
  have s6 := cl_s237 hd
  obtain ⟨o, w, M2, e1, e2, e3, e4, e5, e6⟩ := lh_ok (cs := lc_pickUp) (by decide) (an_pickUp R0 (xs (i + 1)))
  have e3 : f_X6_pickUp (lh_M o) 237 (xs (i + 1)) = some (w, M2) := e3
  refine lv_aload_n hx hb dL_law_2449 rfl (lv_at hl 2 rfl) ?_
  refine lb_arg V0 hw (lv_at hl 1 rfl) (lv_at hl 0 rfl) (j := 1) dL_law_2450 dL_law_2451 dL_law_2453 dL_law_2454 dL_law_2455 rfl (by omega) hL ?_
  refine lv_aload_n hx hb dL_law_2456 rfl (lv_at hl 4 rfl) ?_
  refine lh_call C hN hw (h_pickUp hlt hd e1 e2) lo_332 sw_L_pickUp in_L cw_L_pickUp ⟨by decide +kernel, by decide +kernel, by decide +kernel⟩ (n := 3) rfl hl.1 (As := [.ref b, .int (xs (i + 1)), .ref (b + 247)]) rfl ⟨⟨Nat.le_of_ble_eq_true rfl, Nat.le_of_ble_eq_true rfl⟩, Nat.le_of_ble_eq_true rfl, by show cells + 2 ≤ 601024; omega, by show slots + 6 * 2 ≤ 7293034; omega⟩ dL_law_2457 (fun H locs hw => ?_)
  refine lv_istore (lv' := (5, .int (lh_r lc_pickUp o)) :: lb_l scr b i) hx hb dL_law_2460 hl (by decide) rfl (fun ls hl => ?_)
  refine lv_aload_n hx hb dL_law_2462 rfl (lv_at hl 4 rfl) ?_
  refine lb_arg V0 hw (lv_at hl 2 rfl) (lv_at hl 1 rfl) (j := 1) dL_law_2463 dL_law_2464 dL_law_2466 dL_law_2467 dL_law_2468 rfl (by omega) hL ?_
  refine cr_Vi C hw (c_X6_pickUp hlt s6 e3) cy_X6_pickUp vy_X6_pickUp lo_334 (cl_lt s6 (by decide)) (cl_e6 s6) rfl rfl (As := [.int (xs (i + 1))]) rfl hl.1 rfl ⟨⟨Nat.le_of_ble_eq_true rfl, Nat.le_of_ble_eq_true rfl⟩, Nat.le_of_ble_eq_true rfl, by show cells + 2 ≤ 601024; omega, by show slots + 6 * 2 ≤ 7293034; omega⟩ dL_law_2469 (fun H locs hw => ?_)
  refine lv_istore (lv' := (6, .int w) :: (5, .int (lh_r lc_pickUp o)) :: lb_l scr b i) hx hb dL_law_2472 hl (by decide) rfl (fun ls hl => ?_)
  refine lv_aload_n hx hb dL_law_2474 rfl (lv_at hl 5 rfl) ?_
  refine cr_Vi C hw (c_X6_thrown hlt s6 (show f_X6_thrown M2 237 = some (M2 237 4) from rfl)) cy_X6_thrown vy_X6_thrown lo_180 (cl_lt s6 (by decide)) (cl_e6 s6) rfl rfl (As := []) rfl hl.1 rfl ⟨⟨Nat.le_of_ble_eq_true rfl, Nat.le_of_ble_eq_true rfl⟩, Nat.le_of_ble_eq_true rfl, by show cells + 2 ≤ 601024; omega, by show slots + 6 * 2 ≤ 7293034; omega⟩ dL_law_2475 (fun H locs hw => ?_)
  refine lv_iload hx hb dL_law_2478 (lv_at hl 1 rfl) ?_
  refine lv_icmp_eq (tgt := 2485) hx hb dL_law_2480 (by decide) (fun c1 => ?_) (fun c1 => absurd e4 c1)
  refine lv_iload hx hb dL_law_2485 (lv_at hl 1 rfl) ?_
  have fin : W p l e room_1 s m args below meth c H locs (cells + 2) (slots + 6 * 2) Q (F0 m 2502 ls []) := by
    refine lv_goto (tgt := 3095) hx hb dL_law_2502 (by decide) ?_
    refine W.widen (k := cells + 10) (n := slots + 60) (by omega) (by omega) ?_
    exact back M2 H locs ls (cx_R_le e5 (by omega)) hw (lv_sub hl [2, 3, 4, 5, 6] rfl)
  refine lv_if_ne (tgt := 2502) hx hb dL_law_2487 (by decide) (fun c2 => fin) (fun c2 => ?_)
  refine lv_aload_n hx hb dL_law_2490 rfl (lv_at hl 6 rfl) ?_
  refine lv_iconst (v := 0) hx hb dL_law_2491 (by decide) ?_
  refine cr_lald C hw hd rfl dL_law_2492 ?_
  refine lv_iload hx hb dL_law_2493 (lv_at hl 0 rfl) ?_
  refine lv_i2l (v := w.toInt64) hx hb dL_law_2495 rfl ?_
  refine W.lcmp hx hb dL_law_2496 ?_
  exact lv_if_eq (tgt := 2502) hx hb dL_law_2497 (by decide) (fun _ => fin) (fun c3 => absurd (lf_lcmp (by rw [e6 c2])) c3)
set_option maxHeartbeats 4000000 in
set_option maxRecDepth 100000 in
theorem lb_53 {p : Program} {l : Launch} {e : Env} {s : State} {m : MethodId} {args : Array Value} {below : List Frame} {meth : Method} {c : Code} {cells slots : Nat} {Q : State → Prop} {dd : cl_D} {b scr L : Nat} {xs : Nat → Int32} (V : lb_C p l s m args meth c dd b scr L xs) {B i : Nat} {M : cl_M} (hi : i + 6 ≤ L) (hL : L ≤ 3072) (R0 : cx_R B M) (hB : B + 8200 < 2 ^ 30) (hcs : cells + 10 ≤ 601024 ∧ slots + 60 ≤ 7293034) (back : ∀ (M : cl_M) (H : Heap) (locs : List Loc) (ls : Array Slot), cx_R (B + 8200) M → cl_H dd b M s H locs → lv_has ls 9 (lb_l scr b i) → W p l e room_1 s m args below meth c H locs (cells + 10) (slots + 60) Q (F0 m 3095 ls [])) {H : Heap} {locs : List Loc} {ls : Array Slot} (hw : cl_H dd b M s H locs) (hl : lv_has ls 9 (lb_l scr b i)) : W p l e room_1 s m args below meth c H locs cells slots Q (F0 m 2505 ls []) := by
  have V0 := V
  obtain ⟨C, hN, hd, hX, hsb, hbs⟩ := V
  have hx := C.1
  have hb := C.2.1
  have hlt := C.2.2.2.2.2.2.2.2.2.2
  have s5 := cl_s00 hd
  have s6 := cl_s237 hd
  obtain ⟨o, w, M2, e1, e2, e3, e4, e5, e6⟩ := lh_ok (cs := lc_wash) (by decide) (an_wash R0 (xs (i + 1)))
  have e3 : f_X6_wash (lh_M o) 237 (xs (i + 1)) = some (w, M2) := e3
  refine lv_aload_n hx hb dL_law_2505 rfl (lv_at hl 2 rfl) ?_
  refine lb_arg V0 hw (lv_at hl 1 rfl) (lv_at hl 0 rfl) (j := 1) dL_law_2506 dL_law_2507 dL_law_2509 dL_law_2510 dL_law_2511 rfl (by omega) hL ?_
  refine lv_aload_n hx hb dL_law_2512 rfl (lv_at hl 4 rfl) ?_
  refine lh_call C hN hw (h_wash hlt hd e1 e2) lo_335 sw_L_wash in_L cw_L_wash ⟨by decide +kernel, by decide +kernel, by decide +kernel⟩ (n := 3) rfl hl.1 (As := [.ref b, .int (xs (i + 1)), .ref (b + 247)]) rfl ⟨⟨Nat.le_of_ble_eq_true rfl, Nat.le_of_ble_eq_true rfl⟩, Nat.le_of_ble_eq_true rfl, by show cells + 2 ≤ 601024; omega, by show slots + 6 * 2 ≤ 7293034; omega⟩ dL_law_2513 (fun H locs hw => ?_)
  refine lv_istore (lv' := (5, .int (lh_r lc_wash o)) :: lb_l scr b i) hx hb dL_law_2516 hl (by decide) rfl (fun ls hl => ?_)
  refine lv_aload_n hx hb dL_law_2518 rfl (lv_at hl 4 rfl) ?_
  refine lb_arg V0 hw (lv_at hl 2 rfl) (lv_at hl 1 rfl) (j := 1) dL_law_2519 dL_law_2520 dL_law_2522 dL_law_2523 dL_law_2524 rfl (by omega) hL ?_
  refine cr_Vi C hw (c_X6_wash hlt s6 e3) cy_X6_wash vy_X6_wash lo_337 (cl_lt s6 (by decide)) (cl_e6 s6) rfl rfl (As := [.int (xs (i + 1))]) rfl hl.1 rfl ⟨⟨Nat.le_of_ble_eq_true rfl, Nat.le_of_ble_eq_true rfl⟩, Nat.le_of_ble_eq_true rfl, by show cells + 2 ≤ 601024; omega, by show slots + 6 * 2 ≤ 7293034; omega⟩ dL_law_2525 (fun H locs hw => ?_)
  refine lv_istore (lv' := (6, .int w) :: (5, .int (lh_r lc_wash o)) :: lb_l scr b i) hx hb dL_law_2528 hl (by decide) rfl (fun ls hl => ?_)
  refine lv_aload_n hx hb dL_law_2530 rfl (lv_at hl 5 rfl) ?_
  refine cr_Vi C hw (c_X6_thrown hlt s6 (show f_X6_thrown M2 237 = some (M2 237 4) from rfl)) cy_X6_thrown vy_X6_thrown lo_180 (cl_lt s6 (by decide)) (cl_e6 s6) rfl rfl (As := []) rfl hl.1 rfl ⟨⟨Nat.le_of_ble_eq_true rfl, Nat.le_of_ble_eq_true rfl⟩, Nat.le_of_ble_eq_true rfl, by show cells + 2 ≤ 601024; omega, by show slots + 6 * 2 ≤ 7293034; omega⟩ dL_law_2531 (fun H locs hw => ?_)
  refine lv_iload hx hb dL_law_2534 (lv_at hl 1 rfl) ?_
  refine lv_icmp_eq (tgt := 2541) hx hb dL_law_2536 (by decide) (fun c1 => ?_) (fun c1 => absurd e4 c1)
  refine lv_iload hx hb dL_law_2541 (lv_at hl 1 rfl) ?_
  have fin : W p l e room_1 s m args below meth c H locs (cells + 2) (slots + 6 * 2) Q (F0 m 2558 ls []) := by
    refine lv_goto (tgt := 3095) hx hb dL_law_2558 (by decide) ?_
    refine W.widen (k := cells + 10) (n := slots + 60) (by omega) (by omega) ?_
    exact back M2 H locs ls (cx_R_le e5 (by omega)) hw (lv_sub hl [2, 3, 4, 5, 6] rfl)
  refine lv_if_ne (tgt := 2558) hx hb dL_law_2543 (by decide) (fun c2 => fin) (fun c2 => ?_)
  refine lv_aload_n hx hb dL_law_2546 rfl (lv_at hl 6 rfl) ?_
  refine lv_iconst (v := 0) hx hb dL_law_2547 (by decide) ?_
  refine cr_lald C hw hd rfl dL_law_2548 ?_
  refine lv_iload hx hb dL_law_2549 (lv_at hl 0 rfl) ?_
  refine lv_i2l (v := w.toInt64) hx hb dL_law_2551 rfl ?_
  refine W.lcmp hx hb dL_law_2552 ?_
  exact lv_if_eq (tgt := 2558) hx hb dL_law_2553 (by decide) (fun _ => fin) (fun c3 => absurd (lf_lcmp (by rw [e6 c2])) c3)
set_option maxHeartbeats 4000000 in
set_option maxRecDepth 100000 in
theorem lb_54 {p : Program} {l : Launch} {e : Env} {s : State} {m : MethodId} {args : Array Value} {below : List Frame} {meth : Method} {c : Code} {cells slots : Nat} {Q : State → Prop} {dd : cl_D} {b scr L : Nat} {xs : Nat → Int32} (V : lb_C p l s m args meth c dd b scr L xs) {B i : Nat} {M : cl_M} (hi : i + 6 ≤ L) (hL : L ≤ 3072) (R0 : cx_R B M) (hB : B + 8200 < 2 ^ 30) (hcs : cells + 10 ≤ 601024 ∧ slots + 60 ≤ 7293034) (back : ∀ (M : cl_M) (H : Heap) (locs : List Loc) (ls : Array Slot), cx_R (B + 8200) M → cl_H dd b M s H locs → lv_has ls 9 (lb_l scr b i) → W p l e room_1 s m args below meth c H locs (cells + 10) (slots + 60) Q (F0 m 3095 ls [])) {H : Heap} {locs : List Loc} {ls : Array Slot} (hw : cl_H dd b M s H locs) (hl : lv_has ls 9 (lb_l scr b i)) : W p l e room_1 s m args below meth c H locs cells slots Q (F0 m 2561 ls []) := by
  have V0 := V
  obtain ⟨C, hN, hd, hX, hsb, hbs⟩ := V
  have hx := C.1
  have hb := C.2.1
  have hlt := C.2.2.2.2.2.2.2.2.2.2
  have s5 := cl_s00 hd
  have s6 := cl_s237 hd
  obtain ⟨o, w, M2, e1, e2, e3, e4, e5, e6⟩ := lh_ok (cs := lc_shift) (by decide) (an_shift R0 (xs (i + 1)) (xs (i + 2)))
  have e3 : f_X6_shift (lh_M o) 237 (xs (i + 1)) (xs (i + 2)) = some (w, M2) := e3
  refine lv_aload_n hx hb dL_law_2561 rfl (lv_at hl 2 rfl) ?_
  refine lb_arg V0 hw (lv_at hl 1 rfl) (lv_at hl 0 rfl) (j := 1) dL_law_2562 dL_law_2563 dL_law_2565 dL_law_2566 dL_law_2567 rfl (by omega) hL ?_
  refine lb_arg V0 hw (lv_at hl 1 rfl) (lv_at hl 0 rfl) (j := 2) dL_law_2568 dL_law_2569 dL_law_2571 dL_law_2572 dL_law_2573 rfl (by omega) hL ?_
  refine lv_aload_n hx hb dL_law_2574 rfl (lv_at hl 4 rfl) ?_
  refine lh_call C hN hw (h_shift hlt hd e1 e2) lo_338 sw_L_shift in_L cw_L_shift ⟨by decide +kernel, by decide +kernel, by decide +kernel⟩ (n := 4) rfl hl.1 (As := [.ref b, .int (xs (i + 1)), .int (xs (i + 2)), .ref (b + 247)]) rfl ⟨⟨Nat.le_of_ble_eq_true rfl, Nat.le_of_ble_eq_true rfl⟩, Nat.le_of_ble_eq_true rfl, by show cells + 3 ≤ 601024; omega, by show slots + 6 * 3 ≤ 7293034; omega⟩ dL_law_2575 (fun H locs hw => ?_)
  refine lv_istore (lv' := (5, .int (lh_r lc_shift o)) :: lb_l scr b i) hx hb dL_law_2578 hl (by decide) rfl (fun ls hl => ?_)
  refine lv_aload_n hx hb dL_law_2580 rfl (lv_at hl 4 rfl) ?_
  refine lb_arg V0 hw (lv_at hl 2 rfl) (lv_at hl 1 rfl) (j := 1) dL_law_2581 dL_law_2582 dL_law_2584 dL_law_2585 dL_law_2586 rfl (by omega) hL ?_
  refine lb_arg V0 hw (lv_at hl 2 rfl) (lv_at hl 1 rfl) (j := 2) dL_law_2587 dL_law_2588 dL_law_2590 dL_law_2591 dL_law_2592 rfl (by omega) hL ?_
  refine cr_Vi C hw (c_X6_shift hlt s6 e3) cy_X6_shift vy_X6_shift lo_340 (cl_lt s6 (by decide)) (cl_e6 s6) rfl rfl (As := [.int (xs (i + 1)), .int (xs (i + 2))]) rfl hl.1 rfl ⟨⟨Nat.le_of_ble_eq_true rfl, Nat.le_of_ble_eq_true rfl⟩, Nat.le_of_ble_eq_true rfl, by show cells + 3 ≤ 601024; omega, by show slots + 6 * 3 ≤ 7293034; omega⟩ dL_law_2593 (fun H locs hw => ?_)
  refine lv_istore (lv' := (6, .int w) :: (5, .int (lh_r lc_shift o)) :: lb_l scr b i) hx hb dL_law_2596 hl (by decide) rfl (fun ls hl => ?_)
  refine lv_aload_n hx hb dL_law_2598 rfl (lv_at hl 5 rfl) ?_
  refine cr_Vi C hw (c_X6_thrown hlt s6 (show f_X6_thrown M2 237 = some (M2 237 4) from rfl)) cy_X6_thrown vy_X6_thrown lo_180 (cl_lt s6 (by decide)) (cl_e6 s6) rfl rfl (As := []) rfl hl.1 rfl ⟨⟨Nat.le_of_ble_eq_true rfl, Nat.le_of_ble_eq_true rfl⟩, Nat.le_of_ble_eq_true rfl, by show cells + 3 ≤ 601024; omega, by show slots + 6 * 3 ≤ 7293034; omega⟩ dL_law_2599 (fun H locs hw => ?_)
  refine lv_iload hx hb dL_law_2602 (lv_at hl 1 rfl) ?_
  refine lv_icmp_eq (tgt := 2609) hx hb dL_law_2604 (by decide) (fun c1 => ?_) (fun c1 => absurd e4 c1)
  refine lv_iload hx hb dL_law_2609 (lv_at hl 1 rfl) ?_
  have fin : W p l e room_1 s m args below meth c H locs (cells + 3) (slots + 6 * 3) Q (F0 m 2626 ls []) := by
    refine lv_goto (tgt := 3095) hx hb dL_law_2626 (by decide) ?_
    refine W.widen (k := cells + 10) (n := slots + 60) (by omega) (by omega) ?_
    exact back M2 H locs ls (cx_R_le e5 (by omega)) hw (lv_sub hl [2, 3, 4, 5, 6] rfl)
  refine lv_if_ne (tgt := 2626) hx hb dL_law_2611 (by decide) (fun c2 => fin) (fun c2 => ?_)
  refine lv_aload_n hx hb dL_law_2614 rfl (lv_at hl 6 rfl) ?_
  refine lv_iconst (v := 0) hx hb dL_law_2615 (by decide) ?_
  refine cr_lald C hw hd rfl dL_law_2616 ?_
  refine lv_iload hx hb dL_law_2617 (lv_at hl 0 rfl) ?_
  refine lv_i2l (v := w.toInt64) hx hb dL_law_2619 rfl ?_
  refine W.lcmp hx hb dL_law_2620 ?_
  exact lv_if_eq (tgt := 2626) hx hb dL_law_2621 (by decide) (fun _ => fin) (fun c3 => absurd (lf_lcmp (by rw [e6 c2])) c3)
set_option maxHeartbeats 4000000 in
set_option maxRecDepth 100000 in
theorem lb_55 {p : Program} {l : Launch} {e : Env} {s : State} {m : MethodId} {args : Array Value} {below : List Frame} {meth : Method} {c : Code} {cells slots : Nat} {Q : State → Prop} {dd : cl_D} {b scr L : Nat} {xs : Nat → Int32} (V : lb_C p l s m args meth c dd b scr L xs) {B i : Nat} {M : cl_M} (hi : i + 6 ≤ L) (hL : L ≤ 3072) (R0 : cx_R B M) (hB : B + 8200 < 2 ^ 30) (hcs : cells + 10 ≤ 601024 ∧ slots + 60 ≤ 7293034) (back : ∀ (M : cl_M) (H : Heap) (locs : List Loc) (ls : Array Slot), cx_R (B + 8200) M → cl_H dd b M s H locs → lv_has ls 9 (lb_l scr b i) → W p l e room_1 s m args below meth c H locs (cells + 10) (slots + 60) Q (F0 m 3095 ls [])) {H : Heap} {locs : List Loc} {ls : Array Slot} (hw : cl_H dd b M s H locs) (hl : lv_has ls 9 (lb_l scr b i)) : W p l e room_1 s m args below meth c H locs cells slots Q (F0 m 2629 ls []) := by
  have V0 := V
  obtain ⟨C, hN, hd, hX, hsb, hbs⟩ := V
  have hx := C.1
  have hb := C.2.1
  have hlt := C.2.2.2.2.2.2.2.2.2.2
  have s5 := cl_s00 hd
  have s6 := cl_s237 hd
  obtain ⟨o, w, M2, e1, e2, e3, e4, e5, e6⟩ := lh_ok (cs := lc_addShower) (by decide) (an_addShower R0 (xs (i + 1)) (xs (i + 2)) (xs (i + 3)))
  have e3 : f_X6_addShower (lh_M o) 237 (xs (i + 1)) (xs (i + 2)) (xs (i + 3)) = some (w, M2) := e3
  refine lv_aload_n hx hb dL_law_2629 rfl (lv_at hl 2 rfl) ?_
  refine lb_arg V0 hw (lv_at hl 1 rfl) (lv_at hl 0 rfl) (j := 1) dL_law_2630 dL_law_2631 dL_law_2633 dL_law_2634 dL_law_2635 rfl (by omega) hL ?_
  refine lb_arg V0 hw (lv_at hl 1 rfl) (lv_at hl 0 rfl) (j := 2) dL_law_2636 dL_law_2637 dL_law_2639 dL_law_2640 dL_law_2641 rfl (by omega) hL ?_
  refine lb_arg V0 hw (lv_at hl 1 rfl) (lv_at hl 0 rfl) (j := 3) dL_law_2642 dL_law_2643 dL_law_2645 dL_law_2646 dL_law_2647 rfl (by omega) hL ?_
  refine lv_aload_n hx hb dL_law_2648 rfl (lv_at hl 4 rfl) ?_
  refine lh_call C hN hw (h_addShower hlt hd e1 e2) lo_341 sw_L_addShower in_L cw_L_addShower ⟨by decide +kernel, by decide +kernel, by decide +kernel⟩ (n := 5) rfl hl.1 (As := [.ref b, .int (xs (i + 1)), .int (xs (i + 2)), .int (xs (i + 3)), .ref (b + 247)]) rfl ⟨⟨Nat.le_of_ble_eq_true rfl, Nat.le_of_ble_eq_true rfl⟩, Nat.le_of_ble_eq_true rfl, by show cells + 4 ≤ 601024; omega, by show slots + 6 * 4 ≤ 7293034; omega⟩ dL_law_2649 (fun H locs hw => ?_)
  refine lv_istore (lv' := (5, .int (lh_r lc_addShower o)) :: lb_l scr b i) hx hb dL_law_2652 hl (by decide) rfl (fun ls hl => ?_)
  refine lv_aload_n hx hb dL_law_2654 rfl (lv_at hl 4 rfl) ?_
  refine lb_arg V0 hw (lv_at hl 2 rfl) (lv_at hl 1 rfl) (j := 1) dL_law_2655 dL_law_2656 dL_law_2658 dL_law_2659 dL_law_2660 rfl (by omega) hL ?_
  refine lb_arg V0 hw (lv_at hl 2 rfl) (lv_at hl 1 rfl) (j := 2) dL_law_2661 dL_law_2662 dL_law_2664 dL_law_2665 dL_law_2666 rfl (by omega) hL ?_
  refine lb_arg V0 hw (lv_at hl 2 rfl) (lv_at hl 1 rfl) (j := 3) dL_law_2667 dL_law_2668 dL_law_2670 dL_law_2671 dL_law_2672 rfl (by omega) hL ?_
  refine cr_Vi C hw (c_X6_addShower hlt s6 e3) cy_X6_addShower vy_X6_addShower lo_344 (cl_lt s6 (by decide)) (cl_e6 s6) rfl rfl (As := [.int (xs (i + 1)), .int (xs (i + 2)), .int (xs (i + 3))]) rfl hl.1 rfl ⟨⟨Nat.le_of_ble_eq_true rfl, Nat.le_of_ble_eq_true rfl⟩, Nat.le_of_ble_eq_true rfl, by show cells + 4 ≤ 601024; omega, by show slots + 6 * 4 ≤ 7293034; omega⟩ dL_law_2673 (fun H locs hw => ?_)
  refine lv_istore (lv' := (6, .int w) :: (5, .int (lh_r lc_addShower o)) :: lb_l scr b i) hx hb dL_law_2676 hl (by decide) rfl (fun ls hl => ?_)
  refine lv_aload_n hx hb dL_law_2678 rfl (lv_at hl 5 rfl) ?_
  refine cr_Vi C hw (c_X6_thrown hlt s6 (show f_X6_thrown M2 237 = some (M2 237 4) from rfl)) cy_X6_thrown vy_X6_thrown lo_180 (cl_lt s6 (by decide)) (cl_e6 s6) rfl rfl (As := []) rfl hl.1 rfl ⟨⟨Nat.le_of_ble_eq_true rfl, Nat.le_of_ble_eq_true rfl⟩, Nat.le_of_ble_eq_true rfl, by show cells + 4 ≤ 601024; omega, by show slots + 6 * 4 ≤ 7293034; omega⟩ dL_law_2679 (fun H locs hw => ?_)
  refine lv_iload hx hb dL_law_2682 (lv_at hl 1 rfl) ?_
  refine lv_icmp_eq (tgt := 2689) hx hb dL_law_2684 (by decide) (fun c1 => ?_) (fun c1 => absurd e4 c1)
  refine lv_iload hx hb dL_law_2689 (lv_at hl 1 rfl) ?_
  have fin : W p l e room_1 s m args below meth c H locs (cells + 4) (slots + 6 * 4) Q (F0 m 2706 ls []) := by
    refine lv_goto (tgt := 3095) hx hb dL_law_2706 (by decide) ?_
    refine W.widen (k := cells + 10) (n := slots + 60) (by omega) (by omega) ?_
    exact back M2 H locs ls (cx_R_le e5 (by omega)) hw (lv_sub hl [2, 3, 4, 5, 6] rfl)
  refine lv_if_ne (tgt := 2706) hx hb dL_law_2691 (by decide) (fun c2 => fin) (fun c2 => ?_)
  refine lv_aload_n hx hb dL_law_2694 rfl (lv_at hl 6 rfl) ?_
  refine lv_iconst (v := 0) hx hb dL_law_2695 (by decide) ?_
  refine cr_lald C hw hd rfl dL_law_2696 ?_
  refine lv_iload hx hb dL_law_2697 (lv_at hl 0 rfl) ?_
  refine lv_i2l (v := w.toInt64) hx hb dL_law_2699 rfl ?_
  refine W.lcmp hx hb dL_law_2700 ?_
  exact lv_if_eq (tgt := 2706) hx hb dL_law_2701 (by decide) (fun _ => fin) (fun c3 => absurd (lf_lcmp (by rw [e6 c2])) c3)
set_option maxHeartbeats 4000000 in
set_option maxRecDepth 100000 in
theorem lb_56 {p : Program} {l : Launch} {e : Env} {s : State} {m : MethodId} {args : Array Value} {below : List Frame} {meth : Method} {c : Code} {cells slots : Nat} {Q : State → Prop} {dd : cl_D} {b scr L : Nat} {xs : Nat → Int32} (V : lb_C p l s m args meth c dd b scr L xs) {B i : Nat} {M : cl_M} (hi : i + 6 ≤ L) (hL : L ≤ 3072) (R0 : cx_R B M) (hB : B + 8200 < 2 ^ 30) (hcs : cells + 10 ≤ 601024 ∧ slots + 60 ≤ 7293034) (back : ∀ (M : cl_M) (H : Heap) (locs : List Loc) (ls : Array Slot), cx_R (B + 8200) M → cl_H dd b M s H locs → lv_has ls 9 (lb_l scr b i) → W p l e room_1 s m args below meth c H locs (cells + 10) (slots + 60) Q (F0 m 3095 ls [])) {H : Heap} {locs : List Loc} {ls : Array Slot} (hw : cl_H dd b M s H locs) (hl : lv_has ls 9 (lb_l scr b i)) : W p l e room_1 s m args below meth c H locs cells slots Q (F0 m 2709 ls []) := by
  have V0 := V
  obtain ⟨C, hN, hd, hX, hsb, hbs⟩ := V
  have hx := C.1
  have hb := C.2.1
  have hlt := C.2.2.2.2.2.2.2.2.2.2
  have s5 := cl_s00 hd
  have s6 := cl_s237 hd
  obtain ⟨o, w, M2, e1, e2, e3, e4, e5, e6⟩ := lh_ok (cs := lc_addSmoke) (by decide) (an_addSmoke R0 (xs (i + 1)) (xs (i + 2)))
  have e3 : f_X6_addSmoke (lh_M o) 237 (xs (i + 1)) (xs (i + 2)) = some (w, M2) := e3
  refine lv_aload_n hx hb dL_law_2709 rfl (lv_at hl 2 rfl) ?_
  refine lb_arg V0 hw (lv_at hl 1 rfl) (lv_at hl 0 rfl) (j := 1) dL_law_2710 dL_law_2711 dL_law_2713 dL_law_2714 dL_law_2715 rfl (by omega) hL ?_
  refine lb_arg V0 hw (lv_at hl 1 rfl) (lv_at hl 0 rfl) (j := 2) dL_law_2716 dL_law_2717 dL_law_2719 dL_law_2720 dL_law_2721 rfl (by omega) hL ?_
  refine lv_aload_n hx hb dL_law_2722 rfl (lv_at hl 4 rfl) ?_
  refine lh_call C hN hw (h_addSmoke hlt hd e1 e2) lo_345 sw_L_addSmoke in_L cw_L_addSmoke ⟨by decide +kernel, by decide +kernel, by decide +kernel⟩ (n := 4) rfl hl.1 (As := [.ref b, .int (xs (i + 1)), .int (xs (i + 2)), .ref (b + 247)]) rfl ⟨⟨Nat.le_of_ble_eq_true rfl, Nat.le_of_ble_eq_true rfl⟩, Nat.le_of_ble_eq_true rfl, by show cells + 3 ≤ 601024; omega, by show slots + 6 * 3 ≤ 7293034; omega⟩ dL_law_2723 (fun H locs hw => ?_)
  refine lv_istore (lv' := (5, .int (lh_r lc_addSmoke o)) :: lb_l scr b i) hx hb dL_law_2726 hl (by decide) rfl (fun ls hl => ?_)
  refine lv_aload_n hx hb dL_law_2728 rfl (lv_at hl 4 rfl) ?_
  refine lb_arg V0 hw (lv_at hl 2 rfl) (lv_at hl 1 rfl) (j := 1) dL_law_2729 dL_law_2730 dL_law_2732 dL_law_2733 dL_law_2734 rfl (by omega) hL ?_
  refine lb_arg V0 hw (lv_at hl 2 rfl) (lv_at hl 1 rfl) (j := 2) dL_law_2735 dL_law_2736 dL_law_2738 dL_law_2739 dL_law_2740 rfl (by omega) hL ?_
  refine cr_Vi C hw (c_X6_addSmoke hlt s6 e3) cy_X6_addSmoke vy_X6_addSmoke lo_347 (cl_lt s6 (by decide)) (cl_e6 s6) rfl rfl (As := [.int (xs (i + 1)), .int (xs (i + 2))]) rfl hl.1 rfl ⟨⟨Nat.le_of_ble_eq_true rfl, Nat.le_of_ble_eq_true rfl⟩, Nat.le_of_ble_eq_true rfl, by show cells + 3 ≤ 601024; omega, by show slots + 6 * 3 ≤ 7293034; omega⟩ dL_law_2741 (fun H locs hw => ?_)
  refine lv_istore (lv' := (6, .int w) :: (5, .int (lh_r lc_addSmoke o)) :: lb_l scr b i) hx hb dL_law_2744 hl (by decide) rfl (fun ls hl => ?_)
  refine lv_aload_n hx hb dL_law_2746 rfl (lv_at hl 5 rfl) ?_
  refine cr_Vi C hw (c_X6_thrown hlt s6 (show f_X6_thrown M2 237 = some (M2 237 4) from rfl)) cy_X6_thrown vy_X6_thrown lo_180 (cl_lt s6 (by decide)) (cl_e6 s6) rfl rfl (As := []) rfl hl.1 rfl ⟨⟨Nat.le_of_ble_eq_true rfl, Nat.le_of_ble_eq_true rfl⟩, Nat.le_of_ble_eq_true rfl, by show cells + 3 ≤ 601024; omega, by show slots + 6 * 3 ≤ 7293034; omega⟩ dL_law_2747 (fun H locs hw => ?_)
  refine lv_iload hx hb dL_law_2750 (lv_at hl 1 rfl) ?_
  refine lv_icmp_eq (tgt := 2757) hx hb dL_law_2752 (by decide) (fun c1 => ?_) (fun c1 => absurd e4 c1)
  refine lv_iload hx hb dL_law_2757 (lv_at hl 1 rfl) ?_
  have fin : W p l e room_1 s m args below meth c H locs (cells + 3) (slots + 6 * 3) Q (F0 m 2774 ls []) := by
    refine lv_goto (tgt := 3095) hx hb dL_law_2774 (by decide) ?_
    refine W.widen (k := cells + 10) (n := slots + 60) (by omega) (by omega) ?_
    exact back M2 H locs ls (cx_R_le e5 (by omega)) hw (lv_sub hl [2, 3, 4, 5, 6] rfl)
  refine lv_if_ne (tgt := 2774) hx hb dL_law_2759 (by decide) (fun c2 => fin) (fun c2 => ?_)
  refine lv_aload_n hx hb dL_law_2762 rfl (lv_at hl 6 rfl) ?_
  refine lv_iconst (v := 0) hx hb dL_law_2763 (by decide) ?_
  refine cr_lald C hw hd rfl dL_law_2764 ?_
  refine lv_iload hx hb dL_law_2765 (lv_at hl 0 rfl) ?_
  refine lv_i2l (v := w.toInt64) hx hb dL_law_2767 rfl ?_
  refine W.lcmp hx hb dL_law_2768 ?_
  exact lv_if_eq (tgt := 2774) hx hb dL_law_2769 (by decide) (fun _ => fin) (fun c3 => absurd (lf_lcmp (by rw [e6 c2])) c3)
set_option maxHeartbeats 4000000 in
set_option maxRecDepth 100000 in
theorem lb_57 {p : Program} {l : Launch} {e : Env} {s : State} {m : MethodId} {args : Array Value} {below : List Frame} {meth : Method} {c : Code} {cells slots : Nat} {Q : State → Prop} {dd : cl_D} {b scr L : Nat} {xs : Nat → Int32} (V : lb_C p l s m args meth c dd b scr L xs) {B i : Nat} {M : cl_M} (hi : i + 6 ≤ L) (hL : L ≤ 3072) (R0 : cx_R B M) (hB : B + 8200 < 2 ^ 30) (hcs : cells + 10 ≤ 601024 ∧ slots + 60 ≤ 7293034) (back : ∀ (M : cl_M) (H : Heap) (locs : List Loc) (ls : Array Slot), cx_R (B + 8200) M → cl_H dd b M s H locs → lv_has ls 9 (lb_l scr b i) → W p l e room_1 s m args below meth c H locs (cells + 10) (slots + 60) Q (F0 m 3095 ls [])) {H : Heap} {locs : List Loc} {ls : Array Slot} (hw : cl_H dd b M s H locs) (hl : lv_has ls 9 (lb_l scr b i)) : W p l e room_1 s m args below meth c H locs cells slots Q (F0 m 2777 ls []) := by
  have V0 := V
  obtain ⟨C, hN, hd, hX, hsb, hbs⟩ := V
  have hx := C.1
  have hb := C.2.1
  have hlt := C.2.2.2.2.2.2.2.2.2.2
  have s5 := cl_s00 hd
  have s6 := cl_s237 hd
  obtain ⟨o, w, M2, e1, e2, e3, e4, e5, e6⟩ := lh_ok (cs := lc_setWind) (by decide) (an_setWind R0 (xs (i + 1)) (xs (i + 2)))
  have e3 : f_X6_setWind (lh_M o) 237 (xs (i + 1)) (xs (i + 2)) = some (w, M2) := e3
  refine lv_aload_n hx hb dL_law_2777 rfl (lv_at hl 2 rfl) ?_
  refine lb_arg V0 hw (lv_at hl 1 rfl) (lv_at hl 0 rfl) (j := 1) dL_law_2778 dL_law_2779 dL_law_2781 dL_law_2782 dL_law_2783 rfl (by omega) hL ?_
  refine lb_arg V0 hw (lv_at hl 1 rfl) (lv_at hl 0 rfl) (j := 2) dL_law_2784 dL_law_2785 dL_law_2787 dL_law_2788 dL_law_2789 rfl (by omega) hL ?_
  refine lv_aload_n hx hb dL_law_2790 rfl (lv_at hl 4 rfl) ?_
  refine lh_call C hN hw (h_setWind hlt hd e1 e2) lo_348 sw_L_setWind in_L cw_L_setWind ⟨by decide +kernel, by decide +kernel, by decide +kernel⟩ (n := 4) rfl hl.1 (As := [.ref b, .int (xs (i + 1)), .int (xs (i + 2)), .ref (b + 247)]) rfl ⟨⟨Nat.le_of_ble_eq_true rfl, Nat.le_of_ble_eq_true rfl⟩, Nat.le_of_ble_eq_true rfl, by show cells + 1 ≤ 601024; omega, by show slots + 6 * 1 ≤ 7293034; omega⟩ dL_law_2791 (fun H locs hw => ?_)
  refine lv_istore (lv' := (5, .int (lh_r lc_setWind o)) :: lb_l scr b i) hx hb dL_law_2794 hl (by decide) rfl (fun ls hl => ?_)
  refine lv_aload_n hx hb dL_law_2796 rfl (lv_at hl 4 rfl) ?_
  refine lb_arg V0 hw (lv_at hl 2 rfl) (lv_at hl 1 rfl) (j := 1) dL_law_2797 dL_law_2798 dL_law_2800 dL_law_2801 dL_law_2802 rfl (by omega) hL ?_
  refine lb_arg V0 hw (lv_at hl 2 rfl) (lv_at hl 1 rfl) (j := 2) dL_law_2803 dL_law_2804 dL_law_2806 dL_law_2807 dL_law_2808 rfl (by omega) hL ?_
  refine cr_Vi C hw (c_X6_setWind hlt s6 e3) cy_X6_setWind vy_X6_setWind lo_350 (cl_lt s6 (by decide)) (cl_e6 s6) rfl rfl (As := [.int (xs (i + 1)), .int (xs (i + 2))]) rfl hl.1 rfl ⟨⟨Nat.le_of_ble_eq_true rfl, Nat.le_of_ble_eq_true rfl⟩, Nat.le_of_ble_eq_true rfl, by show cells + 1 ≤ 601024; omega, by show slots + 6 * 1 ≤ 7293034; omega⟩ dL_law_2809 (fun H locs hw => ?_)
  refine lv_istore (lv' := (6, .int w) :: (5, .int (lh_r lc_setWind o)) :: lb_l scr b i) hx hb dL_law_2812 hl (by decide) rfl (fun ls hl => ?_)
  refine lv_aload_n hx hb dL_law_2814 rfl (lv_at hl 5 rfl) ?_
  refine cr_Vi C hw (c_X6_thrown hlt s6 (show f_X6_thrown M2 237 = some (M2 237 4) from rfl)) cy_X6_thrown vy_X6_thrown lo_180 (cl_lt s6 (by decide)) (cl_e6 s6) rfl rfl (As := []) rfl hl.1 rfl ⟨⟨Nat.le_of_ble_eq_true rfl, Nat.le_of_ble_eq_true rfl⟩, Nat.le_of_ble_eq_true rfl, by show cells + 1 ≤ 601024; omega, by show slots + 6 * 1 ≤ 7293034; omega⟩ dL_law_2815 (fun H locs hw => ?_)
  refine lv_iload hx hb dL_law_2818 (lv_at hl 1 rfl) ?_
  refine lv_icmp_eq (tgt := 2825) hx hb dL_law_2820 (by decide) (fun c1 => ?_) (fun c1 => absurd e4 c1)
  refine lv_iload hx hb dL_law_2825 (lv_at hl 1 rfl) ?_
  have fin : W p l e room_1 s m args below meth c H locs (cells + 1) (slots + 6 * 1) Q (F0 m 2842 ls []) := by
    refine lv_goto (tgt := 3095) hx hb dL_law_2842 (by decide) ?_
    refine W.widen (k := cells + 10) (n := slots + 60) (by omega) (by omega) ?_
    exact back M2 H locs ls (cx_R_le e5 (by omega)) hw (lv_sub hl [2, 3, 4, 5, 6] rfl)
  refine lv_if_ne (tgt := 2842) hx hb dL_law_2827 (by decide) (fun c2 => fin) (fun c2 => ?_)
  refine lv_aload_n hx hb dL_law_2830 rfl (lv_at hl 6 rfl) ?_
  refine lv_iconst (v := 0) hx hb dL_law_2831 (by decide) ?_
  refine cr_lald C hw hd rfl dL_law_2832 ?_
  refine lv_iload hx hb dL_law_2833 (lv_at hl 0 rfl) ?_
  refine lv_i2l (v := w.toInt64) hx hb dL_law_2835 rfl ?_
  refine W.lcmp hx hb dL_law_2836 ?_
  exact lv_if_eq (tgt := 2842) hx hb dL_law_2837 (by decide) (fun _ => fin) (fun c3 => absurd (lf_lcmp (by rw [e6 c2])) c3)
set_option maxHeartbeats 4000000 in
set_option maxRecDepth 100000 in
theorem lb_58 {p : Program} {l : Launch} {e : Env} {s : State} {m : MethodId} {args : Array Value} {below : List Frame} {meth : Method} {c : Code} {cells slots : Nat} {Q : State → Prop} {dd : cl_D} {b scr L : Nat} {xs : Nat → Int32} (V : lb_C p l s m args meth c dd b scr L xs) {B i : Nat} {M : cl_M} (hi : i + 6 ≤ L) (hL : L ≤ 3072) (R0 : cx_R B M) (hB : B + 8200 < 2 ^ 30) (hcs : cells + 10 ≤ 601024 ∧ slots + 60 ≤ 7293034) (back : ∀ (M : cl_M) (H : Heap) (locs : List Loc) (ls : Array Slot), cx_R (B + 8200) M → cl_H dd b M s H locs → lv_has ls 9 (lb_l scr b i) → W p l e room_1 s m args below meth c H locs (cells + 10) (slots + 60) Q (F0 m 3095 ls [])) {H : Heap} {locs : List Loc} {ls : Array Slot} (hw : cl_H dd b M s H locs) (hl : lv_has ls 9 (lb_l scr b i)) : W p l e room_1 s m args below meth c H locs cells slots Q (F0 m 2845 ls []) := by
  have V0 := V
  obtain ⟨C, hN, hd, hX, hsb, hbs⟩ := V
  have hx := C.1
  have hb := C.2.1
  have hlt := C.2.2.2.2.2.2.2.2.2.2
  have s5 := cl_s00 hd
  have s6 := cl_s237 hd
  obtain ⟨o, w, M2, e1, e2, e3, e4, e5, e6⟩ := lh_ok (cs := lc_passMinutes) (by decide) (an_passMinutes R0 (by omega) (xs (i + 1)))
  have e3 : f_X6_passMinutes (lh_M o) 237 (xs (i + 1)) = some (w, M2) := e3
  refine lv_aload_n hx hb dL_law_2845 rfl (lv_at hl 2 rfl) ?_
  refine lb_arg V0 hw (lv_at hl 1 rfl) (lv_at hl 0 rfl) (j := 1) dL_law_2846 dL_law_2847 dL_law_2849 dL_law_2850 dL_law_2851 rfl (by omega) hL ?_
  refine lv_aload_n hx hb dL_law_2852 rfl (lv_at hl 4 rfl) ?_
  refine lh_call C hN hw (h_passMinutes hlt hd e1 e2) lo_351 sw_L_passMinutes in_L cw_L_passMinutes ⟨by decide +kernel, by decide +kernel, by decide +kernel⟩ (n := 3) rfl hl.1 (As := [.ref b, .int (xs (i + 1)), .ref (b + 247)]) rfl ⟨⟨Nat.le_of_ble_eq_true rfl, Nat.le_of_ble_eq_true rfl⟩, Nat.le_of_ble_eq_true rfl, by show cells + 1 ≤ 601024; omega, by show slots + 6 * 1 ≤ 7293034; omega⟩ dL_law_2853 (fun H locs hw => ?_)
  refine lv_istore (lv' := (5, .int (lh_r lc_passMinutes o)) :: lb_l scr b i) hx hb dL_law_2856 hl (by decide) rfl (fun ls hl => ?_)
  refine lv_aload_n hx hb dL_law_2858 rfl (lv_at hl 4 rfl) ?_
  refine lb_arg V0 hw (lv_at hl 2 rfl) (lv_at hl 1 rfl) (j := 1) dL_law_2859 dL_law_2860 dL_law_2862 dL_law_2863 dL_law_2864 rfl (by omega) hL ?_
  refine cr_Vi C hw (c_X6_passMinutes hlt s6 e3) cy_X6_passMinutes vy_X6_passMinutes lo_353 (cl_lt s6 (by decide)) (cl_e6 s6) rfl rfl (As := [.int (xs (i + 1))]) rfl hl.1 rfl ⟨⟨Nat.le_of_ble_eq_true rfl, Nat.le_of_ble_eq_true rfl⟩, Nat.le_of_ble_eq_true rfl, by show cells + 1 ≤ 601024; omega, by show slots + 6 * 1 ≤ 7293034; omega⟩ dL_law_2865 (fun H locs hw => ?_)
  refine lv_istore (lv' := (6, .int w) :: (5, .int (lh_r lc_passMinutes o)) :: lb_l scr b i) hx hb dL_law_2868 hl (by decide) rfl (fun ls hl => ?_)
  refine lv_aload_n hx hb dL_law_2870 rfl (lv_at hl 5 rfl) ?_
  refine cr_Vi C hw (c_X6_thrown hlt s6 (show f_X6_thrown M2 237 = some (M2 237 4) from rfl)) cy_X6_thrown vy_X6_thrown lo_180 (cl_lt s6 (by decide)) (cl_e6 s6) rfl rfl (As := []) rfl hl.1 rfl ⟨⟨Nat.le_of_ble_eq_true rfl, Nat.le_of_ble_eq_true rfl⟩, Nat.le_of_ble_eq_true rfl, by show cells + 1 ≤ 601024; omega, by show slots + 6 * 1 ≤ 7293034; omega⟩ dL_law_2871 (fun H locs hw => ?_)
  refine lv_iload hx hb dL_law_2874 (lv_at hl 1 rfl) ?_
  refine lv_icmp_eq (tgt := 2881) hx hb dL_law_2876 (by decide) (fun c1 => ?_) (fun c1 => absurd e4 c1)
  refine lv_iload hx hb dL_law_2881 (lv_at hl 1 rfl) ?_
  have fin : W p l e room_1 s m args below meth c H locs (cells + 1) (slots + 6 * 1) Q (F0 m 2898 ls []) := by
    refine lv_goto (tgt := 3095) hx hb dL_law_2898 (by decide) ?_
    refine W.widen (k := cells + 10) (n := slots + 60) (by omega) (by omega) ?_
    exact back M2 H locs ls (cx_R_le e5 (by omega)) hw (lv_sub hl [2, 3, 4, 5, 6] rfl)
  refine lv_if_ne (tgt := 2898) hx hb dL_law_2883 (by decide) (fun c2 => fin) (fun c2 => ?_)
  refine lv_aload_n hx hb dL_law_2886 rfl (lv_at hl 6 rfl) ?_
  refine lv_iconst (v := 0) hx hb dL_law_2887 (by decide) ?_
  refine cr_lald C hw hd rfl dL_law_2888 ?_
  refine lv_iload hx hb dL_law_2889 (lv_at hl 0 rfl) ?_
  refine lv_i2l (v := w.toInt64) hx hb dL_law_2891 rfl ?_
  refine W.lcmp hx hb dL_law_2892 ?_
  exact lv_if_eq (tgt := 2898) hx hb dL_law_2893 (by decide) (fun _ => fin) (fun c3 => absurd (lf_lcmp (by rw [e6 c2])) c3)
set_option maxHeartbeats 4000000 in
set_option maxRecDepth 100000 in
theorem lb_59 {p : Program} {l : Launch} {e : Env} {s : State} {m : MethodId} {args : Array Value} {below : List Frame} {meth : Method} {c : Code} {cells slots : Nat} {Q : State → Prop} {dd : cl_D} {b scr L : Nat} {xs : Nat → Int32} (V : lb_C p l s m args meth c dd b scr L xs) {B i : Nat} {M : cl_M} (hi : i + 6 ≤ L) (hL : L ≤ 3072) (R0 : cx_R B M) (hB : B + 8200 < 2 ^ 30) (hcs : cells + 10 ≤ 601024 ∧ slots + 60 ≤ 7293034) (back : ∀ (M : cl_M) (H : Heap) (locs : List Loc) (ls : Array Slot), cx_R (B + 8200) M → cl_H dd b M s H locs → lv_has ls 9 (lb_l scr b i) → W p l e room_1 s m args below meth c H locs (cells + 10) (slots + 60) Q (F0 m 3095 ls [])) {H : Heap} {locs : List Loc} {ls : Array Slot} (hw : cl_H dd b M s H locs) (hl : lv_has ls 9 (lb_l scr b i)) : W p l e room_1 s m args below meth c H locs cells slots Q (F0 m 2901 ls []) := by
  have V0 := V
  obtain ⟨C, hN, hd, hX, hsb, hbs⟩ := V
  have hx := C.1
  have hb := C.2.1
  have hlt := C.2.2.2.2.2.2.2.2.2.2
  have s5 := cl_s00 hd
  have s6 := cl_s237 hd
  obtain ⟨o, w, M2, e1, e2, e3, e4, e5, e6⟩ := lh_ok (cs := lc_undo) (by decide) (an_undo R0)
  have e3 : f_X6_undo (lh_M o) 237 = some (w, M2) := e3
  refine lv_aload_n hx hb dL_law_2901 rfl (lv_at hl 2 rfl) ?_
  refine lv_aload_n hx hb dL_law_2902 rfl (lv_at hl 4 rfl) ?_
  refine lh_call C hN hw (h_undo hlt hd e1 e2) lo_354 sw_L_undo in_L cw_L_undo ⟨by decide +kernel, by decide +kernel, by decide +kernel⟩ (n := 2) rfl hl.1 (As := [.ref b, .ref (b + 247)]) rfl ⟨⟨Nat.le_of_ble_eq_true rfl, Nat.le_of_ble_eq_true rfl⟩, Nat.le_of_ble_eq_true rfl, by show cells + 1 ≤ 601024; omega, by show slots + 6 * 1 ≤ 7293034; omega⟩ dL_law_2903 (fun H locs hw => ?_)
  refine lv_istore (lv' := (5, .int (lh_r lc_undo o)) :: lb_l scr b i) hx hb dL_law_2906 hl (by decide) rfl (fun ls hl => ?_)
  refine lv_aload_n hx hb dL_law_2908 rfl (lv_at hl 4 rfl) ?_
  refine cr_Vi C hw (c_X6_undo hlt s6 e3) cy_X6_undo vy_X6_undo lo_357 (cl_lt s6 (by decide)) (cl_e6 s6) rfl rfl (As := []) rfl hl.1 rfl ⟨⟨Nat.le_of_ble_eq_true rfl, Nat.le_of_ble_eq_true rfl⟩, Nat.le_of_ble_eq_true rfl, by show cells + 1 ≤ 601024; omega, by show slots + 6 * 1 ≤ 7293034; omega⟩ dL_law_2909 (fun H locs hw => ?_)
  refine lv_istore (lv' := (6, .int w) :: (5, .int (lh_r lc_undo o)) :: lb_l scr b i) hx hb dL_law_2912 hl (by decide) rfl (fun ls hl => ?_)
  refine lv_aload_n hx hb dL_law_2914 rfl (lv_at hl 5 rfl) ?_
  refine cr_Vi C hw (c_X6_thrown hlt s6 (show f_X6_thrown M2 237 = some (M2 237 4) from rfl)) cy_X6_thrown vy_X6_thrown lo_180 (cl_lt s6 (by decide)) (cl_e6 s6) rfl rfl (As := []) rfl hl.1 rfl ⟨⟨Nat.le_of_ble_eq_true rfl, Nat.le_of_ble_eq_true rfl⟩, Nat.le_of_ble_eq_true rfl, by show cells + 1 ≤ 601024; omega, by show slots + 6 * 1 ≤ 7293034; omega⟩ dL_law_2915 (fun H locs hw => ?_)
  refine lv_iload hx hb dL_law_2918 (lv_at hl 1 rfl) ?_
  refine lv_icmp_eq (tgt := 2925) hx hb dL_law_2920 (by decide) (fun c1 => ?_) (fun c1 => absurd e4 c1)
  refine lv_iload hx hb dL_law_2925 (lv_at hl 1 rfl) ?_
  have fin : W p l e room_1 s m args below meth c H locs (cells + 1) (slots + 6 * 1) Q (F0 m 2942 ls []) := by
    refine lv_goto (tgt := 3095) hx hb dL_law_2942 (by decide) ?_
    refine W.widen (k := cells + 10) (n := slots + 60) (by omega) (by omega) ?_
    exact back M2 H locs ls (cx_R_le e5 (by omega)) hw (lv_sub hl [2, 3, 4, 5, 6] rfl)
  refine lv_if_ne (tgt := 2942) hx hb dL_law_2927 (by decide) (fun c2 => fin) (fun c2 => ?_)
  refine lv_aload_n hx hb dL_law_2930 rfl (lv_at hl 6 rfl) ?_
  refine lv_iconst (v := 0) hx hb dL_law_2931 (by decide) ?_
  refine cr_lald C hw hd rfl dL_law_2932 ?_
  refine lv_iload hx hb dL_law_2933 (lv_at hl 0 rfl) ?_
  refine lv_i2l (v := w.toInt64) hx hb dL_law_2935 rfl ?_
  refine W.lcmp hx hb dL_law_2936 ?_
  exact lv_if_eq (tgt := 2942) hx hb dL_law_2937 (by decide) (fun _ => fin) (fun c3 => absurd (lf_lcmp (by rw [e6 c2])) c3)
set_option maxHeartbeats 4000000 in
set_option maxRecDepth 100000 in
theorem lb_60 {p : Program} {l : Launch} {e : Env} {s : State} {m : MethodId} {args : Array Value} {below : List Frame} {meth : Method} {c : Code} {cells slots : Nat} {Q : State → Prop} {dd : cl_D} {b scr L : Nat} {xs : Nat → Int32} (V : lb_C p l s m args meth c dd b scr L xs) {B i : Nat} {M : cl_M} (hi : i + 6 ≤ L) (hL : L ≤ 3072) (R0 : cx_R B M) (hB : B + 8200 < 2 ^ 30) (hcs : cells + 10 ≤ 601024 ∧ slots + 60 ≤ 7293034) (back : ∀ (M : cl_M) (H : Heap) (locs : List Loc) (ls : Array Slot), cx_R (B + 8200) M → cl_H dd b M s H locs → lv_has ls 9 (lb_l scr b i) → W p l e room_1 s m args below meth c H locs (cells + 10) (slots + 60) Q (F0 m 3095 ls [])) {H : Heap} {locs : List Loc} {ls : Array Slot} (hw : cl_H dd b M s H locs) (hl : lv_has ls 9 (lb_l scr b i)) : W p l e room_1 s m args below meth c H locs cells slots Q (F0 m 2945 ls []) := by
  have V0 := V
  obtain ⟨C, hN, hd, hX, hsb, hbs⟩ := V
  have hx := C.1
  have hb := C.2.1
  have hlt := C.2.2.2.2.2.2.2.2.2.2
  have s5 := cl_s00 hd
  have s6 := cl_s237 hd
  obtain ⟨o, w, M2, e1, e2, e3, e4, e5, e6⟩ := lh_ok (cs := lc_save) (by decide) (an_save R0 (xs (i + 1)))
  have e3 : f_X6_save (lh_M o) 237 (xs (i + 1)) = some (w, M2) := e3
  refine lv_aload_n hx hb dL_law_2945 rfl (lv_at hl 2 rfl) ?_
  refine lb_arg V0 hw (lv_at hl 1 rfl) (lv_at hl 0 rfl) (j := 1) dL_law_2946 dL_law_2947 dL_law_2949 dL_law_2950 dL_law_2951 rfl (by omega) hL ?_
  refine lv_aload_n hx hb dL_law_2952 rfl (lv_at hl 4 rfl) ?_
  refine lh_call C hN hw (h_save hlt hd e1 e2) lo_358 sw_L_save in_L cw_L_save ⟨by decide +kernel, by decide +kernel, by decide +kernel⟩ (n := 3) rfl hl.1 (As := [.ref b, .int (xs (i + 1)), .ref (b + 247)]) rfl ⟨⟨Nat.le_of_ble_eq_true rfl, Nat.le_of_ble_eq_true rfl⟩, Nat.le_of_ble_eq_true rfl, by show cells + 1 ≤ 601024; omega, by show slots + 6 * 1 ≤ 7293034; omega⟩ dL_law_2953 (fun H locs hw => ?_)
  refine lv_istore (lv' := (5, .int (lh_r lc_save o)) :: lb_l scr b i) hx hb dL_law_2956 hl (by decide) rfl (fun ls hl => ?_)
  refine lv_aload_n hx hb dL_law_2958 rfl (lv_at hl 4 rfl) ?_
  refine lb_arg V0 hw (lv_at hl 2 rfl) (lv_at hl 1 rfl) (j := 1) dL_law_2959 dL_law_2960 dL_law_2962 dL_law_2963 dL_law_2964 rfl (by omega) hL ?_
  refine cr_Vi C hw (c_X6_save hlt s6 e3) cy_X6_save vy_X6_save lo_360 (cl_lt s6 (by decide)) (cl_e6 s6) rfl rfl (As := [.int (xs (i + 1))]) rfl hl.1 rfl ⟨⟨Nat.le_of_ble_eq_true rfl, Nat.le_of_ble_eq_true rfl⟩, Nat.le_of_ble_eq_true rfl, by show cells + 1 ≤ 601024; omega, by show slots + 6 * 1 ≤ 7293034; omega⟩ dL_law_2965 (fun H locs hw => ?_)
  refine lv_istore (lv' := (6, .int w) :: (5, .int (lh_r lc_save o)) :: lb_l scr b i) hx hb dL_law_2968 hl (by decide) rfl (fun ls hl => ?_)
  refine lv_aload_n hx hb dL_law_2970 rfl (lv_at hl 5 rfl) ?_
  refine cr_Vi C hw (c_X6_thrown hlt s6 (show f_X6_thrown M2 237 = some (M2 237 4) from rfl)) cy_X6_thrown vy_X6_thrown lo_180 (cl_lt s6 (by decide)) (cl_e6 s6) rfl rfl (As := []) rfl hl.1 rfl ⟨⟨Nat.le_of_ble_eq_true rfl, Nat.le_of_ble_eq_true rfl⟩, Nat.le_of_ble_eq_true rfl, by show cells + 1 ≤ 601024; omega, by show slots + 6 * 1 ≤ 7293034; omega⟩ dL_law_2971 (fun H locs hw => ?_)
  refine lv_iload hx hb dL_law_2974 (lv_at hl 1 rfl) ?_
  refine lv_icmp_eq (tgt := 2981) hx hb dL_law_2976 (by decide) (fun c1 => ?_) (fun c1 => absurd e4 c1)
  refine lv_iload hx hb dL_law_2981 (lv_at hl 1 rfl) ?_
  have fin : W p l e room_1 s m args below meth c H locs (cells + 1) (slots + 6 * 1) Q (F0 m 2998 ls []) := by
    refine lv_goto (tgt := 3095) hx hb dL_law_2998 (by decide) ?_
    refine W.widen (k := cells + 10) (n := slots + 60) (by omega) (by omega) ?_
    exact back M2 H locs ls (cx_R_le e5 (by omega)) hw (lv_sub hl [2, 3, 4, 5, 6] rfl)
  refine lv_if_ne (tgt := 2998) hx hb dL_law_2983 (by decide) (fun c2 => fin) (fun c2 => ?_)
  refine lv_aload_n hx hb dL_law_2986 rfl (lv_at hl 6 rfl) ?_
  refine lv_iconst (v := 0) hx hb dL_law_2987 (by decide) ?_
  refine cr_lald C hw hd rfl dL_law_2988 ?_
  refine lv_iload hx hb dL_law_2989 (lv_at hl 0 rfl) ?_
  refine lv_i2l (v := w.toInt64) hx hb dL_law_2991 rfl ?_
  refine W.lcmp hx hb dL_law_2992 ?_
  exact lv_if_eq (tgt := 2998) hx hb dL_law_2993 (by decide) (fun _ => fin) (fun c3 => absurd (lf_lcmp (by rw [e6 c2])) c3)
set_option maxHeartbeats 4000000 in
set_option maxRecDepth 100000 in
theorem lb_61 {p : Program} {l : Launch} {e : Env} {s : State} {m : MethodId} {args : Array Value} {below : List Frame} {meth : Method} {c : Code} {cells slots : Nat} {Q : State → Prop} {dd : cl_D} {b scr L : Nat} {xs : Nat → Int32} (V : lb_C p l s m args meth c dd b scr L xs) {B i : Nat} {M : cl_M} (hi : i + 6 ≤ L) (hL : L ≤ 3072) (R0 : cx_R B M) (hB : B + 8200 < 2 ^ 30) (hcs : cells + 10 ≤ 601024 ∧ slots + 60 ≤ 7293034) (back : ∀ (M : cl_M) (H : Heap) (locs : List Loc) (ls : Array Slot), cx_R (B + 8200) M → cl_H dd b M s H locs → lv_has ls 9 (lb_l scr b i) → W p l e room_1 s m args below meth c H locs (cells + 10) (slots + 60) Q (F0 m 3095 ls [])) {H : Heap} {locs : List Loc} {ls : Array Slot} (hw : cl_H dd b M s H locs) (hl : lv_has ls 9 (lb_l scr b i)) : W p l e room_1 s m args below meth c H locs cells slots Q (F0 m 3001 ls []) := by
  have V0 := V
  obtain ⟨C, hN, hd, hX, hsb, hbs⟩ := V
  have hx := C.1
  have hb := C.2.1
  have hlt := C.2.2.2.2.2.2.2.2.2.2
  have s5 := cl_s00 hd
  have s6 := cl_s237 hd
  obtain ⟨o, w, M2, e1, e2, e3, e4, e5, e6⟩ := lh_ok (cs := lc_restore) (by decide) (an_restore R0 (xs (i + 1)))
  have e3 : f_X6_restore (lh_M o) 237 (xs (i + 1)) = some (w, M2) := e3
  refine lv_aload_n hx hb dL_law_3001 rfl (lv_at hl 2 rfl) ?_
  refine lb_arg V0 hw (lv_at hl 1 rfl) (lv_at hl 0 rfl) (j := 1) dL_law_3002 dL_law_3003 dL_law_3005 dL_law_3006 dL_law_3007 rfl (by omega) hL ?_
  refine lv_aload_n hx hb dL_law_3008 rfl (lv_at hl 4 rfl) ?_
  refine lh_call C hN hw (h_restore hlt hd e1 e2) lo_361 sw_L_restore in_L cw_L_restore ⟨by decide +kernel, by decide +kernel, by decide +kernel⟩ (n := 3) rfl hl.1 (As := [.ref b, .int (xs (i + 1)), .ref (b + 247)]) rfl ⟨⟨Nat.le_of_ble_eq_true rfl, Nat.le_of_ble_eq_true rfl⟩, Nat.le_of_ble_eq_true rfl, by show cells + 2 ≤ 601024; omega, by show slots + 6 * 2 ≤ 7293034; omega⟩ dL_law_3009 (fun H locs hw => ?_)
  refine lv_istore (lv' := (5, .int (lh_r lc_restore o)) :: lb_l scr b i) hx hb dL_law_3012 hl (by decide) rfl (fun ls hl => ?_)
  refine lv_aload_n hx hb dL_law_3014 rfl (lv_at hl 4 rfl) ?_
  refine lb_arg V0 hw (lv_at hl 2 rfl) (lv_at hl 1 rfl) (j := 1) dL_law_3015 dL_law_3016 dL_law_3018 dL_law_3019 dL_law_3020 rfl (by omega) hL ?_
  refine cr_Vi C hw (c_X6_restore hlt s6 e3) cy_X6_restore vy_X6_restore lo_363 (cl_lt s6 (by decide)) (cl_e6 s6) rfl rfl (As := [.int (xs (i + 1))]) rfl hl.1 rfl ⟨⟨Nat.le_of_ble_eq_true rfl, Nat.le_of_ble_eq_true rfl⟩, Nat.le_of_ble_eq_true rfl, by show cells + 2 ≤ 601024; omega, by show slots + 6 * 2 ≤ 7293034; omega⟩ dL_law_3021 (fun H locs hw => ?_)
  refine lv_istore (lv' := (6, .int w) :: (5, .int (lh_r lc_restore o)) :: lb_l scr b i) hx hb dL_law_3024 hl (by decide) rfl (fun ls hl => ?_)
  refine lv_aload_n hx hb dL_law_3026 rfl (lv_at hl 5 rfl) ?_
  refine cr_Vi C hw (c_X6_thrown hlt s6 (show f_X6_thrown M2 237 = some (M2 237 4) from rfl)) cy_X6_thrown vy_X6_thrown lo_180 (cl_lt s6 (by decide)) (cl_e6 s6) rfl rfl (As := []) rfl hl.1 rfl ⟨⟨Nat.le_of_ble_eq_true rfl, Nat.le_of_ble_eq_true rfl⟩, Nat.le_of_ble_eq_true rfl, by show cells + 2 ≤ 601024; omega, by show slots + 6 * 2 ≤ 7293034; omega⟩ dL_law_3027 (fun H locs hw => ?_)
  refine lv_iload hx hb dL_law_3030 (lv_at hl 1 rfl) ?_
  refine lv_icmp_eq (tgt := 3037) hx hb dL_law_3032 (by decide) (fun c1 => ?_) (fun c1 => absurd e4 c1)
  refine lv_iload hx hb dL_law_3037 (lv_at hl 1 rfl) ?_
  have fin : W p l e room_1 s m args below meth c H locs (cells + 2) (slots + 6 * 2) Q (F0 m 3054 ls []) := by
    refine lv_goto (tgt := 3095) hx hb dL_law_3054 (by decide) ?_
    refine W.widen (k := cells + 10) (n := slots + 60) (by omega) (by omega) ?_
    exact back M2 H locs ls (cx_R_le e5 (by omega)) hw (lv_sub hl [2, 3, 4, 5, 6] rfl)
  refine lv_if_ne (tgt := 3054) hx hb dL_law_3039 (by decide) (fun c2 => fin) (fun c2 => ?_)
  refine lv_aload_n hx hb dL_law_3042 rfl (lv_at hl 6 rfl) ?_
  refine lv_iconst (v := 0) hx hb dL_law_3043 (by decide) ?_
  refine cr_lald C hw hd rfl dL_law_3044 ?_
  refine lv_iload hx hb dL_law_3045 (lv_at hl 0 rfl) ?_
  refine lv_i2l (v := w.toInt64) hx hb dL_law_3047 rfl ?_
  refine W.lcmp hx hb dL_law_3048 ?_
  exact lv_if_eq (tgt := 3054) hx hb dL_law_3049 (by decide) (fun _ => fin) (fun c3 => absurd (lf_lcmp (by rw [e6 c2])) c3)

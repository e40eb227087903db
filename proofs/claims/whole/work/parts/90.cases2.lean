/-! the cases with a helper, first half -/
set_option maxHeartbeats 4000000 in
set_option maxRecDepth 100000 in
theorem lb_8 {p : Program} {l : Launch} {e : Env} {s : State} {m : MethodId} {args : Array Value} {below : List Frame} {meth : Method} {c : Code} {cells slots : Nat} {Q : State → Prop} {dd : cl_D} {b scr L : Nat} {xs : Nat → Int32} (V : lb_C p l s m args meth c dd b scr L xs) {B i : Nat} {M : cl_M} (hi : i + 6 ≤ L) (hL : L ≤ 3072) (R0 : cx_R B M) (hB : B + 8200 < 2 ^ 30) (hcs : cells + 10 ≤ 601024 ∧ slots + 60 ≤ 7293034) (back : ∀ (M : cl_M) (H : Heap) (locs : List Loc) (ls : Array Slot), cx_R (B + 8200) M → cl_H dd b M s H locs → lv_has ls 9 (lb_l scr b i) → W p l e room_1 s m args below meth c H locs (cells + 10) (slots + 60) Q (F0 m 3095 ls [])) {H : Heap} {locs : List Loc} {ls : Array Slot} (hw : cl_H dd b M s H locs) (hl : lv_has ls 9 (lb_l scr b i)) : W p l e room_1 s m args below meth c H locs cells slots Q (F0 m 476 ls []) := by
  have V0 := V
  obtain ⟨C, hN, hd, hX, hsb, hbs⟩ := V
  have hx := C.1
  have hb := C.2.1
  have hlt := C.2.2.2.2.2.2.2.2.2.2
  have s5 := cl_s00 hd
  have s6 := cl_s237 hd
  obtain ⟨o, w, M2, e1, e2, e3, e4, e5, e6⟩ := lh_ok (cs := lc_windIn) (by decide) (an_windIn R0 (xs (i + 1)))
  have e3 : f_X6_windIn (lh_M o) 237 (xs (i + 1)) = some (w, M2) := e3
  refine lv_aload_n hx hb dL_law_476 rfl (lv_at hl 2 rfl) ?_
  refine lb_arg V0 hw (lv_at hl 1 rfl) (lv_at hl 0 rfl) (j := 1) dL_law_477 dL_law_478 dL_law_480 dL_law_481 dL_law_482 rfl (by omega) hL ?_
  refine lv_aload_n hx hb dL_law_483 rfl (lv_at hl 4 rfl) ?_
  refine lh_call C hN hw (h_windIn hlt hd e1 e2) lo_174 sw_L_windIn in_L cw_L_windIn ⟨by decide +kernel, by decide +kernel, by decide +kernel⟩ (n := 3) rfl hl.1 (As := [.ref b, .int (xs (i + 1)), .ref (b + 247)]) rfl ⟨⟨Nat.le_of_ble_eq_true rfl, Nat.le_of_ble_eq_true rfl⟩, Nat.le_of_ble_eq_true rfl, by show cells + 1 ≤ 601024; omega, by show slots + 6 * 1 ≤ 7293034; omega⟩ dL_law_484 (fun H locs hw => ?_)
  refine lv_istore (lv' := (5, .int (lh_r lc_windIn o)) :: lb_l scr b i) hx hb dL_law_487 hl (by decide) rfl (fun ls hl => ?_)
  refine lv_aload_n hx hb dL_law_489 rfl (lv_at hl 4 rfl) ?_
  refine lb_arg V0 hw (lv_at hl 2 rfl) (lv_at hl 1 rfl) (j := 1) dL_law_490 dL_law_491 dL_law_493 dL_law_494 dL_law_495 rfl (by omega) hL ?_
  refine cr_Vi C hw (c_X6_windIn hlt s6 e3) cy_X6_windIn vy_X6_windIn lo_179 (cl_lt s6 (by decide)) (cl_e6 s6) rfl rfl (As := [.int (xs (i + 1))]) rfl hl.1 rfl ⟨⟨Nat.le_of_ble_eq_true rfl, Nat.le_of_ble_eq_true rfl⟩, Nat.le_of_ble_eq_true rfl, by show cells + 1 ≤ 601024; omega, by show slots + 6 * 1 ≤ 7293034; omega⟩ dL_law_496 (fun H locs hw => ?_)
  refine lv_istore (lv' := (6, .int w) :: (5, .int (lh_r lc_windIn o)) :: lb_l scr b i) hx hb dL_law_499 hl (by decide) rfl (fun ls hl => ?_)
  refine lv_aload_n hx hb dL_law_501 rfl (lv_at hl 5 rfl) ?_
  refine cr_Vi C hw (c_X6_thrown hlt s6 (show f_X6_thrown M2 237 = some (M2 237 4) from rfl)) cy_X6_thrown vy_X6_thrown lo_180 (cl_lt s6 (by decide)) (cl_e6 s6) rfl rfl (As := []) rfl hl.1 rfl ⟨⟨Nat.le_of_ble_eq_true rfl, Nat.le_of_ble_eq_true rfl⟩, Nat.le_of_ble_eq_true rfl, by show cells + 1 ≤ 601024; omega, by show slots + 6 * 1 ≤ 7293034; omega⟩ dL_law_502 (fun H locs hw => ?_)
  refine lv_iload hx hb dL_law_505 (lv_at hl 1 rfl) ?_
  refine lv_icmp_eq (tgt := 512) hx hb dL_law_507 (by decide) (fun c1 => ?_) (fun c1 => absurd e4 c1)
  refine lv_iload hx hb dL_law_512 (lv_at hl 1 rfl) ?_
  have fin : W p l e room_1 s m args below meth c H locs (cells + 1) (slots + 6 * 1) Q (F0 m 529 ls []) := by
    refine lv_goto (tgt := 3095) hx hb dL_law_529 (by decide) ?_
    refine W.widen (k := cells + 10) (n := slots + 60) (by omega) (by omega) ?_
    exact back M2 H locs ls (cx_R_le e5 (by omega)) hw (lv_sub hl [2, 3, 4, 5, 6] rfl)
  refine lv_if_ne (tgt := 529) hx hb dL_law_514 (by decide) (fun c2 => fin) (fun c2 => ?_)
  refine lv_aload_n hx hb dL_law_517 rfl (lv_at hl 6 rfl) ?_
  refine lv_iconst (v := 0) hx hb dL_law_518 (by decide) ?_
  refine cr_lald C hw hd rfl dL_law_519 ?_
  refine lv_iload hx hb dL_law_520 (lv_at hl 0 rfl) ?_
  refine lv_i2l (v := w.toInt64) hx hb dL_law_522 rfl ?_
  refine W.lcmp hx hb dL_law_523 ?_
  exact lv_if_eq (tgt := 529) hx hb dL_law_524 (by decide) (fun _ => fin) (fun c3 => absurd (lf_lcmp (by rw [e6 c2])) c3)
set_option maxHeartbeats 4000000 in
set_option maxRecDepth 100000 in
theorem lb_9 {p : Program} {l : Launch} {e : Env} {s : State} {m : MethodId} {args : Array Value} {below : List Frame} {meth : Method} {c : Code} {cells slots : Nat} {Q : State → Prop} {dd : cl_D} {b scr L : Nat} {xs : Nat → Int32} (V : lb_C p l s m args meth c dd b scr L xs) {B i : Nat} {M : cl_M} (hi : i + 6 ≤ L) (hL : L ≤ 3072) (R0 : cx_R B M) (hB : B + 8200 < 2 ^ 30) (hcs : cells + 10 ≤ 601024 ∧ slots + 60 ≤ 7293034) (back : ∀ (M : cl_M) (H : Heap) (locs : List Loc) (ls : Array Slot), cx_R (B + 8200) M → cl_H dd b M s H locs → lv_has ls 9 (lb_l scr b i) → W p l e room_1 s m args below meth c H locs (cells + 10) (slots + 60) Q (F0 m 3095 ls [])) {H : Heap} {locs : List Loc} {ls : Array Slot} (hw : cl_H dd b M s H locs) (hl : lv_has ls 9 (lb_l scr b i)) : W p l e room_1 s m args below meth c H locs cells slots Q (F0 m 532 ls []) := by
  have V0 := V
  obtain ⟨C, hN, hd, hX, hsb, hbs⟩ := V
  have hx := C.1
  have hb := C.2.1
  have hlt := C.2.2.2.2.2.2.2.2.2.2
  have s5 := cl_s00 hd
  have s6 := cl_s237 hd
  obtain ⟨o, w, M2, e1, e2, e3, e4, e5, e6⟩ := lh_ok (cs := lc_rainIn) (by decide) (an_rainIn R0 (xs (i + 1)))
  have e3 : f_X6_rainIn (lh_M o) 237 (xs (i + 1)) = some (w, M2) := e3
  refine lv_aload_n hx hb dL_law_532 rfl (lv_at hl 2 rfl) ?_
  refine lb_arg V0 hw (lv_at hl 1 rfl) (lv_at hl 0 rfl) (j := 1) dL_law_533 dL_law_534 dL_law_536 dL_law_537 dL_law_538 rfl (by omega) hL ?_
  refine lv_aload_n hx hb dL_law_539 rfl (lv_at hl 4 rfl) ?_
  refine lh_call C hN hw (h_rainIn hlt hd e1 e2) lo_183 sw_L_rainIn in_L cw_L_rainIn ⟨by decide +kernel, by decide +kernel, by decide +kernel⟩ (n := 3) rfl hl.1 (As := [.ref b, .int (xs (i + 1)), .ref (b + 247)]) rfl ⟨⟨Nat.le_of_ble_eq_true rfl, Nat.le_of_ble_eq_true rfl⟩, Nat.le_of_ble_eq_true rfl, by show cells + 1 ≤ 601024; omega, by show slots + 6 * 1 ≤ 7293034; omega⟩ dL_law_540 (fun H locs hw => ?_)
  refine lv_istore (lv' := (5, .int (lh_r lc_rainIn o)) :: lb_l scr b i) hx hb dL_law_543 hl (by decide) rfl (fun ls hl => ?_)
  refine lv_aload_n hx hb dL_law_545 rfl (lv_at hl 4 rfl) ?_
  refine lb_arg V0 hw (lv_at hl 2 rfl) (lv_at hl 1 rfl) (j := 1) dL_law_546 dL_law_547 dL_law_549 dL_law_550 dL_law_551 rfl (by omega) hL ?_
  refine cr_Vi C hw (c_X6_rainIn hlt s6 e3) cy_X6_rainIn vy_X6_rainIn lo_185 (cl_lt s6 (by decide)) (cl_e6 s6) rfl rfl (As := [.int (xs (i + 1))]) rfl hl.1 rfl ⟨⟨Nat.le_of_ble_eq_true rfl, Nat.le_of_ble_eq_true rfl⟩, Nat.le_of_ble_eq_true rfl, by show cells + 1 ≤ 601024; omega, by show slots + 6 * 1 ≤ 7293034; omega⟩ dL_law_552 (fun H locs hw => ?_)
  refine lv_istore (lv' := (6, .int w) :: (5, .int (lh_r lc_rainIn o)) :: lb_l scr b i) hx hb dL_law_555 hl (by decide) rfl (fun ls hl => ?_)
  refine lv_aload_n hx hb dL_law_557 rfl (lv_at hl 5 rfl) ?_
  refine cr_Vi C hw (c_X6_thrown hlt s6 (show f_X6_thrown M2 237 = some (M2 237 4) from rfl)) cy_X6_thrown vy_X6_thrown lo_180 (cl_lt s6 (by decide)) (cl_e6 s6) rfl rfl (As := []) rfl hl.1 rfl ⟨⟨Nat.le_of_ble_eq_true rfl, Nat.le_of_ble_eq_true rfl⟩, Nat.le_of_ble_eq_true rfl, by show cells + 1 ≤ 601024; omega, by show slots + 6 * 1 ≤ 7293034; omega⟩ dL_law_558 (fun H locs hw => ?_)
  refine lv_iload hx hb dL_law_561 (lv_at hl 1 rfl) ?_
  refine lv_icmp_eq (tgt := 568) hx hb dL_law_563 (by decide) (fun c1 => ?_) (fun c1 => absurd e4 c1)
  refine lv_iload hx hb dL_law_568 (lv_at hl 1 rfl) ?_
  have fin : W p l e room_1 s m args below meth c H locs (cells + 1) (slots + 6 * 1) Q (F0 m 585 ls []) := by
    refine lv_goto (tgt := 3095) hx hb dL_law_585 (by decide) ?_
    refine W.widen (k := cells + 10) (n := slots + 60) (by omega) (by omega) ?_
    exact back M2 H locs ls (cx_R_le e5 (by omega)) hw (lv_sub hl [2, 3, 4, 5, 6] rfl)
  refine lv_if_ne (tgt := 585) hx hb dL_law_570 (by decide) (fun c2 => fin) (fun c2 => ?_)
  refine lv_aload_n hx hb dL_law_573 rfl (lv_at hl 6 rfl) ?_
  refine lv_iconst (v := 0) hx hb dL_law_574 (by decide) ?_
  refine cr_lald C hw hd rfl dL_law_575 ?_
  refine lv_iload hx hb dL_law_576 (lv_at hl 0 rfl) ?_
  refine lv_i2l (v := w.toInt64) hx hb dL_law_578 rfl ?_
  refine W.lcmp hx hb dL_law_579 ?_
  exact lv_if_eq (tgt := 585) hx hb dL_law_580 (by decide) (fun _ => fin) (fun c3 => absurd (lf_lcmp (by rw [e6 c2])) c3)
set_option maxHeartbeats 4000000 in
set_option maxRecDepth 100000 in
theorem lb_10 {p : Program} {l : Launch} {e : Env} {s : State} {m : MethodId} {args : Array Value} {below : List Frame} {meth : Method} {c : Code} {cells slots : Nat} {Q : State → Prop} {dd : cl_D} {b scr L : Nat} {xs : Nat → Int32} (V : lb_C p l s m args meth c dd b scr L xs) {B i : Nat} {M : cl_M} (hi : i + 6 ≤ L) (hL : L ≤ 3072) (R0 : cx_R B M) (hB : B + 8200 < 2 ^ 30) (hcs : cells + 10 ≤ 601024 ∧ slots + 60 ≤ 7293034) (back : ∀ (M : cl_M) (H : Heap) (locs : List Loc) (ls : Array Slot), cx_R (B + 8200) M → cl_H dd b M s H locs → lv_has ls 9 (lb_l scr b i) → W p l e room_1 s m args below meth c H locs (cells + 10) (slots + 60) Q (F0 m 3095 ls [])) {H : Heap} {locs : List Loc} {ls : Array Slot} (hw : cl_H dd b M s H locs) (hl : lv_has ls 9 (lb_l scr b i)) : W p l e room_1 s m args below meth c H locs cells slots Q (F0 m 588 ls []) := by
  have V0 := V
  obtain ⟨C, hN, hd, hX, hsb, hbs⟩ := V
  have hx := C.1
  have hb := C.2.1
  have hlt := C.2.2.2.2.2.2.2.2.2.2
  have s5 := cl_s00 hd
  have s6 := cl_s237 hd
  obtain ⟨o, w, M2, e1, e2, e3, e4, e5, e6⟩ := lh_ok (cs := lc_sunnySpots) (by decide) (an_sunnySpots R0 (xs (i + 1)))
  have e3 : f_X6_sunnySpots (lh_M o) 237 (xs (i + 1)) = some (w, M2) := e3
  refine lv_aload_n hx hb dL_law_588 rfl (lv_at hl 2 rfl) ?_
  refine lb_arg V0 hw (lv_at hl 1 rfl) (lv_at hl 0 rfl) (j := 1) dL_law_589 dL_law_590 dL_law_592 dL_law_593 dL_law_594 rfl (by omega) hL ?_
  refine lv_aload_n hx hb dL_law_595 rfl (lv_at hl 4 rfl) ?_
  refine lh_call C hN hw (h_sunnySpots hlt hd e1 e2) lo_186 sw_L_sunnySpots in_L cw_L_sunnySpots ⟨by decide +kernel, by decide +kernel, by decide +kernel⟩ (n := 3) rfl hl.1 (As := [.ref b, .int (xs (i + 1)), .ref (b + 247)]) rfl ⟨⟨Nat.le_of_ble_eq_true rfl, Nat.le_of_ble_eq_true rfl⟩, Nat.le_of_ble_eq_true rfl, by show cells + 1 ≤ 601024; omega, by show slots + 6 * 1 ≤ 7293034; omega⟩ dL_law_596 (fun H locs hw => ?_)
  refine lv_istore (lv' := (5, .int (lh_r lc_sunnySpots o)) :: lb_l scr b i) hx hb dL_law_599 hl (by decide) rfl (fun ls hl => ?_)
  refine lv_aload_n hx hb dL_law_601 rfl (lv_at hl 4 rfl) ?_
  refine lb_arg V0 hw (lv_at hl 2 rfl) (lv_at hl 1 rfl) (j := 1) dL_law_602 dL_law_603 dL_law_605 dL_law_606 dL_law_607 rfl (by omega) hL ?_
  refine cr_Vi C hw (c_X6_sunnySpots hlt s6 e3) cy_X6_sunnySpots vy_X6_sunnySpots lo_188 (cl_lt s6 (by decide)) (cl_e6 s6) rfl rfl (As := [.int (xs (i + 1))]) rfl hl.1 rfl ⟨⟨Nat.le_of_ble_eq_true rfl, Nat.le_of_ble_eq_true rfl⟩, Nat.le_of_ble_eq_true rfl, by show cells + 1 ≤ 601024; omega, by show slots + 6 * 1 ≤ 7293034; omega⟩ dL_law_608 (fun H locs hw => ?_)
  refine lv_istore (lv' := (6, .int w) :: (5, .int (lh_r lc_sunnySpots o)) :: lb_l scr b i) hx hb dL_law_611 hl (by decide) rfl (fun ls hl => ?_)
  refine lv_aload_n hx hb dL_law_613 rfl (lv_at hl 5 rfl) ?_
  refine cr_Vi C hw (c_X6_thrown hlt s6 (show f_X6_thrown M2 237 = some (M2 237 4) from rfl)) cy_X6_thrown vy_X6_thrown lo_180 (cl_lt s6 (by decide)) (cl_e6 s6) rfl rfl (As := []) rfl hl.1 rfl ⟨⟨Nat.le_of_ble_eq_true rfl, Nat.le_of_ble_eq_true rfl⟩, Nat.le_of_ble_eq_true rfl, by show cells + 1 ≤ 601024; omega, by show slots + 6 * 1 ≤ 7293034; omega⟩ dL_law_614 (fun H locs hw => ?_)
  refine lv_iload hx hb dL_law_617 (lv_at hl 1 rfl) ?_
  refine lv_icmp_eq (tgt := 624) hx hb dL_law_619 (by decide) (fun c1 => ?_) (fun c1 => absurd e4 c1)
  refine lv_iload hx hb dL_law_624 (lv_at hl 1 rfl) ?_
  have fin : W p l e room_1 s m args below meth c H locs (cells + 1) (slots + 6 * 1) Q (F0 m 641 ls []) := by
    refine lv_goto (tgt := 3095) hx hb dL_law_641 (by decide) ?_
    refine W.widen (k := cells + 10) (n := slots + 60) (by omega) (by omega) ?_
    exact back M2 H locs ls (cx_R_le e5 (by omega)) hw (lv_sub hl [2, 3, 4, 5, 6] rfl)
  refine lv_if_ne (tgt := 641) hx hb dL_law_626 (by decide) (fun c2 => fin) (fun c2 => ?_)
  refine lv_aload_n hx hb dL_law_629 rfl (lv_at hl 6 rfl) ?_
  refine lv_iconst (v := 0) hx hb dL_law_630 (by decide) ?_
  refine cr_lald C hw hd rfl dL_law_631 ?_
  refine lv_iload hx hb dL_law_632 (lv_at hl 0 rfl) ?_
  refine lv_i2l (v := w.toInt64) hx hb dL_law_634 rfl ?_
  refine W.lcmp hx hb dL_law_635 ?_
  exact lv_if_eq (tgt := 641) hx hb dL_law_636 (by decide) (fun _ => fin) (fun c3 => absurd (lf_lcmp (by rw [e6 c2])) c3)
set_option maxHeartbeats 4000000 in
set_option maxRecDepth 100000 in
theorem lb_11 {p : Program} {l : Launch} {e : Env} {s : State} {m : MethodId} {args : Array Value} {below : List Frame} {meth : Method} {c : Code} {cells slots : Nat} {Q : State → Prop} {dd : cl_D} {b scr L : Nat} {xs : Nat → Int32} (V : lb_C p l s m args meth c dd b scr L xs) {B i : Nat} {M : cl_M} (hi : i + 6 ≤ L) (hL : L ≤ 3072) (R0 : cx_R B M) (hB : B + 8200 < 2 ^ 30) (hcs : cells + 10 ≤ 601024 ∧ slots + 60 ≤ 7293034) (back : ∀ (M : cl_M) (H : Heap) (locs : List Loc) (ls : Array Slot), cx_R (B + 8200) M → cl_H dd b M s H locs → lv_has ls 9 (lb_l scr b i) → W p l e room_1 s m args below meth c H locs (cells + 10) (slots + 60) Q (F0 m 3095 ls [])) {H : Heap} {locs : List Loc} {ls : Array Slot} (hw : cl_H dd b M s H locs) (hl : lv_has ls 9 (lb_l scr b i)) : W p l e room_1 s m args below meth c H locs cells slots Q (F0 m 644 ls []) := by
  have V0 := V
  obtain ⟨C, hN, hd, hX, hsb, hbs⟩ := V
  have hx := C.1
  have hb := C.2.1
  have hlt := C.2.2.2.2.2.2.2.2.2.2
  have s5 := cl_s00 hd
  have s6 := cl_s237 hd
  obtain ⟨o, w, M2, e1, e2, e3, e4, e5, e6⟩ := lh_ok (cs := lc_smokySpots) (by decide) (an_smokySpots R0 (xs (i + 1)))
  have e3 : f_X6_smokySpots (lh_M o) 237 (xs (i + 1)) = some (w, M2) := e3
  refine lv_aload_n hx hb dL_law_644 rfl (lv_at hl 2 rfl) ?_
  refine lb_arg V0 hw (lv_at hl 1 rfl) (lv_at hl 0 rfl) (j := 1) dL_law_645 dL_law_646 dL_law_648 dL_law_649 dL_law_650 rfl (by omega) hL ?_
  refine lv_aload_n hx hb dL_law_651 rfl (lv_at hl 4 rfl) ?_
  refine lh_call C hN hw (h_smokySpots hlt hd e1 e2) lo_189 sw_L_smokySpots in_L cw_L_smokySpots ⟨by decide +kernel, by decide +kernel, by decide +kernel⟩ (n := 3) rfl hl.1 (As := [.ref b, .int (xs (i + 1)), .ref (b + 247)]) rfl ⟨⟨Nat.le_of_ble_eq_true rfl, Nat.le_of_ble_eq_true rfl⟩, Nat.le_of_ble_eq_true rfl, by show cells + 1 ≤ 601024; omega, by show slots + 6 * 1 ≤ 7293034; omega⟩ dL_law_652 (fun H locs hw => ?_)
  refine lv_istore (lv' := (5, .int (lh_r lc_smokySpots o)) :: lb_l scr b i) hx hb dL_law_655 hl (by decide) rfl (fun ls hl => ?_)
  refine lv_aload_n hx hb dL_law_657 rfl (lv_at hl 4 rfl) ?_
  refine lb_arg V0 hw (lv_at hl 2 rfl) (lv_at hl 1 rfl) (j := 1) dL_law_658 dL_law_659 dL_law_661 dL_law_662 dL_law_663 rfl (by omega) hL ?_
  refine cr_Vi C hw (c_X6_smokySpots hlt s6 e3) cy_X6_smokySpots vy_X6_smokySpots lo_191 (cl_lt s6 (by decide)) (cl_e6 s6) rfl rfl (As := [.int (xs (i + 1))]) rfl hl.1 rfl ⟨⟨Nat.le_of_ble_eq_true rfl, Nat.le_of_ble_eq_true rfl⟩, Nat.le_of_ble_eq_true rfl, by show cells + 1 ≤ 601024; omega, by show slots + 6 * 1 ≤ 7293034; omega⟩ dL_law_664 (fun H locs hw => ?_)
  refine lv_istore (lv' := (6, .int w) :: (5, .int (lh_r lc_smokySpots o)) :: lb_l scr b i) hx hb dL_law_667 hl (by decide) rfl (fun ls hl => ?_)
  refine lv_aload_n hx hb dL_law_669 rfl (lv_at hl 5 rfl) ?_
  refine cr_Vi C hw (c_X6_thrown hlt s6 (show f_X6_thrown M2 237 = some (M2 237 4) from rfl)) cy_X6_thrown vy_X6_thrown lo_180 (cl_lt s6 (by decide)) (cl_e6 s6) rfl rfl (As := []) rfl hl.1 rfl ⟨⟨Nat.le_of_ble_eq_true rfl, Nat.le_of_ble_eq_true rfl⟩, Nat.le_of_ble_eq_true rfl, by show cells + 1 ≤ 601024; omega, by show slots + 6 * 1 ≤ 7293034; omega⟩ dL_law_670 (fun H locs hw => ?_)
  refine lv_iload hx hb dL_law_673 (lv_at hl 1 rfl) ?_
  refine lv_icmp_eq (tgt := 680) hx hb dL_law_675 (by decide) (fun c1 => ?_) (fun c1 => absurd e4 c1)
  refine lv_iload hx hb dL_law_680 (lv_at hl 1 rfl) ?_
  have fin : W p l e room_1 s m args below meth c H locs (cells + 1) (slots + 6 * 1) Q (F0 m 697 ls []) := by
    refine lv_goto (tgt := 3095) hx hb dL_law_697 (by decide) ?_
    refine W.widen (k := cells + 10) (n := slots + 60) (by omega) (by omega) ?_
    exact back M2 H locs ls (cx_R_le e5 (by omega)) hw (lv_sub hl [2, 3, 4, 5, 6] rfl)
  refine lv_if_ne (tgt := 697) hx hb dL_law_682 (by decide) (fun c2 => fin) (fun c2 => ?_)
  refine lv_aload_n hx hb dL_law_685 rfl (lv_at hl 6 rfl) ?_
  refine lv_iconst (v := 0) hx hb dL_law_686 (by decide) ?_
  refine cr_lald C hw hd rfl dL_law_687 ?_
  refine lv_iload hx hb dL_law_688 (lv_at hl 0 rfl) ?_
  refine lv_i2l (v := w.toInt64) hx hb dL_law_690 rfl ?_
  refine W.lcmp hx hb dL_law_691 ?_
  exact lv_if_eq (tgt := 697) hx hb dL_law_692 (by decide) (fun _ => fin) (fun c3 => absurd (lf_lcmp (by rw [e6 c2])) c3)
set_option maxHeartbeats 4000000 in
set_option maxRecDepth 100000 in
theorem lb_17 {p : Program} {l : Launch} {e : Env} {s : State} {m : MethodId} {args : Array Value} {below : List Frame} {meth : Method} {c : Code} {cells slots : Nat} {Q : State → Prop} {dd : cl_D} {b scr L : Nat} {xs : Nat → Int32} (V : lb_C p l s m args meth c dd b scr L xs) {B i : Nat} {M : cl_M} (hi : i + 6 ≤ L) (hL : L ≤ 3072) (R0 : cx_R B M) (hB : B + 8200 < 2 ^ 30) (hcs : cells + 10 ≤ 601024 ∧ slots + 60 ≤ 7293034) (back : ∀ (M : cl_M) (H : Heap) (locs : List Loc) (ls : Array Slot), cx_R (B + 8200) M → cl_H dd b M s H locs → lv_has ls 9 (lb_l scr b i) → W p l e room_1 s m args below meth c H locs (cells + 10) (slots + 60) Q (F0 m 3095 ls [])) {H : Heap} {locs : List Loc} {ls : Array Slot} (hw : cl_H dd b M s H locs) (hl : lv_has ls 9 (lb_l scr b i)) : W p l e room_1 s m args below meth c H locs cells slots Q (F0 m 765 ls []) := by
  have V0 := V
  obtain ⟨C, hN, hd, hX, hsb, hbs⟩ := V
  have hx := C.1
  have hb := C.2.1
  have hlt := C.2.2.2.2.2.2.2.2.2.2
  have s5 := cl_s00 hd
  have s6 := cl_s237 hd
  obtain ⟨o, w, M2, e1, e2, e3, e4, e5, e6⟩ := lh_ok (cs := lc_garmentAt) (by decide) (an_garmentAt R0 (xs (i + 1)))
  have e3 : f_X6_garmentAt (lh_M o) 237 (xs (i + 1)) = some (w, M2) := e3
  refine lv_aload_n hx hb dL_law_765 rfl (lv_at hl 2 rfl) ?_
  refine lb_arg V0 hw (lv_at hl 1 rfl) (lv_at hl 0 rfl) (j := 1) dL_law_766 dL_law_767 dL_law_769 dL_law_770 dL_law_771 rfl (by omega) hL ?_
  refine lv_aload_n hx hb dL_law_772 rfl (lv_at hl 4 rfl) ?_
  refine lh_call C hN hw (h_garmentAt hlt hd e1 e2) lo_212 sw_L_garmentAt in_L cw_L_garmentAt ⟨by decide +kernel, by decide +kernel, by decide +kernel⟩ (n := 3) rfl hl.1 (As := [.ref b, .int (xs (i + 1)), .ref (b + 247)]) rfl ⟨⟨Nat.le_of_ble_eq_true rfl, Nat.le_of_ble_eq_true rfl⟩, Nat.le_of_ble_eq_true rfl, by show cells + 1 ≤ 601024; omega, by show slots + 6 * 1 ≤ 7293034; omega⟩ dL_law_773 (fun H locs hw => ?_)
  refine lv_istore (lv' := (5, .int (lh_r lc_garmentAt o)) :: lb_l scr b i) hx hb dL_law_776 hl (by decide) rfl (fun ls hl => ?_)
  refine lv_aload_n hx hb dL_law_778 rfl (lv_at hl 4 rfl) ?_
  refine lb_arg V0 hw (lv_at hl 2 rfl) (lv_at hl 1 rfl) (j := 1) dL_law_779 dL_law_780 dL_law_782 dL_law_783 dL_law_784 rfl (by omega) hL ?_
  refine cr_Vi C hw (c_X6_garmentAt hlt s6 e3) cy_X6_garmentAt vy_X6_garmentAt lo_214 (cl_lt s6 (by decide)) (cl_e6 s6) rfl rfl (As := [.int (xs (i + 1))]) rfl hl.1 rfl ⟨⟨Nat.le_of_ble_eq_true rfl, Nat.le_of_ble_eq_true rfl⟩, Nat.le_of_ble_eq_true rfl, by show cells + 1 ≤ 601024; omega, by show slots + 6 * 1 ≤ 7293034; omega⟩ dL_law_785 (fun H locs hw => ?_)
  refine lv_istore (lv' := (6, .int w) :: (5, .int (lh_r lc_garmentAt o)) :: lb_l scr b i) hx hb dL_law_788 hl (by decide) rfl (fun ls hl => ?_)
  refine lv_aload_n hx hb dL_law_790 rfl (lv_at hl 5 rfl) ?_
  refine cr_Vi C hw (c_X6_thrown hlt s6 (show f_X6_thrown M2 237 = some (M2 237 4) from rfl)) cy_X6_thrown vy_X6_thrown lo_180 (cl_lt s6 (by decide)) (cl_e6 s6) rfl rfl (As := []) rfl hl.1 rfl ⟨⟨Nat.le_of_ble_eq_true rfl, Nat.le_of_ble_eq_true rfl⟩, Nat.le_of_ble_eq_true rfl, by show cells + 1 ≤ 601024; omega, by show slots + 6 * 1 ≤ 7293034; omega⟩ dL_law_791 (fun H locs hw => ?_)
  refine lv_iload hx hb dL_law_794 (lv_at hl 1 rfl) ?_
  refine lv_icmp_eq (tgt := 801) hx hb dL_law_796 (by decide) (fun c1 => ?_) (fun c1 => absurd e4 c1)
  refine lv_iload hx hb dL_law_801 (lv_at hl 1 rfl) ?_
  have fin : W p l e room_1 s m args below meth c H locs (cells + 1) (slots + 6 * 1) Q (F0 m 818 ls []) := by
    refine lv_goto (tgt := 3095) hx hb dL_law_818 (by decide) ?_
    refine W.widen (k := cells + 10) (n := slots + 60) (by omega) (by omega) ?_
    exact back M2 H locs ls (cx_R_le e5 (by omega)) hw (lv_sub hl [2, 3, 4, 5, 6] rfl)
  refine lv_if_ne (tgt := 818) hx hb dL_law_803 (by decide) (fun c2 => fin) (fun c2 => ?_)
  refine lv_aload_n hx hb dL_law_806 rfl (lv_at hl 6 rfl) ?_
  refine lv_iconst (v := 0) hx hb dL_law_807 (by decide) ?_
  refine cr_lald C hw hd rfl dL_law_808 ?_
  refine lv_iload hx hb dL_law_809 (lv_at hl 0 rfl) ?_
  refine lv_i2l (v := w.toInt64) hx hb dL_law_811 rfl ?_
  refine W.lcmp hx hb dL_law_812 ?_
  exact lv_if_eq (tgt := 818) hx hb dL_law_813 (by decide) (fun _ => fin) (fun c3 => absurd (lf_lcmp (by rw [e6 c2])) c3)
set_option maxHeartbeats 4000000 in
set_option maxRecDepth 100000 in
theorem lb_20 {p : Program} {l : Launch} {e : Env} {s : State} {m : MethodId} {args : Array Value} {below : List Frame} {meth : Method} {c : Code} {cells slots : Nat} {Q : State → Prop} {dd : cl_D} {b scr L : Nat} {xs : Nat → Int32} (V : lb_C p l s m args meth c dd b scr L xs) {B i : Nat} {M : cl_M} (hi : i + 6 ≤ L) (hL : L ≤ 3072) (R0 : cx_R B M) (hB : B + 8200 < 2 ^ 30) (hcs : cells + 10 ≤ 601024 ∧ slots + 60 ≤ 7293034) (back : ∀ (M : cl_M) (H : Heap) (locs : List Loc) (ls : Array Slot), cx_R (B + 8200) M → cl_H dd b M s H locs → lv_has ls 9 (lb_l scr b i) → W p l e room_1 s m args below meth c H locs (cells + 10) (slots + 60) Q (F0 m 3095 ls [])) {H : Heap} {locs : List Loc} {ls : Array Slot} (hw : cl_H dd b M s H locs) (hl : lv_has ls 9 (lb_l scr b i)) : W p l e room_1 s m args below meth c H locs cells slots Q (F0 m 859 ls []) := by
  have V0 := V
  obtain ⟨C, hN, hd, hX, hsb, hbs⟩ := V
  have hx := C.1
  have hb := C.2.1
  have hlt := C.2.2.2.2.2.2.2.2.2.2
  have s5 := cl_s00 hd
  have s6 := cl_s237 hd
  obtain ⟨o, w, M2, e1, e2, e3, e4, e5, e6⟩ := lh_ok (cs := lc_stateOf) (by decide) (an_stateOf R0 (xs (i + 1)))
  have e3 : f_X6_stateOf (lh_M o) 237 (xs (i + 1)) = some (w, M2) := e3
  refine lv_aload_n hx hb dL_law_859 rfl (lv_at hl 2 rfl) ?_
  refine lb_arg V0 hw (lv_at hl 1 rfl) (lv_at hl 0 rfl) (j := 1) dL_law_860 dL_law_861 dL_law_863 dL_law_864 dL_law_865 rfl (by omega) hL ?_
  refine lv_aload_n hx hb dL_law_866 rfl (lv_at hl 4 rfl) ?_
  refine lh_call C hN hw (h_stateOf hlt hd e1 e2) lo_223 sw_L_stateOf in_L cw_L_stateOf ⟨by decide +kernel, by decide +kernel, by decide +kernel⟩ (n := 3) rfl hl.1 (As := [.ref b, .int (xs (i + 1)), .ref (b + 247)]) rfl ⟨⟨Nat.le_of_ble_eq_true rfl, Nat.le_of_ble_eq_true rfl⟩, Nat.le_of_ble_eq_true rfl, by show cells + 1 ≤ 601024; omega, by show slots + 6 * 1 ≤ 7293034; omega⟩ dL_law_867 (fun H locs hw => ?_)
  refine lv_istore (lv' := (5, .int (lh_r lc_stateOf o)) :: lb_l scr b i) hx hb dL_law_870 hl (by decide) rfl (fun ls hl => ?_)
  refine lv_aload_n hx hb dL_law_872 rfl (lv_at hl 4 rfl) ?_
  refine lb_arg V0 hw (lv_at hl 2 rfl) (lv_at hl 1 rfl) (j := 1) dL_law_873 dL_law_874 dL_law_876 dL_law_877 dL_law_878 rfl (by omega) hL ?_
  refine cr_Vi C hw (c_X6_stateOf hlt s6 e3) cy_X6_stateOf vy_X6_stateOf lo_225 (cl_lt s6 (by decide)) (cl_e6 s6) rfl rfl (As := [.int (xs (i + 1))]) rfl hl.1 rfl ⟨⟨Nat.le_of_ble_eq_true rfl, Nat.le_of_ble_eq_true rfl⟩, Nat.le_of_ble_eq_true rfl, by show cells + 1 ≤ 601024; omega, by show slots + 6 * 1 ≤ 7293034; omega⟩ dL_law_879 (fun H locs hw => ?_)
  refine lv_istore (lv' := (6, .int w) :: (5, .int (lh_r lc_stateOf o)) :: lb_l scr b i) hx hb dL_law_882 hl (by decide) rfl (fun ls hl => ?_)
  refine lv_aload_n hx hb dL_law_884 rfl (lv_at hl 5 rfl) ?_
  refine cr_Vi C hw (c_X6_thrown hlt s6 (show f_X6_thrown M2 237 = some (M2 237 4) from rfl)) cy_X6_thrown vy_X6_thrown lo_180 (cl_lt s6 (by decide)) (cl_e6 s6) rfl rfl (As := []) rfl hl.1 rfl ⟨⟨Nat.le_of_ble_eq_true rfl, Nat.le_of_ble_eq_true rfl⟩, Nat.le_of_ble_eq_true rfl, by show cells + 1 ≤ 601024; omega, by show slots + 6 * 1 ≤ 7293034; omega⟩ dL_law_885 (fun H locs hw => ?_)
  refine lv_iload hx hb dL_law_888 (lv_at hl 1 rfl) ?_
  refine lv_icmp_eq (tgt := 895) hx hb dL_law_890 (by decide) (fun c1 => ?_) (fun c1 => absurd e4 c1)
  refine lv_iload hx hb dL_law_895 (lv_at hl 1 rfl) ?_
  have fin : W p l e room_1 s m args below meth c H locs (cells + 1) (slots + 6 * 1) Q (F0 m 912 ls []) := by
    refine lv_goto (tgt := 3095) hx hb dL_law_912 (by decide) ?_
    refine W.widen (k := cells + 10) (n := slots + 60) (by omega) (by omega) ?_
    exact back M2 H locs ls (cx_R_le e5 (by omega)) hw (lv_sub hl [2, 3, 4, 5, 6] rfl)
  refine lv_if_ne (tgt := 912) hx hb dL_law_897 (by decide) (fun c2 => fin) (fun c2 => ?_)
  refine lv_aload_n hx hb dL_law_900 rfl (lv_at hl 6 rfl) ?_
  refine lv_iconst (v := 0) hx hb dL_law_901 (by decide) ?_
  refine cr_lald C hw hd rfl dL_law_902 ?_
  refine lv_iload hx hb dL_law_903 (lv_at hl 0 rfl) ?_
  refine lv_i2l (v := w.toInt64) hx hb dL_law_905 rfl ?_
  refine W.lcmp hx hb dL_law_906 ?_
  exact lv_if_eq (tgt := 912) hx hb dL_law_907 (by decide) (fun _ => fin) (fun c3 => absurd (lf_lcmp (by rw [e6 c2])) c3)
set_option maxHeartbeats 4000000 in
set_option maxRecDepth 100000 in
theorem lb_21 {p : Program} {l : Launch} {e : Env} {s : State} {m : MethodId} {args : Array Value} {below : List Frame} {meth : Method} {c : Code} {cells slots : Nat} {Q : State → Prop} {dd : cl_D} {b scr L : Nat} {xs : Nat → Int32} (V : lb_C p l s m args meth c dd b scr L xs) {B i : Nat} {M : cl_M} (hi : i + 6 ≤ L) (hL : L ≤ 3072) (R0 : cx_R B M) (hB : B + 8200 < 2 ^ 30) (hcs : cells + 10 ≤ 601024 ∧ slots + 60 ≤ 7293034) (back : ∀ (M : cl_M) (H : Heap) (locs : List Loc) (ls : Array Slot), cx_R (B + 8200) M → cl_H dd b M s H locs → lv_has ls 9 (lb_l scr b i) → W p l e room_1 s m args below meth c H locs (cells + 10) (slots + 60) Q (F0 m 3095 ls [])) {H : Heap} {locs : List Loc} {ls : Array Slot} (hw : cl_H dd b M s H locs) (hl : lv_has ls 9 (lb_l scr b i)) : W p l e room_1 s m args below meth c H locs cells slots Q (F0 m 915 ls []) := by
  have V0 := V
  obtain ⟨C, hN, hd, hX, hsb, hbs⟩ := V
  have hx := C.1
  have hb := C.2.1
  have hlt := C.2.2.2.2.2.2.2.2.2.2
  have s5 := cl_s00 hd
  have s6 := cl_s237 hd
  obtain ⟨o, w, M2, e1, e2, e3, e4, e5, e6⟩ := lh_ok (cs := lc_widthOf) (by decide) (an_widthOf R0 (xs (i + 1)))
  have e3 : f_X6_widthOf (lh_M o) 237 (xs (i + 1)) = some (w, M2) := e3
  refine lv_aload_n hx hb dL_law_915 rfl (lv_at hl 2 rfl) ?_
  refine lb_arg V0 hw (lv_at hl 1 rfl) (lv_at hl 0 rfl) (j := 1) dL_law_916 dL_law_917 dL_law_919 dL_law_920 dL_law_921 rfl (by omega) hL ?_
  refine lv_aload_n hx hb dL_law_922 rfl (lv_at hl 4 rfl) ?_
  refine lh_call C hN hw (h_widthOf hlt hd e1 e2) lo_226 sw_L_widthOf in_L cw_L_widthOf ⟨by decide +kernel, by decide +kernel, by decide +kernel⟩ (n := 3) rfl hl.1 (As := [.ref b, .int (xs (i + 1)), .ref (b + 247)]) rfl ⟨⟨Nat.le_of_ble_eq_true rfl, Nat.le_of_ble_eq_true rfl⟩, Nat.le_of_ble_eq_true rfl, by show cells + 1 ≤ 601024; omega, by show slots + 6 * 1 ≤ 7293034; omega⟩ dL_law_923 (fun H locs hw => ?_)
  refine lv_istore (lv' := (5, .int (lh_r lc_widthOf o)) :: lb_l scr b i) hx hb dL_law_926 hl (by decide) rfl (fun ls hl => ?_)
  refine lv_aload_n hx hb dL_law_928 rfl (lv_at hl 4 rfl) ?_
  refine lb_arg V0 hw (lv_at hl 2 rfl) (lv_at hl 1 rfl) (j := 1) dL_law_929 dL_law_930 dL_law_932 dL_law_933 dL_law_934 rfl (by omega) hL ?_
  refine cr_Vi C hw (c_X6_widthOf hlt s6 e3) cy_X6_widthOf vy_X6_widthOf lo_228 (cl_lt s6 (by decide)) (cl_e6 s6) rfl rfl (As := [.int (xs (i + 1))]) rfl hl.1 rfl ⟨⟨Nat.le_of_ble_eq_true rfl, Nat.le_of_ble_eq_true rfl⟩, Nat.le_of_ble_eq_true rfl, by show cells + 1 ≤ 601024; omega, by show slots + 6 * 1 ≤ 7293034; omega⟩ dL_law_935 (fun H locs hw => ?_)
  refine lv_istore (lv' := (6, .int w) :: (5, .int (lh_r lc_widthOf o)) :: lb_l scr b i) hx hb dL_law_938 hl (by decide) rfl (fun ls hl => ?_)
  refine lv_aload_n hx hb dL_law_940 rfl (lv_at hl 5 rfl) ?_
  refine cr_Vi C hw (c_X6_thrown hlt s6 (show f_X6_thrown M2 237 = some (M2 237 4) from rfl)) cy_X6_thrown vy_X6_thrown lo_180 (cl_lt s6 (by decide)) (cl_e6 s6) rfl rfl (As := []) rfl hl.1 rfl ⟨⟨Nat.le_of_ble_eq_true rfl, Nat.le_of_ble_eq_true rfl⟩, Nat.le_of_ble_eq_true rfl, by show cells + 1 ≤ 601024; omega, by show slots + 6 * 1 ≤ 7293034; omega⟩ dL_law_941 (fun H locs hw => ?_)
  refine lv_iload hx hb dL_law_944 (lv_at hl 1 rfl) ?_
  refine lv_icmp_eq (tgt := 951) hx hb dL_law_946 (by decide) (fun c1 => ?_) (fun c1 => absurd e4 c1)
  refine lv_iload hx hb dL_law_951 (lv_at hl 1 rfl) ?_
  have fin : W p l e room_1 s m args below meth c H locs (cells + 1) (slots + 6 * 1) Q (F0 m 968 ls []) := by
    refine lv_goto (tgt := 3095) hx hb dL_law_968 (by decide) ?_
    refine W.widen (k := cells + 10) (n := slots + 60) (by omega) (by omega) ?_
    exact back M2 H locs ls (cx_R_le e5 (by omega)) hw (lv_sub hl [2, 3, 4, 5, 6] rfl)
  refine lv_if_ne (tgt := 968) hx hb dL_law_953 (by decide) (fun c2 => fin) (fun c2 => ?_)
  refine lv_aload_n hx hb dL_law_956 rfl (lv_at hl 6 rfl) ?_
  refine lv_iconst (v := 0) hx hb dL_law_957 (by decide) ?_
  refine cr_lald C hw hd rfl dL_law_958 ?_
  refine lv_iload hx hb dL_law_959 (lv_at hl 0 rfl) ?_
  refine lv_i2l (v := w.toInt64) hx hb dL_law_961 rfl ?_
  refine W.lcmp hx hb dL_law_962 ?_
  exact lv_if_eq (tgt := 968) hx hb dL_law_963 (by decide) (fun _ => fin) (fun c3 => absurd (lf_lcmp (by rw [e6 c2])) c3)
set_option maxHeartbeats 4000000 in
set_option maxRecDepth 100000 in
theorem lb_22 {p : Program} {l : Launch} {e : Env} {s : State} {m : MethodId} {args : Array Value} {below : List Frame} {meth : Method} {c : Code} {cells slots : Nat} {Q : State → Prop} {dd : cl_D} {b scr L : Nat} {xs : Nat → Int32} (V : lb_C p l s m args meth c dd b scr L xs) {B i : Nat} {M : cl_M} (hi : i + 6 ≤ L) (hL : L ≤ 3072) (R0 : cx_R B M) (hB : B + 8200 < 2 ^ 30) (hcs : cells + 10 ≤ 601024 ∧ slots + 60 ≤ 7293034) (back : ∀ (M : cl_M) (H : Heap) (locs : List Loc) (ls : Array Slot), cx_R (B + 8200) M → cl_H dd b M s H locs → lv_has ls 9 (lb_l scr b i) → W p l e room_1 s m args below meth c H locs (cells + 10) (slots + 60) Q (F0 m 3095 ls [])) {H : Heap} {locs : List Loc} {ls : Array Slot} (hw : cl_H dd b M s H locs) (hl : lv_has ls 9 (lb_l scr b i)) : W p l e room_1 s m args below meth c H locs cells slots Q (F0 m 971 ls []) := by
  have V0 := V
  obtain ⟨C, hN, hd, hX, hsb, hbs⟩ := V
  have hx := C.1
  have hb := C.2.1
  have hlt := C.2.2.2.2.2.2.2.2.2.2
  have s5 := cl_s00 hd
  have s6 := cl_s237 hd
  obtain ⟨o, w, M2, e1, e2, e3, e4, e5, e6⟩ := lh_ok (cs := lc_dryWeight) (by decide) (an_dryWeight R0 (xs (i + 1)))
  have e3 : f_X6_dryWeight (lh_M o) 237 (xs (i + 1)) = some (w, M2) := e3
  refine lv_aload_n hx hb dL_law_971 rfl (lv_at hl 2 rfl) ?_
  refine lb_arg V0 hw (lv_at hl 1 rfl) (lv_at hl 0 rfl) (j := 1) dL_law_972 dL_law_973 dL_law_975 dL_law_976 dL_law_977 rfl (by omega) hL ?_
  refine lv_aload_n hx hb dL_law_978 rfl (lv_at hl 4 rfl) ?_
  refine lh_call C hN hw (h_dryWeight hlt hd e1 e2) lo_229 sw_L_dryWeight in_L cw_L_dryWeight ⟨by decide +kernel, by decide +kernel, by decide +kernel⟩ (n := 3) rfl hl.1 (As := [.ref b, .int (xs (i + 1)), .ref (b + 247)]) rfl ⟨⟨Nat.le_of_ble_eq_true rfl, Nat.le_of_ble_eq_true rfl⟩, Nat.le_of_ble_eq_true rfl, by show cells + 1 ≤ 601024; omega, by show slots + 6 * 1 ≤ 7293034; omega⟩ dL_law_979 (fun H locs hw => ?_)
  refine lv_istore (lv' := (5, .int (lh_r lc_dryWeight o)) :: lb_l scr b i) hx hb dL_law_982 hl (by decide) rfl (fun ls hl => ?_)
  refine lv_aload_n hx hb dL_law_984 rfl (lv_at hl 4 rfl) ?_
  refine lb_arg V0 hw (lv_at hl 2 rfl) (lv_at hl 1 rfl) (j := 1) dL_law_985 dL_law_986 dL_law_988 dL_law_989 dL_law_990 rfl (by omega) hL ?_
  refine cr_Vi C hw (c_X6_dryWeight hlt s6 e3) cy_X6_dryWeight vy_X6_dryWeight lo_231 (cl_lt s6 (by decide)) (cl_e6 s6) rfl rfl (As := [.int (xs (i + 1))]) rfl hl.1 rfl ⟨⟨Nat.le_of_ble_eq_true rfl, Nat.le_of_ble_eq_true rfl⟩, Nat.le_of_ble_eq_true rfl, by show cells + 1 ≤ 601024; omega, by show slots + 6 * 1 ≤ 7293034; omega⟩ dL_law_991 (fun H locs hw => ?_)
  refine lv_istore (lv' := (6, .int w) :: (5, .int (lh_r lc_dryWeight o)) :: lb_l scr b i) hx hb dL_law_994 hl (by decide) rfl (fun ls hl => ?_)
  refine lv_aload_n hx hb dL_law_996 rfl (lv_at hl 5 rfl) ?_
  refine cr_Vi C hw (c_X6_thrown hlt s6 (show f_X6_thrown M2 237 = some (M2 237 4) from rfl)) cy_X6_thrown vy_X6_thrown lo_180 (cl_lt s6 (by decide)) (cl_e6 s6) rfl rfl (As := []) rfl hl.1 rfl ⟨⟨Nat.le_of_ble_eq_true rfl, Nat.le_of_ble_eq_true rfl⟩, Nat.le_of_ble_eq_true rfl, by show cells + 1 ≤ 601024; omega, by show slots + 6 * 1 ≤ 7293034; omega⟩ dL_law_997 (fun H locs hw => ?_)
  refine lv_iload hx hb dL_law_1000 (lv_at hl 1 rfl) ?_
  refine lv_icmp_eq (tgt := 1007) hx hb dL_law_1002 (by decide) (fun c1 => ?_) (fun c1 => absurd e4 c1)
  refine lv_iload hx hb dL_law_1007 (lv_at hl 1 rfl) ?_
  have fin : W p l e room_1 s m args below meth c H locs (cells + 1) (slots + 6 * 1) Q (F0 m 1024 ls []) := by
    refine lv_goto (tgt := 3095) hx hb dL_law_1024 (by decide) ?_
    refine W.widen (k := cells + 10) (n := slots + 60) (by omega) (by omega) ?_
    exact back M2 H locs ls (cx_R_le e5 (by omega)) hw (lv_sub hl [2, 3, 4, 5, 6] rfl)
  refine lv_if_ne (tgt := 1024) hx hb dL_law_1009 (by decide) (fun c2 => fin) (fun c2 => ?_)
  refine lv_aload_n hx hb dL_law_1012 rfl (lv_at hl 6 rfl) ?_
  refine lv_iconst (v := 0) hx hb dL_law_1013 (by decide) ?_
  refine cr_lald C hw hd rfl dL_law_1014 ?_
  refine lv_iload hx hb dL_law_1015 (lv_at hl 0 rfl) ?_
  refine lv_i2l (v := w.toInt64) hx hb dL_law_1017 rfl ?_
  refine W.lcmp hx hb dL_law_1018 ?_
  exact lv_if_eq (tgt := 1024) hx hb dL_law_1019 (by decide) (fun _ => fin) (fun c3 => absurd (lf_lcmp (by rw [e6 c2])) c3)
set_option maxHeartbeats 4000000 in
set_option maxRecDepth 100000 in
theorem lb_23 {p : Program} {l : Launch} {e : Env} {s : State} {m : MethodId} {args : Array Value} {below : List Frame} {meth : Method} {c : Code} {cells slots : Nat} {Q : State → Prop} {dd : cl_D} {b scr L : Nat} {xs : Nat → Int32} (V : lb_C p l s m args meth c dd b scr L xs) {B i : Nat} {M : cl_M} (hi : i + 6 ≤ L) (hL : L ≤ 3072) (R0 : cx_R B M) (hB : B + 8200 < 2 ^ 30) (hcs : cells + 10 ≤ 601024 ∧ slots + 60 ≤ 7293034) (back : ∀ (M : cl_M) (H : Heap) (locs : List Loc) (ls : Array Slot), cx_R (B + 8200) M → cl_H dd b M s H locs → lv_has ls 9 (lb_l scr b i) → W p l e room_1 s m args below meth c H locs (cells + 10) (slots + 60) Q (F0 m 3095 ls [])) {H : Heap} {locs : List Loc} {ls : Array Slot} (hw : cl_H dd b M s H locs) (hl : lv_has ls 9 (lb_l scr b i)) : W p l e room_1 s m args below meth c H locs cells slots Q (F0 m 1027 ls []) := by
  have V0 := V
  obtain ⟨C, hN, hd, hX, hsb, hbs⟩ := V
  have hx := C.1
  have hb := C.2.1
  have hlt := C.2.2.2.2.2.2.2.2.2.2
  have s5 := cl_s00 hd
  have s6 := cl_s237 hd
  obtain ⟨o, w, M2, e1, e2, e3, e4, e5, e6⟩ := lh_ok (cs := lc_capacityOf) (by decide) (an_capacityOf R0 (xs (i + 1)))
  have e3 : f_X6_capacityOf (lh_M o) 237 (xs (i + 1)) = some (w, M2) := e3
  refine lv_aload_n hx hb dL_law_1027 rfl (lv_at hl 2 rfl) ?_
  refine lb_arg V0 hw (lv_at hl 1 rfl) (lv_at hl 0 rfl) (j := 1) dL_law_1028 dL_law_1029 dL_law_1031 dL_law_1032 dL_law_1033 rfl (by omega) hL ?_
  refine lv_aload_n hx hb dL_law_1034 rfl (lv_at hl 4 rfl) ?_
  refine lh_call C hN hw (h_capacityOf hlt hd e1 e2) lo_232 sw_L_capacityOf in_L cw_L_capacityOf ⟨by decide +kernel, by decide +kernel, by decide +kernel⟩ (n := 3) rfl hl.1 (As := [.ref b, .int (xs (i + 1)), .ref (b + 247)]) rfl ⟨⟨Nat.le_of_ble_eq_true rfl, Nat.le_of_ble_eq_true rfl⟩, Nat.le_of_ble_eq_true rfl, by show cells + 1 ≤ 601024; omega, by show slots + 6 * 1 ≤ 7293034; omega⟩ dL_law_1035 (fun H locs hw => ?_)
  refine lv_istore (lv' := (5, .int (lh_r lc_capacityOf o)) :: lb_l scr b i) hx hb dL_law_1038 hl (by decide) rfl (fun ls hl => ?_)
  refine lv_aload_n hx hb dL_law_1040 rfl (lv_at hl 4 rfl) ?_
  refine lb_arg V0 hw (lv_at hl 2 rfl) (lv_at hl 1 rfl) (j := 1) dL_law_1041 dL_law_1042 dL_law_1044 dL_law_1045 dL_law_1046 rfl (by omega) hL ?_
  refine cr_Vi C hw (c_X6_capacityOf hlt s6 e3) cy_X6_capacityOf vy_X6_capacityOf lo_234 (cl_lt s6 (by decide)) (cl_e6 s6) rfl rfl (As := [.int (xs (i + 1))]) rfl hl.1 rfl ⟨⟨Nat.le_of_ble_eq_true rfl, Nat.le_of_ble_eq_true rfl⟩, Nat.le_of_ble_eq_true rfl, by show cells + 1 ≤ 601024; omega, by show slots + 6 * 1 ≤ 7293034; omega⟩ dL_law_1047 (fun H locs hw => ?_)
  refine lv_istore (lv' := (6, .int w) :: (5, .int (lh_r lc_capacityOf o)) :: lb_l scr b i) hx hb dL_law_1050 hl (by decide) rfl (fun ls hl => ?_)
  refine lv_aload_n hx hb dL_law_1052 rfl (lv_at hl 5 rfl) ?_
  refine cr_Vi C hw (c_X6_thrown hlt s6 (show f_X6_thrown M2 237 = some (M2 237 4) from rfl)) cy_X6_thrown vy_X6_thrown lo_180 (cl_lt s6 (by decide)) (cl_e6 s6) rfl rfl (As := []) rfl hl.1 rfl ⟨⟨Nat.le_of_ble_eq_true rfl, Nat.le_of_ble_eq_true rfl⟩, Nat.le_of_ble_eq_true rfl, by show cells + 1 ≤ 601024; omega, by show slots + 6 * 1 ≤ 7293034; omega⟩ dL_law_1053 (fun H locs hw => ?_)
  refine lv_iload hx hb dL_law_1056 (lv_at hl 1 rfl) ?_
  refine lv_icmp_eq (tgt := 1063) hx hb dL_law_1058 (by decide) (fun c1 => ?_) (fun c1 => absurd e4 c1)
  refine lv_iload hx hb dL_law_1063 (lv_at hl 1 rfl) ?_
  have fin : W p l e room_1 s m args below meth c H locs (cells + 1) (slots + 6 * 1) Q (F0 m 1080 ls []) := by
    refine lv_goto (tgt := 3095) hx hb dL_law_1080 (by decide) ?_
    refine W.widen (k := cells + 10) (n := slots + 60) (by omega) (by omega) ?_
    exact back M2 H locs ls (cx_R_le e5 (by omega)) hw (lv_sub hl [2, 3, 4, 5, 6] rfl)
  refine lv_if_ne (tgt := 1080) hx hb dL_law_1065 (by decide) (fun c2 => fin) (fun c2 => ?_)
  refine lv_aload_n hx hb dL_law_1068 rfl (lv_at hl 6 rfl) ?_
  refine lv_iconst (v := 0) hx hb dL_law_1069 (by decide) ?_
  refine cr_lald C hw hd rfl dL_law_1070 ?_
  refine lv_iload hx hb dL_law_1071 (lv_at hl 0 rfl) ?_
  refine lv_i2l (v := w.toInt64) hx hb dL_law_1073 rfl ?_
  refine W.lcmp hx hb dL_law_1074 ?_
  exact lv_if_eq (tgt := 1080) hx hb dL_law_1075 (by decide) (fun _ => fin) (fun c3 => absurd (lf_lcmp (by rw [e6 c2])) c3)
set_option maxHeartbeats 4000000 in
set_option maxRecDepth 100000 in
theorem lb_24 {p : Program} {l : Launch} {e : Env} {s : State} {m : MethodId} {args : Array Value} {below : List Frame} {meth : Method} {c : Code} {cells slots : Nat} {Q : State → Prop} {dd : cl_D} {b scr L : Nat} {xs : Nat → Int32} (V : lb_C p l s m args meth c dd b scr L xs) {B i : Nat} {M : cl_M} (hi : i + 6 ≤ L) (hL : L ≤ 3072) (R0 : cx_R B M) (hB : B + 8200 < 2 ^ 30) (hcs : cells + 10 ≤ 601024 ∧ slots + 60 ≤ 7293034) (back : ∀ (M : cl_M) (H : Heap) (locs : List Loc) (ls : Array Slot), cx_R (B + 8200) M → cl_H dd b M s H locs → lv_has ls 9 (lb_l scr b i) → W p l e room_1 s m args below meth c H locs (cells + 10) (slots + 60) Q (F0 m 3095 ls [])) {H : Heap} {locs : List Loc} {ls : Array Slot} (hw : cl_H dd b M s H locs) (hl : lv_has ls 9 (lb_l scr b i)) : W p l e room_1 s m args below meth c H locs cells slots Q (F0 m 1083 ls []) := by
  have V0 := V
  obtain ⟨C, hN, hd, hX, hsb, hbs⟩ := V
  have hx := C.1
  have hb := C.2.1
  have hlt := C.2.2.2.2.2.2.2.2.2.2
  have s5 := cl_s00 hd
  have s6 := cl_s237 hd
  obtain ⟨o, w, M2, e1, e2, e3, e4, e5, e6⟩ := lh_ok (cs := lc_waterOf) (by decide) (an_waterOf R0 (xs (i + 1)))
  have e3 : f_X6_waterOf (lh_M o) 237 (xs (i + 1)) = some (w, M2) := e3
  refine lv_aload_n hx hb dL_law_1083 rfl (lv_at hl 2 rfl) ?_
  refine lb_arg V0 hw (lv_at hl 1 rfl) (lv_at hl 0 rfl) (j := 1) dL_law_1084 dL_law_1085 dL_law_1087 dL_law_1088 dL_law_1089 rfl (by omega) hL ?_
  refine lv_aload_n hx hb dL_law_1090 rfl (lv_at hl 4 rfl) ?_
  refine lh_call C hN hw (h_waterOf hlt hd e1 e2) lo_235 sw_L_waterOf in_L cw_L_waterOf ⟨by decide +kernel, by decide +kernel, by decide +kernel⟩ (n := 3) rfl hl.1 (As := [.ref b, .int (xs (i + 1)), .ref (b + 247)]) rfl ⟨⟨Nat.le_of_ble_eq_true rfl, Nat.le_of_ble_eq_true rfl⟩, Nat.le_of_ble_eq_true rfl, by show cells + 1 ≤ 601024; omega, by show slots + 6 * 1 ≤ 7293034; omega⟩ dL_law_1091 (fun H locs hw => ?_)
  refine lv_istore (lv' := (5, .int (lh_r lc_waterOf o)) :: lb_l scr b i) hx hb dL_law_1094 hl (by decide) rfl (fun ls hl => ?_)
  refine lv_aload_n hx hb dL_law_1096 rfl (lv_at hl 4 rfl) ?_
  refine lb_arg V0 hw (lv_at hl 2 rfl) (lv_at hl 1 rfl) (j := 1) dL_law_1097 dL_law_1098 dL_law_1100 dL_law_1101 dL_law_1102 rfl (by omega) hL ?_
  refine cr_Vi C hw (c_X6_waterOf hlt s6 e3) cy_X6_waterOf vy_X6_waterOf lo_237 (cl_lt s6 (by decide)) (cl_e6 s6) rfl rfl (As := [.int (xs (i + 1))]) rfl hl.1 rfl ⟨⟨Nat.le_of_ble_eq_true rfl, Nat.le_of_ble_eq_true rfl⟩, Nat.le_of_ble_eq_true rfl, by show cells + 1 ≤ 601024; omega, by show slots + 6 * 1 ≤ 7293034; omega⟩ dL_law_1103 (fun H locs hw => ?_)
  refine lv_istore (lv' := (6, .int w) :: (5, .int (lh_r lc_waterOf o)) :: lb_l scr b i) hx hb dL_law_1106 hl (by decide) rfl (fun ls hl => ?_)
  refine lv_aload_n hx hb dL_law_1108 rfl (lv_at hl 5 rfl) ?_
  refine cr_Vi C hw (c_X6_thrown hlt s6 (show f_X6_thrown M2 237 = some (M2 237 4) from rfl)) cy_X6_thrown vy_X6_thrown lo_180 (cl_lt s6 (by decide)) (cl_e6 s6) rfl rfl (As := []) rfl hl.1 rfl ⟨⟨Nat.le_of_ble_eq_true rfl, Nat.le_of_ble_eq_true rfl⟩, Nat.le_of_ble_eq_true rfl, by show cells + 1 ≤ 601024; omega, by show slots + 6 * 1 ≤ 7293034; omega⟩ dL_law_1109 (fun H locs hw => ?_)
  refine lv_iload hx hb dL_law_1112 (lv_at hl 1 rfl) ?_
  refine lv_icmp_eq (tgt := 1119) hx hb dL_law_1114 (by decide) (fun c1 => ?_) (fun c1 => absurd e4 c1)
  refine lv_iload hx hb dL_law_1119 (lv_at hl 1 rfl) ?_
  have fin : W p l e room_1 s m args below meth c H locs (cells + 1) (slots + 6 * 1) Q (F0 m 1136 ls []) := by
    refine lv_goto (tgt := 3095) hx hb dL_law_1136 (by decide) ?_
    refine W.widen (k := cells + 10) (n := slots + 60) (by omega) (by omega) ?_
    exact back M2 H locs ls (cx_R_le e5 (by omega)) hw (lv_sub hl [2, 3, 4, 5, 6] rfl)
  refine lv_if_ne (tgt := 1136) hx hb dL_law_1121 (by decide) (fun c2 => fin) (fun c2 => ?_)
  refine lv_aload_n hx hb dL_law_1124 rfl (lv_at hl 6 rfl) ?_
  refine lv_iconst (v := 0) hx hb dL_law_1125 (by decide) ?_
  refine cr_lald C hw hd rfl dL_law_1126 ?_
  refine lv_iload hx hb dL_law_1127 (lv_at hl 0 rfl) ?_
  refine lv_i2l (v := w.toInt64) hx hb dL_law_1129 rfl ?_
  refine W.lcmp hx hb dL_law_1130 ?_
  exact lv_if_eq (tgt := 1136) hx hb dL_law_1131 (by decide) (fun _ => fin) (fun c3 => absurd (lf_lcmp (by rw [e6 c2])) c3)
set_option maxHeartbeats 4000000 in
set_option maxRecDepth 100000 in
theorem lb_25 {p : Program} {l : Launch} {e : Env} {s : State} {m : MethodId} {args : Array Value} {below : List Frame} {meth : Method} {c : Code} {cells slots : Nat} {Q : State → Prop} {dd : cl_D} {b scr L : Nat} {xs : Nat → Int32} (V : lb_C p l s m args meth c dd b scr L xs) {B i : Nat} {M : cl_M} (hi : i + 6 ≤ L) (hL : L ≤ 3072) (R0 : cx_R B M) (hB : B + 8200 < 2 ^ 30) (hcs : cells + 10 ≤ 601024 ∧ slots + 60 ≤ 7293034) (back : ∀ (M : cl_M) (H : Heap) (locs : List Loc) (ls : Array Slot), cx_R (B + 8200) M → cl_H dd b M s H locs → lv_has ls 9 (lb_l scr b i) → W p l e room_1 s m args below meth c H locs (cells + 10) (slots + 60) Q (F0 m 3095 ls [])) {H : Heap} {locs : List Loc} {ls : Array Slot} (hw : cl_H dd b M s H locs) (hl : lv_has ls 9 (lb_l scr b i)) : W p l e room_1 s m args below meth c H locs cells slots Q (F0 m 1139 ls []) := by
  have V0 := V
  obtain ⟨C, hN, hd, hX, hsb, hbs⟩ := V
  have hx := C.1
  have hb := C.2.1
  have hlt := C.2.2.2.2.2.2.2.2.2.2
  have s5 := cl_s00 hd
  have s6 := cl_s237 hd
  obtain ⟨o, w, M2, e1, e2, e3, e4, e5, e6⟩ := lh_ok (cs := lc_weightOf) (by decide) (an_weightOf R0 (xs (i + 1)))
  have e3 : f_X6_weightOf (lh_M o) 237 (xs (i + 1)) = some (w, M2) := e3
  refine lv_aload_n hx hb dL_law_1139 rfl (lv_at hl 2 rfl) ?_
  refine lb_arg V0 hw (lv_at hl 1 rfl) (lv_at hl 0 rfl) (j := 1) dL_law_1140 dL_law_1141 dL_law_1143 dL_law_1144 dL_law_1145 rfl (by omega) hL ?_
  refine lv_aload_n hx hb dL_law_1146 rfl (lv_at hl 4 rfl) ?_
  refine lh_call C hN hw (h_weightOf hlt hd e1 e2) lo_238 sw_L_weightOf in_L cw_L_weightOf ⟨by decide +kernel, by decide +kernel, by decide +kernel⟩ (n := 3) rfl hl.1 (As := [.ref b, .int (xs (i + 1)), .ref (b + 247)]) rfl ⟨⟨Nat.le_of_ble_eq_true rfl, Nat.le_of_ble_eq_true rfl⟩, Nat.le_of_ble_eq_true rfl, by show cells + 1 ≤ 601024; omega, by show slots + 6 * 1 ≤ 7293034; omega⟩ dL_law_1147 (fun H locs hw => ?_)
  refine lv_istore (lv' := (5, .int (lh_r lc_weightOf o)) :: lb_l scr b i) hx hb dL_law_1150 hl (by decide) rfl (fun ls hl => ?_)
  refine lv_aload_n hx hb dL_law_1152 rfl (lv_at hl 4 rfl) ?_
  refine lb_arg V0 hw (lv_at hl 2 rfl) (lv_at hl 1 rfl) (j := 1) dL_law_1153 dL_law_1154 dL_law_1156 dL_law_1157 dL_law_1158 rfl (by omega) hL ?_
  refine cr_Vi C hw (c_X6_weightOf hlt s6 e3) cy_X6_weightOf vy_X6_weightOf lo_240 (cl_lt s6 (by decide)) (cl_e6 s6) rfl rfl (As := [.int (xs (i + 1))]) rfl hl.1 rfl ⟨⟨Nat.le_of_ble_eq_true rfl, Nat.le_of_ble_eq_true rfl⟩, Nat.le_of_ble_eq_true rfl, by show cells + 1 ≤ 601024; omega, by show slots + 6 * 1 ≤ 7293034; omega⟩ dL_law_1159 (fun H locs hw => ?_)
  refine lv_istore (lv' := (6, .int w) :: (5, .int (lh_r lc_weightOf o)) :: lb_l scr b i) hx hb dL_law_1162 hl (by decide) rfl (fun ls hl => ?_)
  refine lv_aload_n hx hb dL_law_1164 rfl (lv_at hl 5 rfl) ?_
  refine cr_Vi C hw (c_X6_thrown hlt s6 (show f_X6_thrown M2 237 = some (M2 237 4) from rfl)) cy_X6_thrown vy_X6_thrown lo_180 (cl_lt s6 (by decide)) (cl_e6 s6) rfl rfl (As := []) rfl hl.1 rfl ⟨⟨Nat.le_of_ble_eq_true rfl, Nat.le_of_ble_eq_true rfl⟩, Nat.le_of_ble_eq_true rfl, by show cells + 1 ≤ 601024; omega, by show slots + 6 * 1 ≤ 7293034; omega⟩ dL_law_1165 (fun H locs hw => ?_)
  refine lv_iload hx hb dL_law_1168 (lv_at hl 1 rfl) ?_
  refine lv_icmp_eq (tgt := 1175) hx hb dL_law_1170 (by decide) (fun c1 => ?_) (fun c1 => absurd e4 c1)
  refine lv_iload hx hb dL_law_1175 (lv_at hl 1 rfl) ?_
  have fin : W p l e room_1 s m args below meth c H locs (cells + 1) (slots + 6 * 1) Q (F0 m 1192 ls []) := by
    refine lv_goto (tgt := 3095) hx hb dL_law_1192 (by decide) ?_
    refine W.widen (k := cells + 10) (n := slots + 60) (by omega) (by omega) ?_
    exact back M2 H locs ls (cx_R_le e5 (by omega)) hw (lv_sub hl [2, 3, 4, 5, 6] rfl)
  refine lv_if_ne (tgt := 1192) hx hb dL_law_1177 (by decide) (fun c2 => fin) (fun c2 => ?_)
  refine lv_aload_n hx hb dL_law_1180 rfl (lv_at hl 6 rfl) ?_
  refine lv_iconst (v := 0) hx hb dL_law_1181 (by decide) ?_
  refine cr_lald C hw hd rfl dL_law_1182 ?_
  refine lv_iload hx hb dL_law_1183 (lv_at hl 0 rfl) ?_
  refine lv_i2l (v := w.toInt64) hx hb dL_law_1185 rfl ?_
  refine W.lcmp hx hb dL_law_1186 ?_
  exact lv_if_eq (tgt := 1192) hx hb dL_law_1187 (by decide) (fun _ => fin) (fun c3 => absurd (lf_lcmp (by rw [e6 c2])) c3)
set_option maxHeartbeats 4000000 in
set_option maxRecDepth 100000 in
theorem lb_26 {p : Program} {l : Launch} {e : Env} {s : State} {m : MethodId} {args : Array Value} {below : List Frame} {meth : Method} {c : Code} {cells slots : Nat} {Q : State → Prop} {dd : cl_D} {b scr L : Nat} {xs : Nat → Int32} (V : lb_C p l s m args meth c dd b scr L xs) {B i : Nat} {M : cl_M} (hi : i + 6 ≤ L) (hL : L ≤ 3072) (R0 : cx_R B M) (hB : B + 8200 < 2 ^ 30) (hcs : cells + 10 ≤ 601024 ∧ slots + 60 ≤ 7293034) (back : ∀ (M : cl_M) (H : Heap) (locs : List Loc) (ls : Array Slot), cx_R (B + 8200) M → cl_H dd b M s H locs → lv_has ls 9 (lb_l scr b i) → W p l e room_1 s m args below meth c H locs (cells + 10) (slots + 60) Q (F0 m 3095 ls [])) {H : Heap} {locs : List Loc} {ls : Array Slot} (hw : cl_H dd b M s H locs) (hl : lv_has ls 9 (lb_l scr b i)) : W p l e room_1 s m args below meth c H locs cells slots Q (F0 m 1195 ls []) := by
  have V0 := V
  obtain ⟨C, hN, hd, hX, hsb, hbs⟩ := V
  have hx := C.1
  have hb := C.2.1
  have hlt := C.2.2.2.2.2.2.2.2.2.2
  have s5 := cl_s00 hd
  have s6 := cl_s237 hd
  obtain ⟨o, w, M2, e1, e2, e3, e4, e5, e6⟩ := lh_ok (cs := lc_smellOf) (by decide) (an_smellOf R0 (xs (i + 1)))
  have e3 : f_X6_smellOf (lh_M o) 237 (xs (i + 1)) = some (w, M2) := e3
  refine lv_aload_n hx hb dL_law_1195 rfl (lv_at hl 2 rfl) ?_
  refine lb_arg V0 hw (lv_at hl 1 rfl) (lv_at hl 0 rfl) (j := 1) dL_law_1196 dL_law_1197 dL_law_1199 dL_law_1200 dL_law_1201 rfl (by omega) hL ?_
  refine lv_aload_n hx hb dL_law_1202 rfl (lv_at hl 4 rfl) ?_
  refine lh_call C hN hw (h_smellOf hlt hd e1 e2) lo_241 sw_L_smellOf in_L cw_L_smellOf ⟨by decide +kernel, by decide +kernel, by decide +kernel⟩ (n := 3) rfl hl.1 (As := [.ref b, .int (xs (i + 1)), .ref (b + 247)]) rfl ⟨⟨Nat.le_of_ble_eq_true rfl, Nat.le_of_ble_eq_true rfl⟩, Nat.le_of_ble_eq_true rfl, by show cells + 1 ≤ 601024; omega, by show slots + 6 * 1 ≤ 7293034; omega⟩ dL_law_1203 (fun H locs hw => ?_)
  refine lv_istore (lv' := (5, .int (lh_r lc_smellOf o)) :: lb_l scr b i) hx hb dL_law_1206 hl (by decide) rfl (fun ls hl => ?_)
  refine lv_aload_n hx hb dL_law_1208 rfl (lv_at hl 4 rfl) ?_
  refine lb_arg V0 hw (lv_at hl 2 rfl) (lv_at hl 1 rfl) (j := 1) dL_law_1209 dL_law_1210 dL_law_1212 dL_law_1213 dL_law_1214 rfl (by omega) hL ?_
  refine cr_Vi C hw (c_X6_smellOf hlt s6 e3) cy_X6_smellOf vy_X6_smellOf lo_243 (cl_lt s6 (by decide)) (cl_e6 s6) rfl rfl (As := [.int (xs (i + 1))]) rfl hl.1 rfl ⟨⟨Nat.le_of_ble_eq_true rfl, Nat.le_of_ble_eq_true rfl⟩, Nat.le_of_ble_eq_true rfl, by show cells + 1 ≤ 601024; omega, by show slots + 6 * 1 ≤ 7293034; omega⟩ dL_law_1215 (fun H locs hw => ?_)
  refine lv_istore (lv' := (6, .int w) :: (5, .int (lh_r lc_smellOf o)) :: lb_l scr b i) hx hb dL_law_1218 hl (by decide) rfl (fun ls hl => ?_)
  refine lv_aload_n hx hb dL_law_1220 rfl (lv_at hl 5 rfl) ?_
  refine cr_Vi C hw (c_X6_thrown hlt s6 (show f_X6_thrown M2 237 = some (M2 237 4) from rfl)) cy_X6_thrown vy_X6_thrown lo_180 (cl_lt s6 (by decide)) (cl_e6 s6) rfl rfl (As := []) rfl hl.1 rfl ⟨⟨Nat.le_of_ble_eq_true rfl, Nat.le_of_ble_eq_true rfl⟩, Nat.le_of_ble_eq_true rfl, by show cells + 1 ≤ 601024; omega, by show slots + 6 * 1 ≤ 7293034; omega⟩ dL_law_1221 (fun H locs hw => ?_)
  refine lv_iload hx hb dL_law_1224 (lv_at hl 1 rfl) ?_
  refine lv_icmp_eq (tgt := 1231) hx hb dL_law_1226 (by decide) (fun c1 => ?_) (fun c1 => absurd e4 c1)
  refine lv_iload hx hb dL_law_1231 (lv_at hl 1 rfl) ?_
  have fin : W p l e room_1 s m args below meth c H locs (cells + 1) (slots + 6 * 1) Q (F0 m 1248 ls []) := by
    refine lv_goto (tgt := 3095) hx hb dL_law_1248 (by decide) ?_
    refine W.widen (k := cells + 10) (n := slots + 60) (by omega) (by omega) ?_
    exact back M2 H locs ls (cx_R_le e5 (by omega)) hw (lv_sub hl [2, 3, 4, 5, 6] rfl)
  refine lv_if_ne (tgt := 1248) hx hb dL_law_1233 (by decide) (fun c2 => fin) (fun c2 => ?_)
  refine lv_aload_n hx hb dL_law_1236 rfl (lv_at hl 6 rfl) ?_
  refine lv_iconst (v := 0) hx hb dL_law_1237 (by decide) ?_
  refine cr_lald C hw hd rfl dL_law_1238 ?_
  refine lv_iload hx hb dL_law_1239 (lv_at hl 0 rfl) ?_
  refine lv_i2l (v := w.toInt64) hx hb dL_law_1241 rfl ?_
  refine W.lcmp hx hb dL_law_1242 ?_
  exact lv_if_eq (tgt := 1248) hx hb dL_law_1243 (by decide) (fun _ => fin) (fun c3 => absurd (lf_lcmp (by rw [e6 c2])) c3)
set_option maxHeartbeats 4000000 in
set_option maxRecDepth 100000 in
theorem lb_27 {p : Program} {l : Launch} {e : Env} {s : State} {m : MethodId} {args : Array Value} {below : List Frame} {meth : Method} {c : Code} {cells slots : Nat} {Q : State → Prop} {dd : cl_D} {b scr L : Nat} {xs : Nat → Int32} (V : lb_C p l s m args meth c dd b scr L xs) {B i : Nat} {M : cl_M} (hi : i + 6 ≤ L) (hL : L ≤ 3072) (R0 : cx_R B M) (hB : B + 8200 < 2 ^ 30) (hcs : cells + 10 ≤ 601024 ∧ slots + 60 ≤ 7293034) (back : ∀ (M : cl_M) (H : Heap) (locs : List Loc) (ls : Array Slot), cx_R (B + 8200) M → cl_H dd b M s H locs → lv_has ls 9 (lb_l scr b i) → W p l e room_1 s m args below meth c H locs (cells + 10) (slots + 60) Q (F0 m 3095 ls [])) {H : Heap} {locs : List Loc} {ls : Array Slot} (hw : cl_H dd b M s H locs) (hl : lv_has ls 9 (lb_l scr b i)) : W p l e room_1 s m args below meth c H locs cells slots Q (F0 m 1251 ls []) := by
  have V0 := V
  obtain ⟨C, hN, hd, hX, hsb, hbs⟩ := V
  have hx := C.1
  have hb := C.2.1
  have hlt := C.2.2.2.2.2.2.2.2.2.2
  have s5 := cl_s00 hd
  have s6 := cl_s237 hd
  obtain ⟨o, w, M2, e1, e2, e3, e4, e5, e6⟩ := lh_ok (cs := lc_spotOf) (by decide) (an_spotOf R0 (xs (i + 1)))
  have e3 : f_X6_spotOf (lh_M o) 237 (xs (i + 1)) = some (w, M2) := e3
  refine lv_aload_n hx hb dL_law_1251 rfl (lv_at hl 2 rfl) ?_
  refine lb_arg V0 hw (lv_at hl 1 rfl) (lv_at hl 0 rfl) (j := 1) dL_law_1252 dL_law_1253 dL_law_1255 dL_law_1256 dL_law_1257 rfl (by omega) hL ?_
  refine lv_aload_n hx hb dL_law_1258 rfl (lv_at hl 4 rfl) ?_
  refine lh_call C hN hw (h_spotOf hlt hd e1 e2) lo_244 sw_L_spotOf in_L cw_L_spotOf ⟨by decide +kernel, by decide +kernel, by decide +kernel⟩ (n := 3) rfl hl.1 (As := [.ref b, .int (xs (i + 1)), .ref (b + 247)]) rfl ⟨⟨Nat.le_of_ble_eq_true rfl, Nat.le_of_ble_eq_true rfl⟩, Nat.le_of_ble_eq_true rfl, by show cells + 1 ≤ 601024; omega, by show slots + 6 * 1 ≤ 7293034; omega⟩ dL_law_1259 (fun H locs hw => ?_)
  refine lv_istore (lv' := (5, .int (lh_r lc_spotOf o)) :: lb_l scr b i) hx hb dL_law_1262 hl (by decide) rfl (fun ls hl => ?_)
  refine lv_aload_n hx hb dL_law_1264 rfl (lv_at hl 4 rfl) ?_
  refine lb_arg V0 hw (lv_at hl 2 rfl) (lv_at hl 1 rfl) (j := 1) dL_law_1265 dL_law_1266 dL_law_1268 dL_law_1269 dL_law_1270 rfl (by omega) hL ?_
  refine cr_Vi C hw (c_X6_spotOf hlt s6 e3) cy_X6_spotOf vy_X6_spotOf lo_246 (cl_lt s6 (by decide)) (cl_e6 s6) rfl rfl (As := [.int (xs (i + 1))]) rfl hl.1 rfl ⟨⟨Nat.le_of_ble_eq_true rfl, Nat.le_of_ble_eq_true rfl⟩, Nat.le_of_ble_eq_true rfl, by show cells + 1 ≤ 601024; omega, by show slots + 6 * 1 ≤ 7293034; omega⟩ dL_law_1271 (fun H locs hw => ?_)
  refine lv_istore (lv' := (6, .int w) :: (5, .int (lh_r lc_spotOf o)) :: lb_l scr b i) hx hb dL_law_1274 hl (by decide) rfl (fun ls hl => ?_)
  refine lv_aload_n hx hb dL_law_1276 rfl (lv_at hl 5 rfl) ?_
  refine cr_Vi C hw (c_X6_thrown hlt s6 (show f_X6_thrown M2 237 = some (M2 237 4) from rfl)) cy_X6_thrown vy_X6_thrown lo_180 (cl_lt s6 (by decide)) (cl_e6 s6) rfl rfl (As := []) rfl hl.1 rfl ⟨⟨Nat.le_of_ble_eq_true rfl, Nat.le_of_ble_eq_true rfl⟩, Nat.le_of_ble_eq_true rfl, by show cells + 1 ≤ 601024; omega, by show slots + 6 * 1 ≤ 7293034; omega⟩ dL_law_1277 (fun H locs hw => ?_)
  refine lv_iload hx hb dL_law_1280 (lv_at hl 1 rfl) ?_
  refine lv_icmp_eq (tgt := 1287) hx hb dL_law_1282 (by decide) (fun c1 => ?_) (fun c1 => absurd e4 c1)
  refine lv_iload hx hb dL_law_1287 (lv_at hl 1 rfl) ?_
  have fin : W p l e room_1 s m args below meth c H locs (cells + 1) (slots + 6 * 1) Q (F0 m 1304 ls []) := by
    refine lv_goto (tgt := 3095) hx hb dL_law_1304 (by decide) ?_
    refine W.widen (k := cells + 10) (n := slots + 60) (by omega) (by omega) ?_
    exact back M2 H locs ls (cx_R_le e5 (by omega)) hw (lv_sub hl [2, 3, 4, 5, 6] rfl)
  refine lv_if_ne (tgt := 1304) hx hb dL_law_1289 (by decide) (fun c2 => fin) (fun c2 => ?_)
  refine lv_aload_n hx hb dL_law_1292 rfl (lv_at hl 6 rfl) ?_
  refine lv_iconst (v := 0) hx hb dL_law_1293 (by decide) ?_
  refine cr_lald C hw hd rfl dL_law_1294 ?_
  refine lv_iload hx hb dL_law_1295 (lv_at hl 0 rfl) ?_
  refine lv_i2l (v := w.toInt64) hx hb dL_law_1297 rfl ?_
  refine W.lcmp hx hb dL_law_1298 ?_
  exact lv_if_eq (tgt := 1304) hx hb dL_law_1299 (by decide) (fun _ => fin) (fun c3 => absurd (lf_lcmp (by rw [e6 c2])) c3)
set_option maxHeartbeats 4000000 in
set_option maxRecDepth 100000 in
theorem lb_28 {p : Program} {l : Launch} {e : Env} {s : State} {m : MethodId} {args : Array Value} {below : List Frame} {meth : Method} {c : Code} {cells slots : Nat} {Q : State → Prop} {dd : cl_D} {b scr L : Nat} {xs : Nat → Int32} (V : lb_C p l s m args meth c dd b scr L xs) {B i : Nat} {M : cl_M} (hi : i + 6 ≤ L) (hL : L ≤ 3072) (R0 : cx_R B M) (hB : B + 8200 < 2 ^ 30) (hcs : cells + 10 ≤ 601024 ∧ slots + 60 ≤ 7293034) (back : ∀ (M : cl_M) (H : Heap) (locs : List Loc) (ls : Array Slot), cx_R (B + 8200) M → cl_H dd b M s H locs → lv_has ls 9 (lb_l scr b i) → W p l e room_1 s m args below meth c H locs (cells + 10) (slots + 60) Q (F0 m 3095 ls [])) {H : Heap} {locs : List Loc} {ls : Array Slot} (hw : cl_H dd b M s H locs) (hl : lv_has ls 9 (lb_l scr b i)) : W p l e room_1 s m args below meth c H locs cells slots Q (F0 m 1307 ls []) := by
  have V0 := V
  obtain ⟨C, hN, hd, hX, hsb, hbs⟩ := V
  have hx := C.1
  have hb := C.2.1
  have hlt := C.2.2.2.2.2.2.2.2.2.2
  have s5 := cl_s00 hd
  have s6 := cl_s237 hd
  obtain ⟨o, w, M2, e1, e2, e3, e4, e5, e6⟩ := lh_ok (cs := lc_woodenOf) (by decide) (an_woodenOf R0 (xs (i + 1)))
  have e3 : f_X6_woodenOf (lh_M o) 237 (xs (i + 1)) = some (w, M2) := e3
  refine lv_aload_n hx hb dL_law_1307 rfl (lv_at hl 2 rfl) ?_
  refine lb_arg V0 hw (lv_at hl 1 rfl) (lv_at hl 0 rfl) (j := 1) dL_law_1308 dL_law_1309 dL_law_1311 dL_law_1312 dL_law_1313 rfl (by omega) hL ?_
  refine lv_aload_n hx hb dL_law_1314 rfl (lv_at hl 4 rfl) ?_
  refine lh_call C hN hw (h_woodenOf hlt hd e1 e2) lo_247 sw_L_woodenOf in_L cw_L_woodenOf ⟨by decide +kernel, by decide +kernel, by decide +kernel⟩ (n := 3) rfl hl.1 (As := [.ref b, .int (xs (i + 1)), .ref (b + 247)]) rfl ⟨⟨Nat.le_of_ble_eq_true rfl, Nat.le_of_ble_eq_true rfl⟩, Nat.le_of_ble_eq_true rfl, by show cells + 1 ≤ 601024; omega, by show slots + 6 * 1 ≤ 7293034; omega⟩ dL_law_1315 (fun H locs hw => ?_)
  refine lv_istore (lv' := (5, .int (lh_r lc_woodenOf o)) :: lb_l scr b i) hx hb dL_law_1318 hl (by decide) rfl (fun ls hl => ?_)
  refine lv_aload_n hx hb dL_law_1320 rfl (lv_at hl 4 rfl) ?_
  refine lb_arg V0 hw (lv_at hl 2 rfl) (lv_at hl 1 rfl) (j := 1) dL_law_1321 dL_law_1322 dL_law_1324 dL_law_1325 dL_law_1326 rfl (by omega) hL ?_
  refine cr_Vi C hw (c_X6_woodenOf hlt s6 e3) cy_X6_woodenOf vy_X6_woodenOf lo_249 (cl_lt s6 (by decide)) (cl_e6 s6) rfl rfl (As := [.int (xs (i + 1))]) rfl hl.1 rfl ⟨⟨Nat.le_of_ble_eq_true rfl, Nat.le_of_ble_eq_true rfl⟩, Nat.le_of_ble_eq_true rfl, by show cells + 1 ≤ 601024; omega, by show slots + 6 * 1 ≤ 7293034; omega⟩ dL_law_1327 (fun H locs hw => ?_)
  refine lv_istore (lv' := (6, .int w) :: (5, .int (lh_r lc_woodenOf o)) :: lb_l scr b i) hx hb dL_law_1330 hl (by decide) rfl (fun ls hl => ?_)
  refine lv_aload_n hx hb dL_law_1332 rfl (lv_at hl 5 rfl) ?_
  refine cr_Vi C hw (c_X6_thrown hlt s6 (show f_X6_thrown M2 237 = some (M2 237 4) from rfl)) cy_X6_thrown vy_X6_thrown lo_180 (cl_lt s6 (by decide)) (cl_e6 s6) rfl rfl (As := []) rfl hl.1 rfl ⟨⟨Nat.le_of_ble_eq_true rfl, Nat.le_of_ble_eq_true rfl⟩, Nat.le_of_ble_eq_true rfl, by show cells + 1 ≤ 601024; omega, by show slots + 6 * 1 ≤ 7293034; omega⟩ dL_law_1333 (fun H locs hw => ?_)
  refine lv_iload hx hb dL_law_1336 (lv_at hl 1 rfl) ?_
  refine lv_icmp_eq (tgt := 1343) hx hb dL_law_1338 (by decide) (fun c1 => ?_) (fun c1 => absurd e4 c1)
  refine lv_iload hx hb dL_law_1343 (lv_at hl 1 rfl) ?_
  have fin : W p l e room_1 s m args below meth c H locs (cells + 1) (slots + 6 * 1) Q (F0 m 1360 ls []) := by
    refine lv_goto (tgt := 3095) hx hb dL_law_1360 (by decide) ?_
    refine W.widen (k := cells + 10) (n := slots + 60) (by omega) (by omega) ?_
    exact back M2 H locs ls (cx_R_le e5 (by omega)) hw (lv_sub hl [2, 3, 4, 5, 6] rfl)
  refine lv_if_ne (tgt := 1360) hx hb dL_law_1345 (by decide) (fun c2 => fin) (fun c2 => ?_)
  refine lv_aload_n hx hb dL_law_1348 rfl (lv_at hl 6 rfl) ?_
  refine lv_iconst (v := 0) hx hb dL_law_1349 (by decide) ?_
  refine cr_lald C hw hd rfl dL_law_1350 ?_
  refine lv_iload hx hb dL_law_1351 (lv_at hl 0 rfl) ?_
  refine lv_i2l (v := w.toInt64) hx hb dL_law_1353 rfl ?_
  refine W.lcmp hx hb dL_law_1354 ?_
  exact lv_if_eq (tgt := 1360) hx hb dL_law_1355 (by decide) (fun _ => fin) (fun c3 => absurd (lf_lcmp (by rw [e6 c2])) c3)
set_option maxHeartbeats 4000000 in
set_option maxRecDepth 100000 in
theorem lb_29 {p : Program} {l : Launch} {e : Env} {s : State} {m : MethodId} {args : Array Value} {below : List Frame} {meth : Method} {c : Code} {cells slots : Nat} {Q : State → Prop} {dd : cl_D} {b scr L : Nat} {xs : Nat → Int32} (V : lb_C p l s m args meth c dd b scr L xs) {B i : Nat} {M : cl_M} (hi : i + 6 ≤ L) (hL : L ≤ 3072) (R0 : cx_R B M) (hB : B + 8200 < 2 ^ 30) (hcs : cells + 10 ≤ 601024 ∧ slots + 60 ≤ 7293034) (back : ∀ (M : cl_M) (H : Heap) (locs : List Loc) (ls : Array Slot), cx_R (B + 8200) M → cl_H dd b M s H locs → lv_has ls 9 (lb_l scr b i) → W p l e room_1 s m args below meth c H locs (cells + 10) (slots + 60) Q (F0 m 3095 ls [])) {H : Heap} {locs : List Loc} {ls : Array Slot} (hw : cl_H dd b M s H locs) (hl : lv_has ls 9 (lb_l scr b i)) : W p l e room_1 s m args below meth c H locs cells slots Q (F0 m 1363 ls []) := by
  have V0 := V
  obtain ⟨C, hN, hd, hX, hsb, hbs⟩ := V
  have hx := C.1
  have hb := C.2.1
  have hlt := C.2.2.2.2.2.2.2.2.2.2
  have s5 := cl_s00 hd
  have s6 := cl_s237 hd
  obtain ⟨o, w, M2, e1, e2, e3, e4, e5, e6⟩ := lh_ok (cs := lc_steelOf) (by decide) (an_steelOf R0 (xs (i + 1)))
  have e3 : f_X6_steelOf (lh_M o) 237 (xs (i + 1)) = some (w, M2) := e3
  refine lv_aload_n hx hb dL_law_1363 rfl (lv_at hl 2 rfl) ?_
  refine lb_arg V0 hw (lv_at hl 1 rfl) (lv_at hl 0 rfl) (j := 1) dL_law_1364 dL_law_1365 dL_law_1367 dL_law_1368 dL_law_1369 rfl (by omega) hL ?_
  refine lv_aload_n hx hb dL_law_1370 rfl (lv_at hl 4 rfl) ?_
  refine lh_call C hN hw (h_steelOf hlt hd e1 e2) lo_250 sw_L_steelOf in_L cw_L_steelOf ⟨by decide +kernel, by decide +kernel, by decide +kernel⟩ (n := 3) rfl hl.1 (As := [.ref b, .int (xs (i + 1)), .ref (b + 247)]) rfl ⟨⟨Nat.le_of_ble_eq_true rfl, Nat.le_of_ble_eq_true rfl⟩, Nat.le_of_ble_eq_true rfl, by show cells + 1 ≤ 601024; omega, by show slots + 6 * 1 ≤ 7293034; omega⟩ dL_law_1371 (fun H locs hw => ?_)
  refine lv_istore (lv' := (5, .int (lh_r lc_steelOf o)) :: lb_l scr b i) hx hb dL_law_1374 hl (by decide) rfl (fun ls hl => ?_)
  refine lv_aload_n hx hb dL_law_1376 rfl (lv_at hl 4 rfl) ?_
  refine lb_arg V0 hw (lv_at hl 2 rfl) (lv_at hl 1 rfl) (j := 1) dL_law_1377 dL_law_1378 dL_law_1380 dL_law_1381 dL_law_1382 rfl (by omega) hL ?_
  refine cr_Vi C hw (c_X6_steelOf hlt s6 e3) cy_X6_steelOf vy_X6_steelOf lo_252 (cl_lt s6 (by decide)) (cl_e6 s6) rfl rfl (As := [.int (xs (i + 1))]) rfl hl.1 rfl ⟨⟨Nat.le_of_ble_eq_true rfl, Nat.le_of_ble_eq_true rfl⟩, Nat.le_of_ble_eq_true rfl, by show cells + 1 ≤ 601024; omega, by show slots + 6 * 1 ≤ 7293034; omega⟩ dL_law_1383 (fun H locs hw => ?_)
  refine lv_istore (lv' := (6, .int w) :: (5, .int (lh_r lc_steelOf o)) :: lb_l scr b i) hx hb dL_law_1386 hl (by decide) rfl (fun ls hl => ?_)
  refine lv_aload_n hx hb dL_law_1388 rfl (lv_at hl 5 rfl) ?_
  refine cr_Vi C hw (c_X6_thrown hlt s6 (show f_X6_thrown M2 237 = some (M2 237 4) from rfl)) cy_X6_thrown vy_X6_thrown lo_180 (cl_lt s6 (by decide)) (cl_e6 s6) rfl rfl (As := []) rfl hl.1 rfl ⟨⟨Nat.le_of_ble_eq_true rfl, Nat.le_of_ble_eq_true rfl⟩, Nat.le_of_ble_eq_true rfl, by show cells + 1 ≤ 601024; omega, by show slots + 6 * 1 ≤ 7293034; omega⟩ dL_law_1389 (fun H locs hw => ?_)
  refine lv_iload hx hb dL_law_1392 (lv_at hl 1 rfl) ?_
  refine lv_icmp_eq (tgt := 1399) hx hb dL_law_1394 (by decide) (fun c1 => ?_) (fun c1 => absurd e4 c1)
  refine lv_iload hx hb dL_law_1399 (lv_at hl 1 rfl) ?_
  have fin : W p l e room_1 s m args below meth c H locs (cells + 1) (slots + 6 * 1) Q (F0 m 1416 ls []) := by
    refine lv_goto (tgt := 3095) hx hb dL_law_1416 (by decide) ?_
    refine W.widen (k := cells + 10) (n := slots + 60) (by omega) (by omega) ?_
    exact back M2 H locs ls (cx_R_le e5 (by omega)) hw (lv_sub hl [2, 3, 4, 5, 6] rfl)
  refine lv_if_ne (tgt := 1416) hx hb dL_law_1401 (by decide) (fun c2 => fin) (fun c2 => ?_)
  refine lv_aload_n hx hb dL_law_1404 rfl (lv_at hl 6 rfl) ?_
  refine lv_iconst (v := 0) hx hb dL_law_1405 (by decide) ?_
  refine cr_lald C hw hd rfl dL_law_1406 ?_
  refine lv_iload hx hb dL_law_1407 (lv_at hl 0 rfl) ?_
  refine lv_i2l (v := w.toInt64) hx hb dL_law_1409 rfl ?_
  refine W.lcmp hx hb dL_law_1410 ?_
  exact lv_if_eq (tgt := 1416) hx hb dL_law_1411 (by decide) (fun _ => fin) (fun c3 => absurd (lf_lcmp (by rw [e6 c2])) c3)
set_option maxHeartbeats 4000000 in
set_option maxRecDepth 100000 in
theorem lb_30 {p : Program} {l : Launch} {e : Env} {s : State} {m : MethodId} {args : Array Value} {below : List Frame} {meth : Method} {c : Code} {cells slots : Nat} {Q : State → Prop} {dd : cl_D} {b scr L : Nat} {xs : Nat → Int32} (V : lb_C p l s m args meth c dd b scr L xs) {B i : Nat} {M : cl_M} (hi : i + 6 ≤ L) (hL : L ≤ 3072) (R0 : cx_R B M) (hB : B + 8200 < 2 ^ 30) (hcs : cells + 10 ≤ 601024 ∧ slots + 60 ≤ 7293034) (back : ∀ (M : cl_M) (H : Heap) (locs : List Loc) (ls : Array Slot), cx_R (B + 8200) M → cl_H dd b M s H locs → lv_has ls 9 (lb_l scr b i) → W p l e room_1 s m args below meth c H locs (cells + 10) (slots + 60) Q (F0 m 3095 ls [])) {H : Heap} {locs : List Loc} {ls : Array Slot} (hw : cl_H dd b M s H locs) (hl : lv_has ls 9 (lb_l scr b i)) : W p l e room_1 s m args below meth c H locs cells slots Q (F0 m 1419 ls []) := by
  have V0 := V
  obtain ⟨C, hN, hd, hX, hsb, hbs⟩ := V
  have hx := C.1
  have hb := C.2.1
  have hlt := C.2.2.2.2.2.2.2.2.2.2
  have s5 := cl_s00 hd
  have s6 := cl_s237 hd
  obtain ⟨o, w, M2, e1, e2, e3, e4, e5, e6⟩ := lh_ok (cs := lc_holdOf) (by decide) (an_holdOf R0 (xs (i + 1)))
  have e3 : f_X6_holdOf (lh_M o) 237 (xs (i + 1)) = some (w, M2) := e3
  refine lv_aload_n hx hb dL_law_1419 rfl (lv_at hl 2 rfl) ?_
  refine lb_arg V0 hw (lv_at hl 1 rfl) (lv_at hl 0 rfl) (j := 1) dL_law_1420 dL_law_1421 dL_law_1423 dL_law_1424 dL_law_1425 rfl (by omega) hL ?_
  refine lv_aload_n hx hb dL_law_1426 rfl (lv_at hl 4 rfl) ?_
  refine lh_call C hN hw (h_holdOf hlt hd e1 e2) lo_253 sw_L_holdOf in_L cw_L_holdOf ⟨by decide +kernel, by decide +kernel, by decide +kernel⟩ (n := 3) rfl hl.1 (As := [.ref b, .int (xs (i + 1)), .ref (b + 247)]) rfl ⟨⟨Nat.le_of_ble_eq_true rfl, Nat.le_of_ble_eq_true rfl⟩, Nat.le_of_ble_eq_true rfl, by show cells + 1 ≤ 601024; omega, by show slots + 6 * 1 ≤ 7293034; omega⟩ dL_law_1427 (fun H locs hw => ?_)
  refine lv_istore (lv' := (5, .int (lh_r lc_holdOf o)) :: lb_l scr b i) hx hb dL_law_1430 hl (by decide) rfl (fun ls hl => ?_)
  refine lv_aload_n hx hb dL_law_1432 rfl (lv_at hl 4 rfl) ?_
  refine lb_arg V0 hw (lv_at hl 2 rfl) (lv_at hl 1 rfl) (j := 1) dL_law_1433 dL_law_1434 dL_law_1436 dL_law_1437 dL_law_1438 rfl (by omega) hL ?_
  refine cr_Vi C hw (c_X6_holdOf hlt s6 e3) cy_X6_holdOf vy_X6_holdOf lo_255 (cl_lt s6 (by decide)) (cl_e6 s6) rfl rfl (As := [.int (xs (i + 1))]) rfl hl.1 rfl ⟨⟨Nat.le_of_ble_eq_true rfl, Nat.le_of_ble_eq_true rfl⟩, Nat.le_of_ble_eq_true rfl, by show cells + 1 ≤ 601024; omega, by show slots + 6 * 1 ≤ 7293034; omega⟩ dL_law_1439 (fun H locs hw => ?_)
  refine lv_istore (lv' := (6, .int w) :: (5, .int (lh_r lc_holdOf o)) :: lb_l scr b i) hx hb dL_law_1442 hl (by decide) rfl (fun ls hl => ?_)
  refine lv_aload_n hx hb dL_law_1444 rfl (lv_at hl 5 rfl) ?_
  refine cr_Vi C hw (c_X6_thrown hlt s6 (show f_X6_thrown M2 237 = some (M2 237 4) from rfl)) cy_X6_thrown vy_X6_thrown lo_180 (cl_lt s6 (by decide)) (cl_e6 s6) rfl rfl (As := []) rfl hl.1 rfl ⟨⟨Nat.le_of_ble_eq_true rfl, Nat.le_of_ble_eq_true rfl⟩, Nat.le_of_ble_eq_true rfl, by show cells + 1 ≤ 601024; omega, by show slots + 6 * 1 ≤ 7293034; omega⟩ dL_law_1445 (fun H locs hw => ?_)
  refine lv_iload hx hb dL_law_1448 (lv_at hl 1 rfl) ?_
  refine lv_icmp_eq (tgt := 1455) hx hb dL_law_1450 (by decide) (fun c1 => ?_) (fun c1 => absurd e4 c1)
  refine lv_iload hx hb dL_law_1455 (lv_at hl 1 rfl) ?_
  have fin : W p l e room_1 s m args below meth c H locs (cells + 1) (slots + 6 * 1) Q (F0 m 1472 ls []) := by
    refine lv_goto (tgt := 3095) hx hb dL_law_1472 (by decide) ?_
    refine W.widen (k := cells + 10) (n := slots + 60) (by omega) (by omega) ?_
    exact back M2 H locs ls (cx_R_le e5 (by omega)) hw (lv_sub hl [2, 3, 4, 5, 6] rfl)
  refine lv_if_ne (tgt := 1472) hx hb dL_law_1457 (by decide) (fun c2 => fin) (fun c2 => ?_)
  refine lv_aload_n hx hb dL_law_1460 rfl (lv_at hl 6 rfl) ?_
  refine lv_iconst (v := 0) hx hb dL_law_1461 (by decide) ?_
  refine cr_lald C hw hd rfl dL_law_1462 ?_
  refine lv_iload hx hb dL_law_1463 (lv_at hl 0 rfl) ?_
  refine lv_i2l (v := w.toInt64) hx hb dL_law_1465 rfl ?_
  refine W.lcmp hx hb dL_law_1466 ?_
  exact lv_if_eq (tgt := 1472) hx hb dL_law_1467 (by decide) (fun _ => fin) (fun c3 => absurd (lf_lcmp (by rw [e6 c2])) c3)
set_option maxHeartbeats 4000000 in
set_option maxRecDepth 100000 in
theorem lb_31 {p : Program} {l : Launch} {e : Env} {s : State} {m : MethodId} {args : Array Value} {below : List Frame} {meth : Method} {c : Code} {cells slots : Nat} {Q : State → Prop} {dd : cl_D} {b scr L : Nat} {xs : Nat → Int32} (V : lb_C p l s m args meth c dd b scr L xs) {B i : Nat} {M : cl_M} (hi : i + 6 ≤ L) (hL : L ≤ 3072) (R0 : cx_R B M) (hB : B + 8200 < 2 ^ 30) (hcs : cells + 10 ≤ 601024 ∧ slots + 60 ≤ 7293034) (back : ∀ (M : cl_M) (H : Heap) (locs : List Loc) (ls : Array Slot), cx_R (B + 8200) M → cl_H dd b M s H locs → lv_has ls 9 (lb_l scr b i) → W p l e room_1 s m args below meth c H locs (cells + 10) (slots + 60) Q (F0 m 3095 ls [])) {H : Heap} {locs : List Loc} {ls : Array Slot} (hw : cl_H dd b M s H locs) (hl : lv_has ls 9 (lb_l scr b i)) : W p l e room_1 s m args below meth c H locs cells slots Q (F0 m 1475 ls []) := by
  have V0 := V
  obtain ⟨C, hN, hd, hX, hsb, hbs⟩ := V
  have hx := C.1
  have hb := C.2.1
  have hlt := C.2.2.2.2.2.2.2.2.2.2
  have s5 := cl_s00 hd
  have s6 := cl_s237 hd
  obtain ⟨o, w, M2, e1, e2, e3, e4, e5, e6⟩ := lh_ok (cs := lc_fallsOf) (by decide) (an_fallsOf R0 (xs (i + 1)))
  have e3 : f_X6_fallsOf (lh_M o) 237 (xs (i + 1)) = some (w, M2) := e3
  refine lv_aload_n hx hb dL_law_1475 rfl (lv_at hl 2 rfl) ?_
  refine lb_arg V0 hw (lv_at hl 1 rfl) (lv_at hl 0 rfl) (j := 1) dL_law_1476 dL_law_1477 dL_law_1479 dL_law_1480 dL_law_1481 rfl (by omega) hL ?_
  refine lv_aload_n hx hb dL_law_1482 rfl (lv_at hl 4 rfl) ?_
  refine lh_call C hN hw (h_fallsOf hlt hd e1 e2) lo_256 sw_L_fallsOf in_L cw_L_fallsOf ⟨by decide +kernel, by decide +kernel, by decide +kernel⟩ (n := 3) rfl hl.1 (As := [.ref b, .int (xs (i + 1)), .ref (b + 247)]) rfl ⟨⟨Nat.le_of_ble_eq_true rfl, Nat.le_of_ble_eq_true rfl⟩, Nat.le_of_ble_eq_true rfl, by show cells + 1 ≤ 601024; omega, by show slots + 6 * 1 ≤ 7293034; omega⟩ dL_law_1483 (fun H locs hw => ?_)
  refine lv_istore (lv' := (5, .int (lh_r lc_fallsOf o)) :: lb_l scr b i) hx hb dL_law_1486 hl (by decide) rfl (fun ls hl => ?_)
  refine lv_aload_n hx hb dL_law_1488 rfl (lv_at hl 4 rfl) ?_
  refine lb_arg V0 hw (lv_at hl 2 rfl) (lv_at hl 1 rfl) (j := 1) dL_law_1489 dL_law_1490 dL_law_1492 dL_law_1493 dL_law_1494 rfl (by omega) hL ?_
  refine cr_Vi C hw (c_X6_fallsOf hlt s6 e3) cy_X6_fallsOf vy_X6_fallsOf lo_258 (cl_lt s6 (by decide)) (cl_e6 s6) rfl rfl (As := [.int (xs (i + 1))]) rfl hl.1 rfl ⟨⟨Nat.le_of_ble_eq_true rfl, Nat.le_of_ble_eq_true rfl⟩, Nat.le_of_ble_eq_true rfl, by show cells + 1 ≤ 601024; omega, by show slots + 6 * 1 ≤ 7293034; omega⟩ dL_law_1495 (fun H locs hw => ?_)
  refine lv_istore (lv' := (6, .int w) :: (5, .int (lh_r lc_fallsOf o)) :: lb_l scr b i) hx hb dL_law_1498 hl (by decide) rfl (fun ls hl => ?_)
  refine lv_aload_n hx hb dL_law_1500 rfl (lv_at hl 5 rfl) ?_
  refine cr_Vi C hw (c_X6_thrown hlt s6 (show f_X6_thrown M2 237 = some (M2 237 4) from rfl)) cy_X6_thrown vy_X6_thrown lo_180 (cl_lt s6 (by decide)) (cl_e6 s6) rfl rfl (As := []) rfl hl.1 rfl ⟨⟨Nat.le_of_ble_eq_true rfl, Nat.le_of_ble_eq_true rfl⟩, Nat.le_of_ble_eq_true rfl, by show cells + 1 ≤ 601024; omega, by show slots + 6 * 1 ≤ 7293034; omega⟩ dL_law_1501 (fun H locs hw => ?_)
  refine lv_iload hx hb dL_law_1504 (lv_at hl 1 rfl) ?_
  refine lv_icmp_eq (tgt := 1511) hx hb dL_law_1506 (by decide) (fun c1 => ?_) (fun c1 => absurd e4 c1)
  refine lv_iload hx hb dL_law_1511 (lv_at hl 1 rfl) ?_
  have fin : W p l e room_1 s m args below meth c H locs (cells + 1) (slots + 6 * 1) Q (F0 m 1528 ls []) := by
    refine lv_goto (tgt := 3095) hx hb dL_law_1528 (by decide) ?_
    refine W.widen (k := cells + 10) (n := slots + 60) (by omega) (by omega) ?_
    exact back M2 H locs ls (cx_R_le e5 (by omega)) hw (lv_sub hl [2, 3, 4, 5, 6] rfl)
  refine lv_if_ne (tgt := 1528) hx hb dL_law_1513 (by decide) (fun c2 => fin) (fun c2 => ?_)
  refine lv_aload_n hx hb dL_law_1516 rfl (lv_at hl 6 rfl) ?_
  refine lv_iconst (v := 0) hx hb dL_law_1517 (by decide) ?_
  refine cr_lald C hw hd rfl dL_law_1518 ?_
  refine lv_iload hx hb dL_law_1519 (lv_at hl 0 rfl) ?_
  refine lv_i2l (v := w.toInt64) hx hb dL_law_1521 rfl ?_
  refine W.lcmp hx hb dL_law_1522 ?_
  exact lv_if_eq (tgt := 1528) hx hb dL_law_1523 (by decide) (fun _ => fin) (fun c3 => absurd (lf_lcmp (by rw [e6 c2])) c3)
set_option maxHeartbeats 4000000 in
set_option maxRecDepth 100000 in
theorem lb_32 {p : Program} {l : Launch} {e : Env} {s : State} {m : MethodId} {args : Array Value} {below : List Frame} {meth : Method} {c : Code} {cells slots : Nat} {Q : State → Prop} {dd : cl_D} {b scr L : Nat} {xs : Nat → Int32} (V : lb_C p l s m args meth c dd b scr L xs) {B i : Nat} {M : cl_M} (hi : i + 6 ≤ L) (hL : L ≤ 3072) (R0 : cx_R B M) (hB : B + 8200 < 2 ^ 30) (hcs : cells + 10 ≤ 601024 ∧ slots + 60 ≤ 7293034) (back : ∀ (M : cl_M) (H : Heap) (locs : List Loc) (ls : Array Slot), cx_R (B + 8200) M → cl_H dd b M s H locs → lv_has ls 9 (lb_l scr b i) → W p l e room_1 s m args below meth c H locs (cells + 10) (slots + 60) Q (F0 m 3095 ls [])) {H : Heap} {locs : List Loc} {ls : Array Slot} (hw : cl_H dd b M s H locs) (hl : lv_has ls 9 (lb_l scr b i)) : W p l e room_1 s m args below meth c H locs cells slots Q (F0 m 1531 ls []) := by
  have V0 := V
  obtain ⟨C, hN, hd, hX, hsb, hbs⟩ := V
  have hx := C.1
  have hb := C.2.1
  have hlt := C.2.2.2.2.2.2.2.2.2.2
  have s5 := cl_s00 hd
  have s6 := cl_s237 hd
  obtain ⟨o, w, M2, e1, e2, e3, e4, e5, e6⟩ := lh_okz (cs := lc_isDirty) (by decide) (an_isDirty R0 (xs (i + 1)))
  have e3 : f_X6_isDirty (lh_M o) 237 (xs (i + 1)) = some (w, M2) := e3
  refine lv_aload_n hx hb dL_law_1531 rfl (lv_at hl 2 rfl) ?_
  refine lb_arg V0 hw (lv_at hl 1 rfl) (lv_at hl 0 rfl) (j := 1) dL_law_1532 dL_law_1533 dL_law_1535 dL_law_1536 dL_law_1537 rfl (by omega) hL ?_
  refine lv_aload_n hx hb dL_law_1538 rfl (lv_at hl 4 rfl) ?_
  refine lh_call C hN hw (h_isDirty hlt hd e1 e2 (lz_isDirty e1)) lo_259 sw_L_isDirty in_L cw_L_isDirty ⟨by decide +kernel, by decide +kernel, by decide +kernel⟩ (n := 3) rfl hl.1 (As := [.ref b, .int (xs (i + 1)), .ref (b + 247)]) rfl ⟨⟨Nat.le_of_ble_eq_true rfl, Nat.le_of_ble_eq_true rfl⟩, Nat.le_of_ble_eq_true rfl, by show cells + 1 ≤ 601024; omega, by show slots + 6 * 1 ≤ 7293034; omega⟩ dL_law_1539 (fun H locs hw => ?_)
  refine lv_istore (lv' := (5, .int (lh_r lc_isDirty o)) :: lb_l scr b i) hx hb dL_law_1542 hl (by decide) rfl (fun ls hl => ?_)
  refine lv_aload_n hx hb dL_law_1544 rfl (lv_at hl 4 rfl) ?_
  refine lb_arg V0 hw (lv_at hl 2 rfl) (lv_at hl 1 rfl) (j := 1) dL_law_1545 dL_law_1546 dL_law_1548 dL_law_1549 dL_law_1550 rfl (by omega) hL ?_
  refine cr_Vi C hw (c_X6_isDirty hlt s6 e3) cy_X6_isDirty vy_X6_isDirty lo_261 (cl_lt s6 (by decide)) (cl_e6 s6) rfl rfl (As := [.int (xs (i + 1))]) rfl hl.1 rfl ⟨⟨Nat.le_of_ble_eq_true rfl, Nat.le_of_ble_eq_true rfl⟩, Nat.le_of_ble_eq_true rfl, by show cells + 1 ≤ 601024; omega, by show slots + 6 * 1 ≤ 7293034; omega⟩ dL_law_1551 (fun H locs hw => ?_)
  refine lv_istore (lv' := (6, .int w) :: (5, .int (lh_r lc_isDirty o)) :: lb_l scr b i) hx hb dL_law_1554 hl (by decide) rfl (fun ls hl => ?_)
  refine lv_aload_n hx hb dL_law_1556 rfl (lv_at hl 5 rfl) ?_
  refine cr_Vi C hw (c_X6_thrown hlt s6 (show f_X6_thrown M2 237 = some (M2 237 4) from rfl)) cy_X6_thrown vy_X6_thrown lo_180 (cl_lt s6 (by decide)) (cl_e6 s6) rfl rfl (As := []) rfl hl.1 rfl ⟨⟨Nat.le_of_ble_eq_true rfl, Nat.le_of_ble_eq_true rfl⟩, Nat.le_of_ble_eq_true rfl, by show cells + 1 ≤ 601024; omega, by show slots + 6 * 1 ≤ 7293034; omega⟩ dL_law_1557 (fun H locs hw => ?_)
  refine lv_iload hx hb dL_law_1560 (lv_at hl 1 rfl) ?_
  refine lv_icmp_eq (tgt := 1567) hx hb dL_law_1562 (by decide) (fun c1 => ?_) (fun c1 => absurd e4 c1)
  refine lv_iload hx hb dL_law_1567 (lv_at hl 1 rfl) ?_
  have fin : W p l e room_1 s m args below meth c H locs (cells + 1) (slots + 6 * 1) Q (F0 m 1591 ls []) := by
    refine lv_goto (tgt := 3095) hx hb dL_law_1591 (by decide) ?_
    refine W.widen (k := cells + 10) (n := slots + 60) (by omega) (by omega) ?_
    exact back M2 H locs ls (cx_R_le e5 (by omega)) hw (lv_sub hl [2, 3, 4, 5, 6] rfl)
  refine lv_if_ne (tgt := 1591) hx hb dL_law_1569 (by decide) (fun c2 => fin) (fun c2 => ?_)
  refine lv_aload_n hx hb dL_law_1572 rfl (lv_at hl 6 rfl) ?_
  refine lv_iconst (v := 0) hx hb dL_law_1573 (by decide) ?_
  refine cr_lald C hw hd rfl dL_law_1574 ?_
  refine lv_iload hx hb dL_law_1575 (lv_at hl 0 rfl) ?_
  obtain ⟨e7, M1, e8⟩ := e6 c2
  have e9 := lz_isDirty e1 _ e8
  have go : ∀ v : Int64, v = w.toInt64 → W p l e room_1 s m args below meth c H locs (cells + 1) (slots + 6 * 1) Q (F0 m 1585 ls [.long v, .long ((M2 247 0).toInt64)]) := fun v hv => by
    refine W.lcmp hx hb dL_law_1585 ?_
    exact lv_if_eq (tgt := 1591) hx hb dL_law_1586 (by decide) (fun _ => fin) (fun c3 => absurd (lf_lcmp (by rw [e7, hv])) c3)
  refine lv_if_eq (tgt := 1584) hx hb dL_law_1577 (by decide) (fun c3 => ?_) (fun c3 => ?_)
  · refine lv_lconst (v := 0) hx hb dL_law_1584 rfl ?_
    exact go 0 (by rw [c3]; rfl)
  · refine lv_lconst (v := 1) hx hb dL_law_1580 rfl ?_
    refine lv_goto (tgt := 1585) hx hb dL_law_1581 (by decide) ?_
    exact go 1 (by rw [show w = 1 from e9.resolve_left c3]; rfl)
set_option maxHeartbeats 4000000 in
set_option maxRecDepth 100000 in
theorem lb_33 {p : Program} {l : Launch} {e : Env} {s : State} {m : MethodId} {args : Array Value} {below : List Frame} {meth : Method} {c : Code} {cells slots : Nat} {Q : State → Prop} {dd : cl_D} {b scr L : Nat} {xs : Nat → Int32} (V : lb_C p l s m args meth c dd b scr L xs) {B i : Nat} {M : cl_M} (hi : i + 6 ≤ L) (hL : L ≤ 3072) (R0 : cx_R B M) (hB : B + 8200 < 2 ^ 30) (hcs : cells + 10 ≤ 601024 ∧ slots + 60 ≤ 7293034) (back : ∀ (M : cl_M) (H : Heap) (locs : List Loc) (ls : Array Slot), cx_R (B + 8200) M → cl_H dd b M s H locs → lv_has ls 9 (lb_l scr b i) → W p l e room_1 s m args below meth c H locs (cells + 10) (slots + 60) Q (F0 m 3095 ls [])) {H : Heap} {locs : List Loc} {ls : Array Slot} (hw : cl_H dd b M s H locs) (hl : lv_has ls 9 (lb_l scr b i)) : W p l e room_1 s m args below meth c H locs cells slots Q (F0 m 1594 ls []) := by
  have V0 := V
  obtain ⟨C, hN, hd, hX, hsb, hbs⟩ := V
  have hx := C.1
  have hb := C.2.1
  have hlt := C.2.2.2.2.2.2.2.2.2.2
  have s5 := cl_s00 hd
  have s6 := cl_s237 hd
  obtain ⟨o, w, M2, e1, e2, e3, e4, e5, e6⟩ := lh_ok (cs := lc_garmentsIn) (by decide) (an_garmentsIn R0 (xs (i + 1)))
  have e3 : f_X6_garmentsIn (lh_M o) 237 (xs (i + 1)) = some (w, M2) := e3
  refine lv_aload_n hx hb dL_law_1594 rfl (lv_at hl 2 rfl) ?_
  refine lb_arg V0 hw (lv_at hl 1 rfl) (lv_at hl 0 rfl) (j := 1) dL_law_1595 dL_law_1596 dL_law_1598 dL_law_1599 dL_law_1600 rfl (by omega) hL ?_
  refine lv_aload_n hx hb dL_law_1601 rfl (lv_at hl 4 rfl) ?_
  refine lh_call C hN hw (h_garmentsIn hlt hd e1 e2) lo_262 sw_L_garmentsIn in_L cw_L_garmentsIn ⟨by decide +kernel, by decide +kernel, by decide +kernel⟩ (n := 3) rfl hl.1 (As := [.ref b, .int (xs (i + 1)), .ref (b + 247)]) rfl ⟨⟨Nat.le_of_ble_eq_true rfl, Nat.le_of_ble_eq_true rfl⟩, Nat.le_of_ble_eq_true rfl, by show cells + 1 ≤ 601024; omega, by show slots + 6 * 1 ≤ 7293034; omega⟩ dL_law_1602 (fun H locs hw => ?_)
  refine lv_istore (lv' := (5, .int (lh_r lc_garmentsIn o)) :: lb_l scr b i) hx hb dL_law_1605 hl (by decide) rfl (fun ls hl => ?_)
  refine lv_aload_n hx hb dL_law_1607 rfl (lv_at hl 4 rfl) ?_
  refine lb_arg V0 hw (lv_at hl 2 rfl) (lv_at hl 1 rfl) (j := 1) dL_law_1608 dL_law_1609 dL_law_1611 dL_law_1612 dL_law_1613 rfl (by omega) hL ?_
  refine cr_Vi C hw (c_X6_garmentsIn hlt s6 e3) cy_X6_garmentsIn vy_X6_garmentsIn lo_264 (cl_lt s6 (by decide)) (cl_e6 s6) rfl rfl (As := [.int (xs (i + 1))]) rfl hl.1 rfl ⟨⟨Nat.le_of_ble_eq_true rfl, Nat.le_of_ble_eq_true rfl⟩, Nat.le_of_ble_eq_true rfl, by show cells + 1 ≤ 601024; omega, by show slots + 6 * 1 ≤ 7293034; omega⟩ dL_law_1614 (fun H locs hw => ?_)
  refine lv_istore (lv' := (6, .int w) :: (5, .int (lh_r lc_garmentsIn o)) :: lb_l scr b i) hx hb dL_law_1617 hl (by decide) rfl (fun ls hl => ?_)
  refine lv_aload_n hx hb dL_law_1619 rfl (lv_at hl 5 rfl) ?_
  refine cr_Vi C hw (c_X6_thrown hlt s6 (show f_X6_thrown M2 237 = some (M2 237 4) from rfl)) cy_X6_thrown vy_X6_thrown lo_180 (cl_lt s6 (by decide)) (cl_e6 s6) rfl rfl (As := []) rfl hl.1 rfl ⟨⟨Nat.le_of_ble_eq_true rfl, Nat.le_of_ble_eq_true rfl⟩, Nat.le_of_ble_eq_true rfl, by show cells + 1 ≤ 601024; omega, by show slots + 6 * 1 ≤ 7293034; omega⟩ dL_law_1620 (fun H locs hw => ?_)
  refine lv_iload hx hb dL_law_1623 (lv_at hl 1 rfl) ?_
  refine lv_icmp_eq (tgt := 1630) hx hb dL_law_1625 (by decide) (fun c1 => ?_) (fun c1 => absurd e4 c1)
  refine lv_iload hx hb dL_law_1630 (lv_at hl 1 rfl) ?_
  have fin : W p l e room_1 s m args below meth c H locs (cells + 1) (slots + 6 * 1) Q (F0 m 1647 ls []) := by
    refine lv_goto (tgt := 3095) hx hb dL_law_1647 (by decide) ?_
    refine W.widen (k := cells + 10) (n := slots + 60) (by omega) (by omega) ?_
    exact back M2 H locs ls (cx_R_le e5 (by omega)) hw (lv_sub hl [2, 3, 4, 5, 6] rfl)
  refine lv_if_ne (tgt := 1647) hx hb dL_law_1632 (by decide) (fun c2 => fin) (fun c2 => ?_)
  refine lv_aload_n hx hb dL_law_1635 rfl (lv_at hl 6 rfl) ?_
  refine lv_iconst (v := 0) hx hb dL_law_1636 (by decide) ?_
  refine cr_lald C hw hd rfl dL_law_1637 ?_
  refine lv_iload hx hb dL_law_1638 (lv_at hl 0 rfl) ?_
  refine lv_i2l (v := w.toInt64) hx hb dL_law_1640 rfl ?_
  refine W.lcmp hx hb dL_law_1641 ?_
  exact lv_if_eq (tgt := 1647) hx hb dL_law_1642 (by decide) (fun _ => fin) (fun c3 => absurd (lf_lcmp (by rw [e6 c2])) c3)

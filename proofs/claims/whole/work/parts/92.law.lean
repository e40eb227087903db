/-! the law's loop, and what its start leaves -/
theorem lo_and (x : Int32) : ∃ k, k < 64 ∧ x &&& 63 = nI k := by
  have h : (x &&& 63).toBitVec.toNat < 64 := by
    rw [Int32.toBitVec_and, BitVec.toNat_and]
    exact Nat.lt_of_le_of_lt Nat.and_le_right (by decide)
  refine ⟨(x &&& 63).toBitVec.toNat, h, ?_⟩
  apply Int32.toBitVec_inj.mp
  apply BitVec.eq_of_toNat_eq
  show _ = (BitVec.ofNat 32 _).toNat
  rw [BitVec.toNat_ofNat, Nat.mod_eq_of_lt (by omega)]
theorem lo_cmp {L i : Nat} (hL : L ≤ 3072) (hi : i ≤ 3072) : nI L - 6 < nI i ↔ L < i + 6 := by
  rw [Int32.lt_iff_toInt_lt, nI_toInt (by omega)]
  rcases Nat.lt_or_ge L 6 with h | h
  · rcases (show L = 0 ∨ L = 1 ∨ L = 2 ∨ L = 3 ∨ L = 4 ∨ L = 5 by omega) with rfl | rfl | rfl | rfl | rfl | rfl
    · rw [show (nI 0 - 6).toInt = -6 by decide]; omega
    · rw [show (nI 1 - 6).toInt = -5 by decide]; omega
    · rw [show (nI 2 - 6).toInt = -4 by decide]; omega
    · rw [show (nI 3 - 6).toInt = -3 by decide]; omega
    · rw [show (nI 4 - 6).toInt = -2 by decide]; omega
    · rw [show (nI 5 - 6).toInt = -1 by decide]; omega
  · obtain ⟨k, rfl⟩ : ∃ k, L = k + 6 := ⟨L - 6, by omega⟩
    rw [show nI (k + 6) - 6 = nI k by rw [← nI_add]; exact Int32.add_sub_cancel _ _, nI_toInt (by omega)]
    omega
set_option maxHeartbeats 8000000 in
set_option maxRecDepth 100000 in
theorem lo_loop {p : Program} {l : Launch} {e : Env} {s : State} {m : MethodId} {args : Array Value} {below : List Frame} {meth : Method} {c : Code} {Q : State → Prop} {dd : cl_D} {b scr L : Nat} {xs : Nat → Int32} (V : lb_C p l s m args meth c dd b scr L xs) (hL : L ≤ 3072) (done : ∀ (M : cl_M) (H : Heap) (locs : List Loc) (ls : Array Slot), cl_H dd b M s H locs → W p l e room_1 s m args below meth c H locs 601024 7293034 Q (F0 m 3101 ls [])) : ∀ r q, q + r = L / 6 → ∀ (M : cl_M) (H : Heap) (locs : List Loc) (ls : Array Slot), cx_R (8200 * (q + 1)) M → cl_H dd b M s H locs → lv_has ls 9 (lb_l scr b (6 * q)) → W p l e room_1 s m args below meth c H locs (248 + 10 * q) (6000 + 60 * q) Q (F0 m 23 ls []) := by
  have V0 := V
  obtain ⟨C, hN, hd, hX, hsb, hbs⟩ := V
  have hx := C.1
  have hb := C.2.1
  intro r
  induction r with
  | zero =>
    intro q hq M H locs ls R0 hw hl
    refine lv_iload hx hb dL_law_23 (lv_at hl 0 rfl) ?_
    refine lv_aload_n hx hb dL_law_25 rfl (lv_at hl 1 rfl) ?_
    refine va_slen (A := cl_A b) hx hb hX hsb (by show ¬ (b ≤ scr); omega) hw.2 dL_law_26 ?_
    refine lv_bipush (v := 6) hx hb dL_law_27 (by decide) ?_
    refine lv_isub hx hb dL_law_29 ?_
    refine lv_icmp_gt (tgt := 3101) hx hb dL_law_30 (by decide) (fun c1 => ?_) (fun c1 => absurd ((lo_cmp hL (by omega)).mpr (by omega)) c1)
    refine W.widen (k := 601024) (n := 7293034) (by omega) (by omega) ?_
    exact done M H locs ls hw
  | succ r ih =>
    intro q hq M H locs ls R0 hw hl
    have hi : 6 * q + 6 ≤ L := by omega
    have hB : 8200 * (q + 1) + 8200 < 2 ^ 30 := by omega
    have hcs : (248 + 10 * q) + 10 ≤ 601024 ∧ (6000 + 60 * q) + 60 ≤ 7293034 := by omega
    refine lv_iload hx hb dL_law_23 (lv_at hl 0 rfl) ?_
    refine lv_aload_n hx hb dL_law_25 rfl (lv_at hl 1 rfl) ?_
    refine va_slen (A := cl_A b) hx hb hX hsb (by show ¬ (b ≤ scr); omega) hw.2 dL_law_26 ?_
    refine lv_bipush (v := 6) hx hb dL_law_27 (by decide) ?_
    refine lv_isub hx hb dL_law_29 ?_
    refine lv_icmp_gt (tgt := 3101) hx hb dL_law_30 (by decide) (fun c1 => absurd ((lo_cmp hL (by omega)).mp c1) (by omega)) (fun c1 => ?_)
    refine lv_aload_n hx hb dL_law_33 rfl (lv_at hl 1 rfl) ?_
    refine lv_iload hx hb dL_law_34 (lv_at hl 0 rfl) ?_
    refine va_sld (A := cl_A b) hx hb hX hsb (by show ¬ (b ≤ scr); omega) hw.2 (cl_inb_in (cu_inb (by omega) (by omega))) dL_law_36 ?_
    refine lv_bipush (v := 63) hx hb dL_law_37 (by decide) ?_
    refine lv_iand hx hb dL_law_39 ?_
    obtain ⟨k, hk, ek⟩ := lo_and (xs (nI (6 * q)).toNatClampNeg)
    refine cr_top ek.symm ?_
    have back : ∀ (M : cl_M) (H : Heap) (locs : List Loc) (ls : Array Slot), cx_R (8200 * (q + 1) + 8200) M → cl_H dd b M s H locs → lv_has ls 9 (lb_l scr b (6 * q)) → W p l e room_1 s m args below meth c H locs ((248 + 10 * q) + 10) ((6000 + 60 * q) + 60) Q (F0 m 3095 ls []) := by
      intro M H locs ls R1 hw hl
      refine lv_iinc (v := nI (6 * (q + 1))) (lv' := lb_l scr b (6 * (q + 1))) hx hb dL_law_3095 hl (k := 0) rfl (show nI (6 * q) + nI 6 = nI (6 * (q + 1)) from nI_add (6 * q) 6) (by decide) rfl (fun ls hl => ?_)
      refine lv_goto (tgt := 23) hx hb dL_law_3098 (by decide) ?_
      refine W.widen (k := 248 + 10 * (q + 1)) (n := 6000 + 60 * (q + 1)) (by omega) (by omega) ?_
      exact ih (q + 1) (by omega) M H locs ls (cx_R_le R1 (by omega)) hw hl
    rcases (show k = 0 ∨ k = 1 ∨ k = 2 ∨ k = 3 ∨ k = 4 ∨ k = 5 ∨ k = 6 ∨ k = 7 ∨ k = 8 ∨ k = 9 ∨ k = 10 ∨ k = 11 ∨ k = 12 ∨ k = 13 ∨ k = 14 ∨ k = 15 ∨ k = 16 ∨ k = 17 ∨ k = 18 ∨ k = 19 ∨ k = 20 ∨ k = 21 ∨ k = 22 ∨ k = 23 ∨ k = 24 ∨ k = 25 ∨ k = 26 ∨ k = 27 ∨ k = 28 ∨ k = 29 ∨ k = 30 ∨ k = 31 ∨ k = 32 ∨ k = 33 ∨ k = 34 ∨ k = 35 ∨ k = 36 ∨ k = 37 ∨ k = 38 ∨ k = 39 ∨ k = 40 ∨ k = 41 ∨ k = 42 ∨ k = 43 ∨ k = 44 ∨ k = 45 ∨ k = 46 ∨ k = 47 ∨ k = 48 ∨ k = 49 ∨ k = 50 ∨ k = 51 ∨ k = 52 ∨ k = 53 ∨ k = 54 ∨ k = 55 ∨ k = 56 ∨ k = 57 ∨ k = 58 ∨ k = 59 ∨ k = 60 ∨ k = 61 ∨ k = 62 ∨ k = 63 by omega) with rfl | rfl | rfl | rfl | rfl | rfl | rfl | rfl | rfl | rfl | rfl | rfl | rfl | rfl | rfl | rfl | rfl | rfl | rfl | rfl | rfl | rfl | rfl | rfl | rfl | rfl | rfl | rfl | rfl | rfl | rfl | rfl | rfl | rfl | rfl | rfl | rfl | rfl | rfl | rfl | rfl | rfl | rfl | rfl | rfl | rfl | rfl | rfl | rfl | rfl | rfl | rfl | rfl | rfl | rfl | rfl | rfl | rfl | rfl | rfl | rfl | rfl | rfl | rfl
    · refine lv_tableIn (off := 272) (tgt := 312) hx hb dL_law_40 (by decide) (by decide) (by decide) (by decide) ?_
      exact lb_0 V0 hi hL R0 hB hcs back hw hl
    · refine lv_tableIn (off := 345) (tgt := 385) hx hb dL_law_40 (by decide) (by decide) (by decide) (by decide) ?_
      exact lb_1 V0 hi hL R0 hB hcs back hw hl
    · refine lv_tableIn (off := 358) (tgt := 398) hx hb dL_law_40 (by decide) (by decide) (by decide) (by decide) ?_
      exact lb_2 V0 hi hL R0 hB hcs back hw hl
    · refine lv_tableIn (off := 371) (tgt := 411) hx hb dL_law_40 (by decide) (by decide) (by decide) (by decide) ?_
      exact lb_3 V0 hi hL R0 hB hcs back hw hl
    · refine lv_tableIn (off := 384) (tgt := 424) hx hb dL_law_40 (by decide) (by decide) (by decide) (by decide) ?_
      exact lb_4 V0 hi hL R0 hB hcs back hw hl
    · refine lv_tableIn (off := 397) (tgt := 437) hx hb dL_law_40 (by decide) (by decide) (by decide) (by decide) ?_
      exact lb_5 V0 hi hL R0 hB hcs back hw hl
    · refine lv_tableIn (off := 410) (tgt := 450) hx hb dL_law_40 (by decide) (by decide) (by decide) (by decide) ?_
      exact lb_6 V0 hi hL R0 hB hcs back hw hl
    · refine lv_tableIn (off := 423) (tgt := 463) hx hb dL_law_40 (by decide) (by decide) (by decide) (by decide) ?_
      exact lb_7 V0 hi hL R0 hB hcs back hw hl
    · refine lv_tableIn (off := 436) (tgt := 476) hx hb dL_law_40 (by decide) (by decide) (by decide) (by decide) ?_
      exact lb_8 V0 hi hL R0 hB hcs back hw hl
    · refine lv_tableIn (off := 492) (tgt := 532) hx hb dL_law_40 (by decide) (by decide) (by decide) (by decide) ?_
      exact lb_9 V0 hi hL R0 hB hcs back hw hl
    · refine lv_tableIn (off := 548) (tgt := 588) hx hb dL_law_40 (by decide) (by decide) (by decide) (by decide) ?_
      exact lb_10 V0 hi hL R0 hB hcs back hw hl
    · refine lv_tableIn (off := 604) (tgt := 644) hx hb dL_law_40 (by decide) (by decide) (by decide) (by decide) ?_
      exact lb_11 V0 hi hL R0 hB hcs back hw hl
    · refine lv_tableIn (off := 660) (tgt := 700) hx hb dL_law_40 (by decide) (by decide) (by decide) (by decide) ?_
      exact lb_12 V0 hi hL R0 hB hcs back hw hl
    · refine lv_tableIn (off := 673) (tgt := 713) hx hb dL_law_40 (by decide) (by decide) (by decide) (by decide) ?_
      exact lb_13 V0 hi hL R0 hB hcs back hw hl
    · refine lv_tableIn (off := 686) (tgt := 726) hx hb dL_law_40 (by decide) (by decide) (by decide) (by decide) ?_
      exact lb_14 V0 hi hL R0 hB hcs back hw hl
    · refine lv_tableIn (off := 699) (tgt := 739) hx hb dL_law_40 (by decide) (by decide) (by decide) (by decide) ?_
      exact lb_15 V0 hi hL R0 hB hcs back hw hl
    · refine lv_tableIn (off := 712) (tgt := 752) hx hb dL_law_40 (by decide) (by decide) (by decide) (by decide) ?_
      exact lb_16 V0 hi hL R0 hB hcs back hw hl
    · refine lv_tableIn (off := 725) (tgt := 765) hx hb dL_law_40 (by decide) (by decide) (by decide) (by decide) ?_
      exact lb_17 V0 hi hL R0 hB hcs back hw hl
    · refine lv_tableIn (off := 781) (tgt := 821) hx hb dL_law_40 (by decide) (by decide) (by decide) (by decide) ?_
      exact lb_18 V0 hi hL R0 hB hcs back hw hl
    · refine lv_tableIn (off := 806) (tgt := 846) hx hb dL_law_40 (by decide) (by decide) (by decide) (by decide) ?_
      exact lb_19 V0 hi hL R0 hB hcs back hw hl
    · refine lv_tableIn (off := 819) (tgt := 859) hx hb dL_law_40 (by decide) (by decide) (by decide) (by decide) ?_
      exact lb_20 V0 hi hL R0 hB hcs back hw hl
    · refine lv_tableIn (off := 875) (tgt := 915) hx hb dL_law_40 (by decide) (by decide) (by decide) (by decide) ?_
      exact lb_21 V0 hi hL R0 hB hcs back hw hl
    · refine lv_tableIn (off := 931) (tgt := 971) hx hb dL_law_40 (by decide) (by decide) (by decide) (by decide) ?_
      exact lb_22 V0 hi hL R0 hB hcs back hw hl
    · refine lv_tableIn (off := 987) (tgt := 1027) hx hb dL_law_40 (by decide) (by decide) (by decide) (by decide) ?_
      exact lb_23 V0 hi hL R0 hB hcs back hw hl
    · refine lv_tableIn (off := 1043) (tgt := 1083) hx hb dL_law_40 (by decide) (by decide) (by decide) (by decide) ?_
      exact lb_24 V0 hi hL R0 hB hcs back hw hl
    · refine lv_tableIn (off := 1099) (tgt := 1139) hx hb dL_law_40 (by decide) (by decide) (by decide) (by decide) ?_
      exact lb_25 V0 hi hL R0 hB hcs back hw hl
    · refine lv_tableIn (off := 1155) (tgt := 1195) hx hb dL_law_40 (by decide) (by decide) (by decide) (by decide) ?_
      exact lb_26 V0 hi hL R0 hB hcs back hw hl
    · refine lv_tableIn (off := 1211) (tgt := 1251) hx hb dL_law_40 (by decide) (by decide) (by decide) (by decide) ?_
      exact lb_27 V0 hi hL R0 hB hcs back hw hl
    · refine lv_tableIn (off := 1267) (tgt := 1307) hx hb dL_law_40 (by decide) (by decide) (by decide) (by decide) ?_
      exact lb_28 V0 hi hL R0 hB hcs back hw hl
    · refine lv_tableIn (off := 1323) (tgt := 1363) hx hb dL_law_40 (by decide) (by decide) (by decide) (by decide) ?_
      exact lb_29 V0 hi hL R0 hB hcs back hw hl
    · refine lv_tableIn (off := 1379) (tgt := 1419) hx hb dL_law_40 (by decide) (by decide) (by decide) (by decide) ?_
      exact lb_30 V0 hi hL R0 hB hcs back hw hl
    · refine lv_tableIn (off := 1435) (tgt := 1475) hx hb dL_law_40 (by decide) (by decide) (by decide) (by decide) ?_
      exact lb_31 V0 hi hL R0 hB hcs back hw hl
    · refine lv_tableIn (off := 1491) (tgt := 1531) hx hb dL_law_40 (by decide) (by decide) (by decide) (by decide) ?_
      exact lb_32 V0 hi hL R0 hB hcs back hw hl
    · refine lv_tableIn (off := 1554) (tgt := 1594) hx hb dL_law_40 (by decide) (by decide) (by decide) (by decide) ?_
      exact lb_33 V0 hi hL R0 hB hcs back hw hl
    · refine lv_tableIn (off := 1610) (tgt := 1650) hx hb dL_law_40 (by decide) (by decide) (by decide) (by decide) ?_
      exact lb_34 V0 hi hL R0 hB hcs back hw hl
    · refine lv_tableIn (off := 1623) (tgt := 1663) hx hb dL_law_40 (by decide) (by decide) (by decide) (by decide) ?_
      exact lb_35 V0 hi hL R0 hB hcs back hw hl
    · refine lv_tableIn (off := 1715) (tgt := 1755) hx hb dL_law_40 (by decide) (by decide) (by decide) (by decide) ?_
      exact lb_36 V0 hi hL R0 hB hcs back hw hl
    · refine lv_tableIn (off := 1771) (tgt := 1811) hx hb dL_law_40 (by decide) (by decide) (by decide) (by decide) ?_
      exact lb_37 V0 hi hL R0 hB hcs back hw hl
    · refine lv_tableIn (off := 1784) (tgt := 1824) hx hb dL_law_40 (by decide) (by decide) (by decide) (by decide) ?_
      exact lb_38 V0 hi hL R0 hB hcs back hw hl
    · refine lv_tableIn (off := 1797) (tgt := 1837) hx hb dL_law_40 (by decide) (by decide) (by decide) (by decide) ?_
      exact lb_39 V0 hi hL R0 hB hcs back hw hl
    · refine lv_tableIn (off := 1810) (tgt := 1850) hx hb dL_law_40 (by decide) (by decide) (by decide) (by decide) ?_
      exact lb_40 V0 hi hL R0 hB hcs back hw hl
    · refine lv_tableIn (off := 1823) (tgt := 1863) hx hb dL_law_40 (by decide) (by decide) (by decide) (by decide) ?_
      exact lb_41 V0 hi hL R0 hB hcs back hw hl
    · refine lv_tableIn (off := 1836) (tgt := 1876) hx hb dL_law_40 (by decide) (by decide) (by decide) (by decide) ?_
      exact lb_42 V0 hi hL R0 hB hcs back hw hl
    · refine lv_tableIn (off := 1877) (tgt := 1917) hx hb dL_law_40 (by decide) (by decide) (by decide) (by decide) ?_
      exact lb_43 V0 hi hL R0 hB hcs back hw hl
    · refine lv_tableIn (off := 1920) (tgt := 1960) hx hb dL_law_40 (by decide) (by decide) (by decide) (by decide) ?_
      exact lb_44 V0 hi hL R0 hB hcs back hw hl
    · refine lv_tableIn (off := 1988) (tgt := 2028) hx hb dL_law_40 (by decide) (by decide) (by decide) (by decide) ?_
      exact lb_45 V0 hi hL R0 hB hcs back hw hl
    · refine lv_tableIn (off := 2044) (tgt := 2084) hx hb dL_law_40 (by decide) (by decide) (by decide) (by decide) ?_
      exact lb_46 V0 hi hL R0 hB hcs back hw hl
    · refine lv_tableIn (off := 2100) (tgt := 2140) hx hb dL_law_40 (by decide) (by decide) (by decide) (by decide) ?_
      exact lb_47 V0 hi hL R0 hB hcs back hw hl
    · refine lv_tableIn (off := 2113) (tgt := 2153) hx hb dL_law_40 (by decide) (by decide) (by decide) (by decide) ?_
      exact lb_48 V0 hi hL R0 hB hcs back hw hl
    · refine lv_tableIn (off := 2169) (tgt := 2209) hx hb dL_law_40 (by decide) (by decide) (by decide) (by decide) ?_
      exact lb_49 V0 hi hL R0 hB hcs back hw hl
    · refine lv_tableIn (off := 2261) (tgt := 2301) hx hb dL_law_40 (by decide) (by decide) (by decide) (by decide) ?_
      exact lb_50 V0 hi hL R0 hB hcs back hw hl
    · refine lv_tableIn (off := 2353) (tgt := 2393) hx hb dL_law_40 (by decide) (by decide) (by decide) (by decide) ?_
      exact lb_51 V0 hi hL R0 hB hcs back hw hl
    · refine lv_tableIn (off := 2409) (tgt := 2449) hx hb dL_law_40 (by decide) (by decide) (by decide) (by decide) ?_
      exact lb_52 V0 hi hL R0 hB hcs back hw hl
    · refine lv_tableIn (off := 2465) (tgt := 2505) hx hb dL_law_40 (by decide) (by decide) (by decide) (by decide) ?_
      exact lb_53 V0 hi hL R0 hB hcs back hw hl
    · refine lv_tableIn (off := 2521) (tgt := 2561) hx hb dL_law_40 (by decide) (by decide) (by decide) (by decide) ?_
      exact lb_54 V0 hi hL R0 hB hcs back hw hl
    · refine lv_tableIn (off := 2589) (tgt := 2629) hx hb dL_law_40 (by decide) (by decide) (by decide) (by decide) ?_
      exact lb_55 V0 hi hL R0 hB hcs back hw hl
    · refine lv_tableIn (off := 2669) (tgt := 2709) hx hb dL_law_40 (by decide) (by decide) (by decide) (by decide) ?_
      exact lb_56 V0 hi hL R0 hB hcs back hw hl
    · refine lv_tableIn (off := 2737) (tgt := 2777) hx hb dL_law_40 (by decide) (by decide) (by decide) (by decide) ?_
      exact lb_57 V0 hi hL R0 hB hcs back hw hl
    · refine lv_tableIn (off := 2805) (tgt := 2845) hx hb dL_law_40 (by decide) (by decide) (by decide) (by decide) ?_
      exact lb_58 V0 hi hL R0 hB hcs back hw hl
    · refine lv_tableIn (off := 2861) (tgt := 2901) hx hb dL_law_40 (by decide) (by decide) (by decide) (by decide) ?_
      exact lb_59 V0 hi hL R0 hB hcs back hw hl
    · refine lv_tableIn (off := 2905) (tgt := 2945) hx hb dL_law_40 (by decide) (by decide) (by decide) (by decide) ?_
      exact lb_60 V0 hi hL R0 hB hcs back hw hl
    · refine lv_tableIn (off := 2961) (tgt := 3001) hx hb dL_law_40 (by decide) (by decide) (by decide) (by decide) ?_
      exact lb_61 V0 hi hL R0 hB hcs back hw hl
    · refine lv_tableIn (off := 3017) (tgt := 3057) hx hb dL_law_40 (by decide) (by decide) (by decide) (by decide) ?_
      exact lb_62 V0 hi hL R0 hB hcs back hw hl
    · refine lv_tableIn (off := 3030) (tgt := 3070) hx hb dL_law_40 (by decide) (by decide) (by decide) (by decide) ?_
      exact lb_63 V0 hi hL R0 hB hcs back hw hl
/-- the start of both sides -/
theorem lo_N {Ma M : cl_M} (h2 : ∀ j, j < cl_sl 22 → Ma 2 j = cl_ch 22 j) (hM : ∀ x, 237 ≤ x → M x = fi_M0 x) : lx_B (cl_sl 22) Ma (md_N M) ∧ md_N M 237 1 = nI (cl_sl 22) ∧ md_N M 237 18 = 0 ∧ (∀ x, x < 237 → md_N M x = M x) ∧ md_N M 247 = M 247 := by
  have e0 : cl_byt.getD 28 [] = cl_byt.getD 22 [] := by decide +kernel
  have e : cl_sl 28 = cl_sl 22 := by rw [cl_sl, cl_sl, e0]
  refine ⟨⟨Nat.le_trans fi_len.1 (by omega), fun j hj => ?_⟩, ?_, ?_, fun x hx => ?_, ?_⟩
  · rw [h2 j hj, md_N, cp_ms (by decide), md_t, cl_row_s, if_pos (by omega), cl_ch, cl_ch, e0]
  · rw [md_N, cl_ms, cl_row_s, pk_us, e]
  · rw [md_N, cl_ms, cl_row_s, pk_un (by decide), md_t, cl_row_n (by decide), hM 237 (by omega)]
    decide
  · rw [md_N, cp_ms (by omega), md_t, cl_row_n (by omega)]
  · rw [md_N, cp_ms (by decide), md_t, cl_row_n (by decide)]
theorem lo_start : ∃ Ma Mb Mc N1 v w, f_X3_appendText fi_M0 1 22 = some Ma ∧ f_X3_readHead Ma 1 4 = some (1, Mb) ∧ f_X3_readCommands Mb 1 4 = some (v, Mc) ∧ (∀ x, 237 ≤ x → (cl_ms Mc 1 1 0) x = fi_M0 x) ∧ f_X6_loadSetup (md_N (cl_ms Mc 1 1 0)) 237 = some (w, N1) ∧ N1 247 = (fun _ => 0) ∧ cx_R 8200 N1 := by
  obtain ⟨Ma, hA, m11, m2, mx, mk⟩ := fi_text (M := fi_M0) (by decide)
  obtain ⟨n1, n2, n3, n4, n5⟩ := lo_N (Ma := Ma) (M := fi_M0) m2 (fun _ _ => rfl)
  obtain ⟨Mb, Mc, N0, v, w0, f2, f3, _, mc, _, _⟩ := fi_start hA n1 n2 n3
  have hM : ∀ x, 237 ≤ x → (cl_ms Mc 1 1 0) x = fi_M0 x := fun x hx => by rw [cp_ms (by omega), mc x (by omega)]
  obtain ⟨p1, p2, p3, p4, p5⟩ := lo_N (Ma := Ma) (M := cl_ms Mc 1 1 0) m2 hM
  obtain ⟨Mb', Mc', N1, v', w, g2, g3, g4, _, nx, PP⟩ := fi_start hA p1 p2 p3
  have e1 : Mb' = Mb := by
    have := g2.symm.trans f2
    cases this
    rfl
  subst e1
  have e2 : Mc' = Mc := by
    have := g3.symm.trans f3
    cases this
    rfl
  subst e2
  have hx : ∀ x, x < 237 → N1 x = (cl_ms Mc' 1 1 0) x := fun x hx => by rw [nx x (Or.inl hx), p4 x hx]
  refine ⟨Ma, Mb', Mc', N1, v, w, hA, f2, f3, hM, g4, ?_, cx_RP (cx_P_f PP ⟨fun x _ h _ _ => hx x h, by rw [hx 1 (by decide)], by rw [hx 1 (by decide)], by rw [hx 1 (by decide)]⟩ cx_fN_0)⟩
  rw [nx 247 (Or.inr rfl), p5, hM 247 (by omega)]
  rfl
theorem lo_nc0 : ∀ i, i < 5 → ∀ j, j < 5 → i = 0 ∨ j = 0 ∨ i = j ∨ Cond.not (.castable (cl_exn i) (cl_exn j)) ∈ flatC (Jvm.Cond.and given_1 narrow_1) := by decide +kernel
theorem lo_nc {args : Array Value} {s : State} (h : (Jvm.Cond.and given_1 narrow_1).before args s = true) : lh_NC s := fun i j a b c d e => by
  rcases lo_nc0 i (by omega) j (by omega) with z | z | z | z
  · omega
  · omega
  · exact absurd z e
  · exact va_Nc.of (flat_of_before _ h _ z)
theorem lk_8 : Cond.classLink RL 8 RX5 ∈ cl_W := cl_W_in 109 (by decide +kernel) rfl
theorem lk_138 : Cond.classLink RL 138 RX6 ∈ cl_W := cl_W_in 1248 (by decide +kernel) rfl
theorem li_137 : Cond.methodLink RL 137 yX5_init ∈ cl_W := cl_W_in 111 (by decide +kernel) rfl
theorem li_140 : Cond.methodLink RL 140 yX6_init ∈ cl_W := cl_W_in 1250 (by decide +kernel) rfl
set_option maxHeartbeats 8000000 in
set_option maxRecDepth 100000 in
/-- from the law's entry to the head of its loop -/
theorem lo_enter {p : Program} {l : Launch} {e : Env} {s : State} {m : MethodId} {args : Array Value} {below : List Frame} {meth : Method} {c : Code} {Q : State → Prop} {g : va_G} {tA : Nat → ClassId} {tS tB : Nat → Nat} {b scr L : Nat} {xs : Nat → Int32} (hC : ∀ ph, cl_C p l s m args meth c cL_law RL 9 (some .boolean) (nw_dd g tA tS tB ph) b) (hN : lh_NC s) (hAO : nw_AO s) (hX : va_X scr L xs s s.heap) (hsb : scr < s.heap.size) (hbs : b = s.heap.size) (hL : L ≤ 3072) (done : ∀ (M : cl_M) (H : Heap) (locs : List Loc) (ls : Array Slot), cl_H (nw_dd g tA tS tB 2) b M s H locs → W p l e room_1 s m args below meth c H locs 601024 7293034 Q (F0 m 3101 ls [])) {ls : Array Slot} (hl : lv_has ls 9 [(0, .ref scr)]) : W p l e room_1 s m args below meth c s.heap [] 0 0 Q (F0 m 0 ls []) := by
  obtain ⟨Ma, Mb, Mc, N1, v, w, f1, f2, f3, hM, fL, n7, R0⟩ := lo_start
  have hx := (hC 0).1
  have hb := (hC 0).2.1
  have hlt := (hC 0).2.2.2.2.2.2.2.2.2.2
  have hw : nw_H (nw_dd g tA tS tB 0) b 0 (fun _ => .inr (5, nw_05)) s s.heap [] := ⟨fun k hk => absurd hk (by omega), va_S.rf⟩
  refine nw_new (hC 0) hw (by omega) (Or.inr rfl) (ci := 5) rfl cl_inW5 tyX5 tyX5_ok lk_8 is_X5 in_ClothesLine nw_d5 ⟨Nat.le_of_ble_eq_true rfl, Nat.le_of_ble_eq_true rfl⟩ dL_law_0 (fun H hw => ?_)
  refine lv_dup hx hb dL_law_3 rfl ?_
  have hw : nw_H (nw_dd g tA tS tB 0) b 1 (fun _ => .inr (5, nw_05)) s H [] := ⟨hw.1.to (fun k hk => by rw [show k = 0 by omega]; rfl), hw.2⟩
  refine nw_cG (hC 0) hAO hw (by omega) (by omega) (c_X5_init l hlt (nw_dd g tA tS tB 0) b nw_K0 f1 f2 f3) cy_X5_init rfl li_137 im_X5_init hl.1 ⟨⟨Nat.le_of_ble_eq_true rfl, Nat.le_of_ble_eq_true rfl⟩, Nat.le_of_ble_eq_true rfl, Nat.le_of_ble_eq_true rfl, Nat.le_of_ble_eq_true rfl⟩ dL_law_4 (fun t H locs ht hB hS => ?_)
  have hB : va_P (nw_dd g tA tS tB 0).1 cl_cls (cl_w (nw_dd g tA tS tB 0) b (cl_ms Mc 1 1 0)) t.heap := hB
  rw [ht] at hB
  have hw : nw_H (nw_dd g tA tS tB 1) b 237 (nw_X (nw_dd g tA tS tB 1) b (cl_ms Mc 1 1 0)) s H locs := ⟨nw_of_w (dd := nw_dd g tA tS tB 0) nw_K0 hB, hS⟩
  refine lv_astore_n (lv' := [(1, .ref b), (0, .ref scr)]) hx hb dL_law_7 rfl hl (by decide) rfl (fun ls hl => ?_)
  refine nw_new (hC 1) hw (by omega) (Or.inl (by omega)) (ci := 6) rfl cl_inW6 tyX6 tyX6_ok lk_138 is_X6 in_ClothesLineModel nw_d6 ⟨Nat.le_of_ble_eq_true rfl, Nat.le_of_ble_eq_true rfl⟩ dL_law_8 (fun H hw => ?_)
  refine lv_dup hx hb dL_law_11 rfl ?_
  have hw : nw_H (nw_dd g tA tS tB 1) b 238 (md_E (nw_dd g tA tS tB 1) b (cl_ms Mc 1 1 0)) s H locs := ⟨hw.1.to (fun k hk => rfl), hw.2⟩
  refine nw_cG (hC 1) hAO hw (by omega) (by omega) (c_X6_init l hlt (nw_dd g tA tS tB 1) b nw_K1 hM fL) cy_X6_init rfl li_140 im_X6_init hl.1 ⟨⟨Nat.le_of_ble_eq_true rfl, Nat.le_of_ble_eq_true rfl⟩, Nat.le_of_ble_eq_true rfl, Nat.le_of_ble_eq_true rfl, Nat.le_of_ble_eq_true rfl⟩ dL_law_12 (fun t H locs ht hB hS => ?_)
  have hB : va_P (nw_dd g tA tS tB 1).1 cl_cls (cl_w (nw_dd g tA tS tB 1) b N1) t.heap := hB
  rw [ht] at hB
  have hw : nw_H (nw_dd g tA tS tB 2) b 247 (nw_X (nw_dd g tA tS tB 2) b N1) s H locs := ⟨nw_of_w (dd := nw_dd g tA tS tB 1) nw_K1 hB, hS⟩
  refine lv_astore_n (lv' := [(2, .ref (b + 237)), (1, .ref b), (0, .ref scr)]) hx hb dL_law_15 rfl hl (by decide) rfl (fun ls hl => ?_)
  refine lv_iconst (v := 1) hx hb dL_law_16 (by decide) ?_
  refine nw_newl (hC 2) hw (by omega) (Or.inl (by omega)) ac_long (N := 1) (by decide) (by decide) (by decide) ⟨Nat.le_of_ble_eq_true rfl, Nat.le_of_ble_eq_true rfl⟩ dL_law_17 (fun H hw => ?_)
  have hw : cl_H (nw_dd g tA tS tB 2) b N1 s H locs := ⟨nw_to_w nw_K2 (hw.1.to (fun k hk => by
    by_cases q : k = 247
    · rw [q, nw_up_s]
      unfold nw_X
      rw [n7]
      rfl
    · rw [nw_up_n q])), hw.2⟩
  refine lv_astore_n (lv' := [(3, .ref (b + 247)), (2, .ref (b + 237)), (1, .ref b), (0, .ref scr)]) hx hb dL_law_19 rfl hl (by decide) rfl (fun ls hl => ?_)
  refine lv_iconst (v := 0) hx hb dL_law_20 (by decide) ?_
  refine lv_istore (lv' := [(4, .int 0), (3, .ref (b + 247)), (2, .ref (b + 237)), (1, .ref b), (0, .ref scr)]) hx hb dL_law_21 hl (by decide) rfl (fun ls hl => ?_)
  refine W.widen (k := 248 + 10 * 0) (n := 6000 + 60 * 0) (by omega) (by omega) ?_
  exact lo_loop ⟨hC 2, hN, nw_K2, hX, hsb, hbs⟩ hL done (L / 6) 0 (by omega) N1 H locs ls R0 hw (lv_sub hl [0, 4, 3, 2, 1] rfl)


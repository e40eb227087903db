/-! the cases without a helper -/
set_option maxHeartbeats 4000000 in
set_option maxRecDepth 100000 in
theorem lb_0 {p : Program} {l : Launch} {e : Env} {s : State} {m : MethodId} {args : Array Value} {below : List Frame} {meth : Method} {c : Code} {cells slots : Nat} {Q : State → Prop} {dd : cl_D} {b scr L : Nat} {xs : Nat → Int32} (V : lb_C p l s m args meth c dd b scr L xs) {B i : Nat} {M : cl_M} (hi : i + 6 ≤ L) (hL : L ≤ 3072) (R0 : cx_R B M) (hB : B + 8200 < 2 ^ 30) (hcs : cells + 10 ≤ 601024 ∧ slots + 60 ≤ 7293034) (back : ∀ (M : cl_M) (H : Heap) (locs : List Loc) (ls : Array Slot), cx_R (B + 8200) M → cl_H dd b M s H locs → lv_has ls 9 (lb_l scr b i) → W p l e room_1 s m args below meth c H locs (cells + 10) (slots + 60) Q (F0 m 3095 ls [])) {H : Heap} {locs : List Loc} {ls : Array Slot} (hw : cl_H dd b M s H locs) (hl : lv_has ls 9 (lb_l scr b i)) : W p l e room_1 s m args below meth c H locs cells slots Q (F0 m 312 ls []) := by
  have V0 := V
  obtain ⟨C, hN, hd, hX, hsb, hbs⟩ := V
  have hx := C.1
  have hb := C.2.1
  have hlt := C.2.2.2.2.2.2.2.2.2.2
  have s5 := cl_s00 hd
  have s6 := cl_s237 hd
  obtain ⟨v, M1, M2, e1, e2, e5⟩ := an_feed R0 (xs (i + 1)) (xs (i + 2)) (xs (i + 3)) (xs (i + 4)) (xs (i + 5))
  have e2 : f_X6_feed M1 237 (xs (i + 1)) (xs (i + 2)) (xs (i + 3)) (xs (i + 4)) (xs (i + 5)) = some (v, M2) := e2
  refine lv_aload_n hx hb dL_law_312 rfl (lv_at hl 2 rfl) ?_
  refine lb_arg V0 hw (lv_at hl 1 rfl) (lv_at hl 0 rfl) (j := 1) dL_law_313 dL_law_314 dL_law_316 dL_law_317 dL_law_318 rfl (by omega) hL ?_
  refine lb_arg V0 hw (lv_at hl 1 rfl) (lv_at hl 0 rfl) (j := 2) dL_law_319 dL_law_320 dL_law_322 dL_law_323 dL_law_324 rfl (by omega) hL ?_
  refine lb_arg V0 hw (lv_at hl 1 rfl) (lv_at hl 0 rfl) (j := 3) dL_law_325 dL_law_326 dL_law_328 dL_law_329 dL_law_330 rfl (by omega) hL ?_
  refine lb_arg V0 hw (lv_at hl 1 rfl) (lv_at hl 0 rfl) (j := 4) dL_law_331 dL_law_332 dL_law_334 dL_law_335 dL_law_336 rfl (by omega) hL ?_
  refine lb_arg V0 hw (lv_at hl 1 rfl) (lv_at hl 0 rfl) (j := 5) dL_law_337 dL_law_338 dL_law_340 dL_law_341 dL_law_342 rfl (by omega) hL ?_
  refine cr_Vi C hw (c_X5_feed hlt s5 e1) cy_X5_feed vy_X5_feed lo_141 (cl_lt s5 (by decide)) (cl_e5 s5) rfl rfl (As := [.int (xs (i + 1)), .int (xs (i + 2)), .int (xs (i + 3)), .int (xs (i + 4)), .int (xs (i + 5))]) rfl hl.1 rfl ⟨⟨Nat.le_of_ble_eq_true rfl, Nat.le_of_ble_eq_true rfl⟩, Nat.le_of_ble_eq_true rfl, by show cells ≤ 601024; omega, by show slots ≤ 7293034; omega⟩ dL_law_343 (fun H locs hw => ?_)
  refine lv_aload_n hx hb dL_law_346 rfl (lv_at hl 3 rfl) ?_
  refine lb_arg V0 hw (lv_at hl 1 rfl) (lv_at hl 0 rfl) (j := 1) dL_law_347 dL_law_348 dL_law_350 dL_law_351 dL_law_352 rfl (by omega) hL ?_
  refine lb_arg V0 hw (lv_at hl 1 rfl) (lv_at hl 0 rfl) (j := 2) dL_law_353 dL_law_354 dL_law_356 dL_law_357 dL_law_358 rfl (by omega) hL ?_
  refine lb_arg V0 hw (lv_at hl 1 rfl) (lv_at hl 0 rfl) (j := 3) dL_law_359 dL_law_360 dL_law_362 dL_law_363 dL_law_364 rfl (by omega) hL ?_
  refine lb_arg V0 hw (lv_at hl 1 rfl) (lv_at hl 0 rfl) (j := 4) dL_law_365 dL_law_366 dL_law_368 dL_law_369 dL_law_370 rfl (by omega) hL ?_
  refine lb_arg V0 hw (lv_at hl 1 rfl) (lv_at hl 0 rfl) (j := 5) dL_law_371 dL_law_372 dL_law_374 dL_law_375 dL_law_376 rfl (by omega) hL ?_
  refine cr_Vi C hw (c_X6_feed hlt s6 e2) cy_X6_feed vy_X6_feed lo_145 (cl_lt s6 (by decide)) (cl_e6 s6) rfl rfl (As := [.int (xs (i + 1)), .int (xs (i + 2)), .int (xs (i + 3)), .int (xs (i + 4)), .int (xs (i + 5))]) rfl hl.1 rfl ⟨⟨Nat.le_of_ble_eq_true rfl, Nat.le_of_ble_eq_true rfl⟩, Nat.le_of_ble_eq_true rfl, by show cells ≤ 601024; omega, by show slots ≤ 7293034; omega⟩ dL_law_377 (fun H locs hw => ?_)
  refine lv_icmp_eq (tgt := 3095) hx hb dL_law_380 (by decide) (fun _ => ?_) (fun c1 => absurd rfl c1)
  refine W.widen (k := cells + 10) (n := slots + 60) (by omega) (by omega) ?_
  exact back M2 H locs ls (cx_R_le e5 (by omega)) hw hl
set_option maxHeartbeats 4000000 in
set_option maxRecDepth 100000 in
theorem lb_1 {p : Program} {l : Launch} {e : Env} {s : State} {m : MethodId} {args : Array Value} {below : List Frame} {meth : Method} {c : Code} {cells slots : Nat} {Q : State → Prop} {dd : cl_D} {b scr L : Nat} {xs : Nat → Int32} (V : lb_C p l s m args meth c dd b scr L xs) {B i : Nat} {M : cl_M} (hi : i + 6 ≤ L) (hL : L ≤ 3072) (R0 : cx_R B M) (hB : B + 8200 < 2 ^ 30) (hcs : cells + 10 ≤ 601024 ∧ slots + 60 ≤ 7293034) (back : ∀ (M : cl_M) (H : Heap) (locs : List Loc) (ls : Array Slot), cx_R (B + 8200) M → cl_H dd b M s H locs → lv_has ls 9 (lb_l scr b i) → W p l e room_1 s m args below meth c H locs (cells + 10) (slots + 60) Q (F0 m 3095 ls [])) {H : Heap} {locs : List Loc} {ls : Array Slot} (hw : cl_H dd b M s H locs) (hl : lv_has ls 9 (lb_l scr b i)) : W p l e room_1 s m args below meth c H locs cells slots Q (F0 m 385 ls []) := by
  have V0 := V
  obtain ⟨C, hN, hd, hX, hsb, hbs⟩ := V
  have hx := C.1
  have hb := C.2.1
  have hlt := C.2.2.2.2.2.2.2.2.2.2
  have s5 := cl_s00 hd
  have s6 := cl_s237 hd
  obtain ⟨v, M1, M2, e1, e2, e5⟩ := an_loadSetup R0 (by omega)
  have e2 : f_X6_loadSetup M1 237 = some (v, M2) := e2
  refine lv_aload_n hx hb dL_law_385 rfl (lv_at hl 2 rfl) ?_
  refine cr_Vi C hw (c_X5_loadSetup hlt s5 e1) cy_X5_loadSetup vy_X5_loadSetup lo_146 (cl_lt s5 (by decide)) (cl_e5 s5) rfl rfl (As := []) rfl hl.1 rfl ⟨⟨Nat.le_of_ble_eq_true rfl, Nat.le_of_ble_eq_true rfl⟩, Nat.le_of_ble_eq_true rfl, by show cells ≤ 601024; omega, by show slots ≤ 7293034; omega⟩ dL_law_386 (fun H locs hw => ?_)
  refine lv_aload_n hx hb dL_law_389 rfl (lv_at hl 3 rfl) ?_
  refine cr_Vi C hw (c_X6_loadSetup hlt s6 e2) cy_X6_loadSetup vy_X6_loadSetup lo_149 (cl_lt s6 (by decide)) (cl_e6 s6) rfl rfl (As := []) rfl hl.1 rfl ⟨⟨Nat.le_of_ble_eq_true rfl, Nat.le_of_ble_eq_true rfl⟩, Nat.le_of_ble_eq_true rfl, by show cells ≤ 601024; omega, by show slots ≤ 7293034; omega⟩ dL_law_390 (fun H locs hw => ?_)
  refine lv_icmp_eq (tgt := 3095) hx hb dL_law_393 (by decide) (fun _ => ?_) (fun c1 => absurd rfl c1)
  refine W.widen (k := cells + 10) (n := slots + 60) (by omega) (by omega) ?_
  exact back M2 H locs ls (cx_R_le e5 (by omega)) hw hl
set_option maxHeartbeats 4000000 in
set_option maxRecDepth 100000 in
theorem lb_2 {p : Program} {l : Launch} {e : Env} {s : State} {m : MethodId} {args : Array Value} {below : List Frame} {meth : Method} {c : Code} {cells slots : Nat} {Q : State → Prop} {dd : cl_D} {b scr L : Nat} {xs : Nat → Int32} (V : lb_C p l s m args meth c dd b scr L xs) {B i : Nat} {M : cl_M} (hi : i + 6 ≤ L) (hL : L ≤ 3072) (R0 : cx_R B M) (hB : B + 8200 < 2 ^ 30) (hcs : cells + 10 ≤ 601024 ∧ slots + 60 ≤ 7293034) (back : ∀ (M : cl_M) (H : Heap) (locs : List Loc) (ls : Array Slot), cx_R (B + 8200) M → cl_H dd b M s H locs → lv_has ls 9 (lb_l scr b i) → W p l e room_1 s m args below meth c H locs (cells + 10) (slots + 60) Q (F0 m 3095 ls [])) {H : Heap} {locs : List Loc} {ls : Array Slot} (hw : cl_H dd b M s H locs) (hl : lv_has ls 9 (lb_l scr b i)) : W p l e room_1 s m args below meth c H locs cells slots Q (F0 m 398 ls []) := by
  have V0 := V
  obtain ⟨C, hN, hd, hX, hsb, hbs⟩ := V
  have hx := C.1
  have hb := C.2.1
  have hlt := C.2.2.2.2.2.2.2.2.2.2
  have s5 := cl_s00 hd
  have s6 := cl_s237 hd
  obtain ⟨v, M1, M2, e1, e2, e5⟩ := an_runScript R0 (by omega)
  have e2 : f_X6_runScript M1 237 = some (v, M2) := e2
  refine lv_aload_n hx hb dL_law_398 rfl (lv_at hl 2 rfl) ?_
  refine cr_Vi C hw (c_X5_runScript hlt s5 e1) cy_X5_runScript vy_X5_runScript lo_150 (cl_lt s5 (by decide)) (cl_e5 s5) rfl rfl (As := []) rfl hl.1 rfl ⟨⟨Nat.le_of_ble_eq_true rfl, Nat.le_of_ble_eq_true rfl⟩, Nat.le_of_ble_eq_true rfl, by show cells ≤ 601024; omega, by show slots ≤ 7293034; omega⟩ dL_law_399 (fun H locs hw => ?_)
  refine lv_aload_n hx hb dL_law_402 rfl (lv_at hl 3 rfl) ?_
  refine cr_Vi C hw (c_X6_runScript hlt s6 e2) cy_X6_runScript vy_X6_runScript lo_153 (cl_lt s6 (by decide)) (cl_e6 s6) rfl rfl (As := []) rfl hl.1 rfl ⟨⟨Nat.le_of_ble_eq_true rfl, Nat.le_of_ble_eq_true rfl⟩, Nat.le_of_ble_eq_true rfl, by show cells ≤ 601024; omega, by show slots ≤ 7293034; omega⟩ dL_law_403 (fun H locs hw => ?_)
  refine lv_icmp_eq (tgt := 3095) hx hb dL_law_406 (by decide) (fun _ => ?_) (fun c1 => absurd rfl c1)
  refine W.widen (k := cells + 10) (n := slots + 60) (by omega) (by omega) ?_
  exact back M2 H locs ls (cx_R_le e5 (by omega)) hw hl
set_option maxHeartbeats 4000000 in
set_option maxRecDepth 100000 in
theorem lb_3 {p : Program} {l : Launch} {e : Env} {s : State} {m : MethodId} {args : Array Value} {below : List Frame} {meth : Method} {c : Code} {cells slots : Nat} {Q : State → Prop} {dd : cl_D} {b scr L : Nat} {xs : Nat → Int32} (V : lb_C p l s m args meth c dd b scr L xs) {B i : Nat} {M : cl_M} (hi : i + 6 ≤ L) (hL : L ≤ 3072) (R0 : cx_R B M) (hB : B + 8200 < 2 ^ 30) (hcs : cells + 10 ≤ 601024 ∧ slots + 60 ≤ 7293034) (back : ∀ (M : cl_M) (H : Heap) (locs : List Loc) (ls : Array Slot), cx_R (B + 8200) M → cl_H dd b M s H locs → lv_has ls 9 (lb_l scr b i) → W p l e room_1 s m args below meth c H locs (cells + 10) (slots + 60) Q (F0 m 3095 ls [])) {H : Heap} {locs : List Loc} {ls : Array Slot} (hw : cl_H dd b M s H locs) (hl : lv_has ls 9 (lb_l scr b i)) : W p l e room_1 s m args below meth c H locs cells slots Q (F0 m 411 ls []) := by
  have V0 := V
  obtain ⟨C, hN, hd, hX, hsb, hbs⟩ := V
  have hx := C.1
  have hb := C.2.1
  have hlt := C.2.2.2.2.2.2.2.2.2.2
  have s5 := cl_s00 hd
  have s6 := cl_s237 hd
  obtain ⟨v, M2, e1, e2, e5⟩ := an_errorCode R0
  have e2 : f_X6_errorCode M 237 = some (v, M2) := e2
  refine lv_aload_n hx hb dL_law_411 rfl (lv_at hl 2 rfl) ?_
  refine cr_Vi C hw (c_X5_errorCode hlt s5 e1) cy_X5_errorCode vy_X5_errorCode lo_154 (cl_lt s5 (by decide)) (cl_e5 s5) rfl rfl (As := []) rfl hl.1 rfl ⟨⟨Nat.le_of_ble_eq_true rfl, Nat.le_of_ble_eq_true rfl⟩, Nat.le_of_ble_eq_true rfl, by show cells ≤ 601024; omega, by show slots ≤ 7293034; omega⟩ dL_law_412 (fun H locs hw => ?_)
  refine lv_aload_n hx hb dL_law_415 rfl (lv_at hl 3 rfl) ?_
  refine cr_Vi C hw (c_X6_errorCode hlt s6 e2) cy_X6_errorCode vy_X6_errorCode lo_157 (cl_lt s6 (by decide)) (cl_e6 s6) rfl rfl (As := []) rfl hl.1 rfl ⟨⟨Nat.le_of_ble_eq_true rfl, Nat.le_of_ble_eq_true rfl⟩, Nat.le_of_ble_eq_true rfl, by show cells ≤ 601024; omega, by show slots ≤ 7293034; omega⟩ dL_law_416 (fun H locs hw => ?_)
  refine lv_icmp_eq (tgt := 3095) hx hb dL_law_419 (by decide) (fun _ => ?_) (fun c1 => absurd rfl c1)
  refine W.widen (k := cells + 10) (n := slots + 60) (by omega) (by omega) ?_
  exact back M2 H locs ls (cx_R_le e5 (by omega)) hw hl
set_option maxHeartbeats 4000000 in
set_option maxRecDepth 100000 in
theorem lb_4 {p : Program} {l : Launch} {e : Env} {s : State} {m : MethodId} {args : Array Value} {below : List Frame} {meth : Method} {c : Code} {cells slots : Nat} {Q : State → Prop} {dd : cl_D} {b scr L : Nat} {xs : Nat → Int32} (V : lb_C p l s m args meth c dd b scr L xs) {B i : Nat} {M : cl_M} (hi : i + 6 ≤ L) (hL : L ≤ 3072) (R0 : cx_R B M) (hB : B + 8200 < 2 ^ 30) (hcs : cells + 10 ≤ 601024 ∧ slots + 60 ≤ 7293034) (back : ∀ (M : cl_M) (H : Heap) (locs : List Loc) (ls : Array Slot), cx_R (B + 8200) M → cl_H dd b M s H locs → lv_has ls 9 (lb_l scr b i) → W p l e room_1 s m args below meth c H locs (cells + 10) (slots + 60) Q (F0 m 3095 ls [])) {H : Heap} {locs : List Loc} {ls : Array Slot} (hw : cl_H dd b M s H locs) (hl : lv_has ls 9 (lb_l scr b i)) : W p l e room_1 s m args below meth c H locs cells slots Q (F0 m 424 ls []) := by
  have V0 := V
  obtain ⟨C, hN, hd, hX, hsb, hbs⟩ := V
  have hx := C.1
  have hb := C.2.1
  have hlt := C.2.2.2.2.2.2.2.2.2.2
  have s5 := cl_s00 hd
  have s6 := cl_s237 hd
  obtain ⟨v, M2, e1, e2, e5⟩ := an_errorPosition R0
  have e2 : f_X6_errorPosition M 237 = some (v, M2) := e2
  refine lv_aload_n hx hb dL_law_424 rfl (lv_at hl 2 rfl) ?_
  refine cr_Vi C hw (c_X5_errorPosition hlt s5 e1) cy_X5_errorPosition vy_X5_errorPosition lo_158 (cl_lt s5 (by decide)) (cl_e5 s5) rfl rfl (As := []) rfl hl.1 rfl ⟨⟨Nat.le_of_ble_eq_true rfl, Nat.le_of_ble_eq_true rfl⟩, Nat.le_of_ble_eq_true rfl, by show cells ≤ 601024; omega, by show slots ≤ 7293034; omega⟩ dL_law_425 (fun H locs hw => ?_)
  refine lv_aload_n hx hb dL_law_428 rfl (lv_at hl 3 rfl) ?_
  refine cr_Vi C hw (c_X6_errorPosition hlt s6 e2) cy_X6_errorPosition vy_X6_errorPosition lo_161 (cl_lt s6 (by decide)) (cl_e6 s6) rfl rfl (As := []) rfl hl.1 rfl ⟨⟨Nat.le_of_ble_eq_true rfl, Nat.le_of_ble_eq_true rfl⟩, Nat.le_of_ble_eq_true rfl, by show cells ≤ 601024; omega, by show slots ≤ 7293034; omega⟩ dL_law_429 (fun H locs hw => ?_)
  refine lv_icmp_eq (tgt := 3095) hx hb dL_law_432 (by decide) (fun _ => ?_) (fun c1 => absurd rfl c1)
  refine W.widen (k := cells + 10) (n := slots + 60) (by omega) (by omega) ?_
  exact back M2 H locs ls (cx_R_le e5 (by omega)) hw hl
set_option maxHeartbeats 4000000 in
set_option maxRecDepth 100000 in
theorem lb_5 {p : Program} {l : Launch} {e : Env} {s : State} {m : MethodId} {args : Array Value} {below : List Frame} {meth : Method} {c : Code} {cells slots : Nat} {Q : State → Prop} {dd : cl_D} {b scr L : Nat} {xs : Nat → Int32} (V : lb_C p l s m args meth c dd b scr L xs) {B i : Nat} {M : cl_M} (hi : i + 6 ≤ L) (hL : L ≤ 3072) (R0 : cx_R B M) (hB : B + 8200 < 2 ^ 30) (hcs : cells + 10 ≤ 601024 ∧ slots + 60 ≤ 7293034) (back : ∀ (M : cl_M) (H : Heap) (locs : List Loc) (ls : Array Slot), cx_R (B + 8200) M → cl_H dd b M s H locs → lv_has ls 9 (lb_l scr b i) → W p l e room_1 s m args below meth c H locs (cells + 10) (slots + 60) Q (F0 m 3095 ls [])) {H : Heap} {locs : List Loc} {ls : Array Slot} (hw : cl_H dd b M s H locs) (hl : lv_has ls 9 (lb_l scr b i)) : W p l e room_1 s m args below meth c H locs cells slots Q (F0 m 437 ls []) := by
  have V0 := V
  obtain ⟨C, hN, hd, hX, hsb, hbs⟩ := V
  have hx := C.1
  have hb := C.2.1
  have hlt := C.2.2.2.2.2.2.2.2.2.2
  have s5 := cl_s00 hd
  have s6 := cl_s237 hd
  obtain ⟨v, M2, e1, e2, e5⟩ := an_minute R0
  have e2 : f_X6_minute M 237 = some (v, M2) := e2
  refine lv_aload_n hx hb dL_law_437 rfl (lv_at hl 2 rfl) ?_
  refine cr_Vi C hw (c_X5_minute hlt s5 e1) cy_X5_minute vy_X5_minute lo_162 (cl_lt s5 (by decide)) (cl_e5 s5) rfl rfl (As := []) rfl hl.1 rfl ⟨⟨Nat.le_of_ble_eq_true rfl, Nat.le_of_ble_eq_true rfl⟩, Nat.le_of_ble_eq_true rfl, by show cells ≤ 601024; omega, by show slots ≤ 7293034; omega⟩ dL_law_438 (fun H locs hw => ?_)
  refine lv_aload_n hx hb dL_law_441 rfl (lv_at hl 3 rfl) ?_
  refine cr_Vi C hw (c_X6_minute hlt s6 e2) cy_X6_minute vy_X6_minute lo_165 (cl_lt s6 (by decide)) (cl_e6 s6) rfl rfl (As := []) rfl hl.1 rfl ⟨⟨Nat.le_of_ble_eq_true rfl, Nat.le_of_ble_eq_true rfl⟩, Nat.le_of_ble_eq_true rfl, by show cells ≤ 601024; omega, by show slots ≤ 7293034; omega⟩ dL_law_442 (fun H locs hw => ?_)
  refine lv_icmp_eq (tgt := 3095) hx hb dL_law_445 (by decide) (fun _ => ?_) (fun c1 => absurd rfl c1)
  refine W.widen (k := cells + 10) (n := slots + 60) (by omega) (by omega) ?_
  exact back M2 H locs ls (cx_R_le e5 (by omega)) hw hl
set_option maxHeartbeats 4000000 in
set_option maxRecDepth 100000 in
theorem lb_6 {p : Program} {l : Launch} {e : Env} {s : State} {m : MethodId} {args : Array Value} {below : List Frame} {meth : Method} {c : Code} {cells slots : Nat} {Q : State → Prop} {dd : cl_D} {b scr L : Nat} {xs : Nat → Int32} (V : lb_C p l s m args meth c dd b scr L xs) {B i : Nat} {M : cl_M} (hi : i + 6 ≤ L) (hL : L ≤ 3072) (R0 : cx_R B M) (hB : B + 8200 < 2 ^ 30) (hcs : cells + 10 ≤ 601024 ∧ slots + 60 ≤ 7293034) (back : ∀ (M : cl_M) (H : Heap) (locs : List Loc) (ls : Array Slot), cx_R (B + 8200) M → cl_H dd b M s H locs → lv_has ls 9 (lb_l scr b i) → W p l e room_1 s m args below meth c H locs (cells + 10) (slots + 60) Q (F0 m 3095 ls [])) {H : Heap} {locs : List Loc} {ls : Array Slot} (hw : cl_H dd b M s H locs) (hl : lv_has ls 9 (lb_l scr b i)) : W p l e room_1 s m args below meth c H locs cells slots Q (F0 m 450 ls []) := by
  have V0 := V
  obtain ⟨C, hN, hd, hX, hsb, hbs⟩ := V
  have hx := C.1
  have hb := C.2.1
  have hlt := C.2.2.2.2.2.2.2.2.2.2
  have s5 := cl_s00 hd
  have s6 := cl_s237 hd
  obtain ⟨v, M2, e1, e2, e5⟩ := an_shadowWidth R0
  have e2 : f_X6_shadowWidth M 237 = some (v, M2) := e2
  refine lv_aload_n hx hb dL_law_450 rfl (lv_at hl 2 rfl) ?_
  refine cr_Vi C hw (c_X5_shadowWidth hlt s5 e1) cy_X5_shadowWidth vy_X5_shadowWidth lo_166 (cl_lt s5 (by decide)) (cl_e5 s5) rfl rfl (As := []) rfl hl.1 rfl ⟨⟨Nat.le_of_ble_eq_true rfl, Nat.le_of_ble_eq_true rfl⟩, Nat.le_of_ble_eq_true rfl, by show cells ≤ 601024; omega, by show slots ≤ 7293034; omega⟩ dL_law_451 (fun H locs hw => ?_)
  refine lv_aload_n hx hb dL_law_454 rfl (lv_at hl 3 rfl) ?_
  refine cr_Vi C hw (c_X6_shadowWidth hlt s6 e2) cy_X6_shadowWidth vy_X6_shadowWidth lo_169 (cl_lt s6 (by decide)) (cl_e6 s6) rfl rfl (As := []) rfl hl.1 rfl ⟨⟨Nat.le_of_ble_eq_true rfl, Nat.le_of_ble_eq_true rfl⟩, Nat.le_of_ble_eq_true rfl, by show cells ≤ 601024; omega, by show slots ≤ 7293034; omega⟩ dL_law_455 (fun H locs hw => ?_)
  refine lv_icmp_eq (tgt := 3095) hx hb dL_law_458 (by decide) (fun _ => ?_) (fun c1 => absurd rfl c1)
  refine W.widen (k := cells + 10) (n := slots + 60) (by omega) (by omega) ?_
  exact back M2 H locs ls (cx_R_le e5 (by omega)) hw hl
set_option maxHeartbeats 4000000 in
set_option maxRecDepth 100000 in
theorem lb_7 {p : Program} {l : Launch} {e : Env} {s : State} {m : MethodId} {args : Array Value} {below : List Frame} {meth : Method} {c : Code} {cells slots : Nat} {Q : State → Prop} {dd : cl_D} {b scr L : Nat} {xs : Nat → Int32} (V : lb_C p l s m args meth c dd b scr L xs) {B i : Nat} {M : cl_M} (hi : i + 6 ≤ L) (hL : L ≤ 3072) (R0 : cx_R B M) (hB : B + 8200 < 2 ^ 30) (hcs : cells + 10 ≤ 601024 ∧ slots + 60 ≤ 7293034) (back : ∀ (M : cl_M) (H : Heap) (locs : List Loc) (ls : Array Slot), cx_R (B + 8200) M → cl_H dd b M s H locs → lv_has ls 9 (lb_l scr b i) → W p l e room_1 s m args below meth c H locs (cells + 10) (slots + 60) Q (F0 m 3095 ls [])) {H : Heap} {locs : List Loc} {ls : Array Slot} (hw : cl_H dd b M s H locs) (hl : lv_has ls 9 (lb_l scr b i)) : W p l e room_1 s m args below meth c H locs cells slots Q (F0 m 463 ls []) := by
  have V0 := V
  obtain ⟨C, hN, hd, hX, hsb, hbs⟩ := V
  have hx := C.1
  have hb := C.2.1
  have hlt := C.2.2.2.2.2.2.2.2.2.2
  have s5 := cl_s00 hd
  have s6 := cl_s237 hd
  obtain ⟨v, M2, e1, e2, e5⟩ := an_undoCount R0
  have e2 : f_X6_undoCount M 237 = some (v, M2) := e2
  refine lv_aload_n hx hb dL_law_463 rfl (lv_at hl 2 rfl) ?_
  refine cr_Vi C hw (c_X5_undoCount hlt s5 e1) cy_X5_undoCount vy_X5_undoCount lo_170 (cl_lt s5 (by decide)) (cl_e5 s5) rfl rfl (As := []) rfl hl.1 rfl ⟨⟨Nat.le_of_ble_eq_true rfl, Nat.le_of_ble_eq_true rfl⟩, Nat.le_of_ble_eq_true rfl, by show cells ≤ 601024; omega, by show slots ≤ 7293034; omega⟩ dL_law_464 (fun H locs hw => ?_)
  refine lv_aload_n hx hb dL_law_467 rfl (lv_at hl 3 rfl) ?_
  refine cr_Vi C hw (c_X6_undoCount hlt s6 e2) cy_X6_undoCount vy_X6_undoCount lo_173 (cl_lt s6 (by decide)) (cl_e6 s6) rfl rfl (As := []) rfl hl.1 rfl ⟨⟨Nat.le_of_ble_eq_true rfl, Nat.le_of_ble_eq_true rfl⟩, Nat.le_of_ble_eq_true rfl, by show cells ≤ 601024; omega, by show slots ≤ 7293034; omega⟩ dL_law_468 (fun H locs hw => ?_)
  refine lv_icmp_eq (tgt := 3095) hx hb dL_law_471 (by decide) (fun _ => ?_) (fun c1 => absurd rfl c1)
  refine W.widen (k := cells + 10) (n := slots + 60) (by omega) (by omega) ?_
  exact back M2 H locs ls (cx_R_le e5 (by omega)) hw hl
set_option maxHeartbeats 4000000 in
set_option maxRecDepth 100000 in
theorem lb_12 {p : Program} {l : Launch} {e : Env} {s : State} {m : MethodId} {args : Array Value} {below : List Frame} {meth : Method} {c : Code} {cells slots : Nat} {Q : State → Prop} {dd : cl_D} {b scr L : Nat} {xs : Nat → Int32} (V : lb_C p l s m args meth c dd b scr L xs) {B i : Nat} {M : cl_M} (hi : i + 6 ≤ L) (hL : L ≤ 3072) (R0 : cx_R B M) (hB : B + 8200 < 2 ^ 30) (hcs : cells + 10 ≤ 601024 ∧ slots + 60 ≤ 7293034) (back : ∀ (M : cl_M) (H : Heap) (locs : List Loc) (ls : Array Slot), cx_R (B + 8200) M → cl_H dd b M s H locs → lv_has ls 9 (lb_l scr b i) → W p l e room_1 s m args below meth c H locs (cells + 10) (slots + 60) Q (F0 m 3095 ls [])) {H : Heap} {locs : List Loc} {ls : Array Slot} (hw : cl_H dd b M s H locs) (hl : lv_has ls 9 (lb_l scr b i)) : W p l e room_1 s m args below meth c H locs cells slots Q (F0 m 700 ls []) := by
  have V0 := V
  obtain ⟨C, hN, hd, hX, hsb, hbs⟩ := V
  have hx := C.1
  have hb := C.2.1
  have hlt := C.2.2.2.2.2.2.2.2.2.2
  have s5 := cl_s00 hd
  have s6 := cl_s237 hd
  obtain ⟨v, M2, e1, e2, e5⟩ := an_minutesToRain R0 (by omega)
  have e2 : f_X6_minutesToRain M 237 = some (v, M2) := e2
  refine lv_aload_n hx hb dL_law_700 rfl (lv_at hl 2 rfl) ?_
  refine cr_Vi C hw (c_X5_minutesToRain hlt s5 e1) cy_X5_minutesToRain vy_X5_minutesToRain lo_192 (cl_lt s5 (by decide)) (cl_e5 s5) rfl rfl (As := []) rfl hl.1 rfl ⟨⟨Nat.le_of_ble_eq_true rfl, Nat.le_of_ble_eq_true rfl⟩, Nat.le_of_ble_eq_true rfl, by show cells ≤ 601024; omega, by show slots ≤ 7293034; omega⟩ dL_law_701 (fun H locs hw => ?_)
  refine lv_aload_n hx hb dL_law_704 rfl (lv_at hl 3 rfl) ?_
  refine cr_Vi C hw (c_X6_minutesToRain hlt s6 e2) cy_X6_minutesToRain vy_X6_minutesToRain lo_195 (cl_lt s6 (by decide)) (cl_e6 s6) rfl rfl (As := []) rfl hl.1 rfl ⟨⟨Nat.le_of_ble_eq_true rfl, Nat.le_of_ble_eq_true rfl⟩, Nat.le_of_ble_eq_true rfl, by show cells ≤ 601024; omega, by show slots ≤ 7293034; omega⟩ dL_law_705 (fun H locs hw => ?_)
  refine lv_icmp_eq (tgt := 3095) hx hb dL_law_708 (by decide) (fun _ => ?_) (fun c1 => absurd rfl c1)
  refine W.widen (k := cells + 10) (n := slots + 60) (by omega) (by omega) ?_
  exact back M2 H locs ls (cx_R_le e5 (by omega)) hw hl
set_option maxHeartbeats 4000000 in
set_option maxRecDepth 100000 in
theorem lb_13 {p : Program} {l : Launch} {e : Env} {s : State} {m : MethodId} {args : Array Value} {below : List Frame} {meth : Method} {c : Code} {cells slots : Nat} {Q : State → Prop} {dd : cl_D} {b scr L : Nat} {xs : Nat → Int32} (V : lb_C p l s m args meth c dd b scr L xs) {B i : Nat} {M : cl_M} (hi : i + 6 ≤ L) (hL : L ≤ 3072) (R0 : cx_R B M) (hB : B + 8200 < 2 ^ 30) (hcs : cells + 10 ≤ 601024 ∧ slots + 60 ≤ 7293034) (back : ∀ (M : cl_M) (H : Heap) (locs : List Loc) (ls : Array Slot), cx_R (B + 8200) M → cl_H dd b M s H locs → lv_has ls 9 (lb_l scr b i) → W p l e room_1 s m args below meth c H locs (cells + 10) (slots + 60) Q (F0 m 3095 ls [])) {H : Heap} {locs : List Loc} {ls : Array Slot} (hw : cl_H dd b M s H locs) (hl : lv_has ls 9 (lb_l scr b i)) : W p l e room_1 s m args below meth c H locs cells slots Q (F0 m 713 ls []) := by
  have V0 := V
  obtain ⟨C, hN, hd, hX, hsb, hbs⟩ := V
  have hx := C.1
  have hb := C.2.1
  have hlt := C.2.2.2.2.2.2.2.2.2.2
  have s5 := cl_s00 hd
  have s6 := cl_s237 hd
  obtain ⟨v, M2, e1, e2, e5⟩ := an_woodenLeft R0
  have e2 : f_X6_woodenLeft M 237 = some (v, M2) := e2
  refine lv_aload_n hx hb dL_law_713 rfl (lv_at hl 2 rfl) ?_
  refine cr_Vi C hw (c_X5_woodenLeft hlt s5 e1) cy_X5_woodenLeft vy_X5_woodenLeft lo_196 (cl_lt s5 (by decide)) (cl_e5 s5) rfl rfl (As := []) rfl hl.1 rfl ⟨⟨Nat.le_of_ble_eq_true rfl, Nat.le_of_ble_eq_true rfl⟩, Nat.le_of_ble_eq_true rfl, by show cells ≤ 601024; omega, by show slots ≤ 7293034; omega⟩ dL_law_714 (fun H locs hw => ?_)
  refine lv_aload_n hx hb dL_law_717 rfl (lv_at hl 3 rfl) ?_
  refine cr_Vi C hw (c_X6_woodenLeft hlt s6 e2) cy_X6_woodenLeft vy_X6_woodenLeft lo_199 (cl_lt s6 (by decide)) (cl_e6 s6) rfl rfl (As := []) rfl hl.1 rfl ⟨⟨Nat.le_of_ble_eq_true rfl, Nat.le_of_ble_eq_true rfl⟩, Nat.le_of_ble_eq_true rfl, by show cells ≤ 601024; omega, by show slots ≤ 7293034; omega⟩ dL_law_718 (fun H locs hw => ?_)
  refine lv_icmp_eq (tgt := 3095) hx hb dL_law_721 (by decide) (fun _ => ?_) (fun c1 => absurd rfl c1)
  refine W.widen (k := cells + 10) (n := slots + 60) (by omega) (by omega) ?_
  exact back M2 H locs ls (cx_R_le e5 (by omega)) hw hl
set_option maxHeartbeats 4000000 in
set_option maxRecDepth 100000 in
theorem lb_14 {p : Program} {l : Launch} {e : Env} {s : State} {m : MethodId} {args : Array Value} {below : List Frame} {meth : Method} {c : Code} {cells slots : Nat} {Q : State → Prop} {dd : cl_D} {b scr L : Nat} {xs : Nat → Int32} (V : lb_C p l s m args meth c dd b scr L xs) {B i : Nat} {M : cl_M} (hi : i + 6 ≤ L) (hL : L ≤ 3072) (R0 : cx_R B M) (hB : B + 8200 < 2 ^ 30) (hcs : cells + 10 ≤ 601024 ∧ slots + 60 ≤ 7293034) (back : ∀ (M : cl_M) (H : Heap) (locs : List Loc) (ls : Array Slot), cx_R (B + 8200) M → cl_H dd b M s H locs → lv_has ls 9 (lb_l scr b i) → W p l e room_1 s m args below meth c H locs (cells + 10) (slots + 60) Q (F0 m 3095 ls [])) {H : Heap} {locs : List Loc} {ls : Array Slot} (hw : cl_H dd b M s H locs) (hl : lv_has ls 9 (lb_l scr b i)) : W p l e room_1 s m args below meth c H locs cells slots Q (F0 m 726 ls []) := by
  have V0 := V
  obtain ⟨C, hN, hd, hX, hsb, hbs⟩ := V
  have hx := C.1
  have hb := C.2.1
  have hlt := C.2.2.2.2.2.2.2.2.2.2
  have s5 := cl_s00 hd
  have s6 := cl_s237 hd
  obtain ⟨v, M2, e1, e2, e5⟩ := an_steelLeft R0
  have e2 : f_X6_steelLeft M 237 = some (v, M2) := e2
  refine lv_aload_n hx hb dL_law_726 rfl (lv_at hl 2 rfl) ?_
  refine cr_Vi C hw (c_X5_steelLeft hlt s5 e1) cy_X5_steelLeft vy_X5_steelLeft lo_200 (cl_lt s5 (by decide)) (cl_e5 s5) rfl rfl (As := []) rfl hl.1 rfl ⟨⟨Nat.le_of_ble_eq_true rfl, Nat.le_of_ble_eq_true rfl⟩, Nat.le_of_ble_eq_true rfl, by show cells ≤ 601024; omega, by show slots ≤ 7293034; omega⟩ dL_law_727 (fun H locs hw => ?_)
  refine lv_aload_n hx hb dL_law_730 rfl (lv_at hl 3 rfl) ?_
  refine cr_Vi C hw (c_X6_steelLeft hlt s6 e2) cy_X6_steelLeft vy_X6_steelLeft lo_203 (cl_lt s6 (by decide)) (cl_e6 s6) rfl rfl (As := []) rfl hl.1 rfl ⟨⟨Nat.le_of_ble_eq_true rfl, Nat.le_of_ble_eq_true rfl⟩, Nat.le_of_ble_eq_true rfl, by show cells ≤ 601024; omega, by show slots ≤ 7293034; omega⟩ dL_law_731 (fun H locs hw => ?_)
  refine lv_icmp_eq (tgt := 3095) hx hb dL_law_734 (by decide) (fun _ => ?_) (fun c1 => absurd rfl c1)
  refine W.widen (k := cells + 10) (n := slots + 60) (by omega) (by omega) ?_
  exact back M2 H locs ls (cx_R_le e5 (by omega)) hw hl
set_option maxHeartbeats 4000000 in
set_option maxRecDepth 100000 in
theorem lb_15 {p : Program} {l : Launch} {e : Env} {s : State} {m : MethodId} {args : Array Value} {below : List Frame} {meth : Method} {c : Code} {cells slots : Nat} {Q : State → Prop} {dd : cl_D} {b scr L : Nat} {xs : Nat → Int32} (V : lb_C p l s m args meth c dd b scr L xs) {B i : Nat} {M : cl_M} (hi : i + 6 ≤ L) (hL : L ≤ 3072) (R0 : cx_R B M) (hB : B + 8200 < 2 ^ 30) (hcs : cells + 10 ≤ 601024 ∧ slots + 60 ≤ 7293034) (back : ∀ (M : cl_M) (H : Heap) (locs : List Loc) (ls : Array Slot), cx_R (B + 8200) M → cl_H dd b M s H locs → lv_has ls 9 (lb_l scr b i) → W p l e room_1 s m args below meth c H locs (cells + 10) (slots + 60) Q (F0 m 3095 ls [])) {H : Heap} {locs : List Loc} {ls : Array Slot} (hw : cl_H dd b M s H locs) (hl : lv_has ls 9 (lb_l scr b i)) : W p l e room_1 s m args below meth c H locs cells slots Q (F0 m 739 ls []) := by
  have V0 := V
  obtain ⟨C, hN, hd, hX, hsb, hbs⟩ := V
  have hx := C.1
  have hb := C.2.1
  have hlt := C.2.2.2.2.2.2.2.2.2.2
  have s5 := cl_s00 hd
  have s6 := cl_s237 hd
  obtain ⟨v, M2, e1, e2, e5⟩ := an_freeSpots R0
  have e2 : f_X6_freeSpots M 237 = some (v, M2) := e2
  refine lv_aload_n hx hb dL_law_739 rfl (lv_at hl 2 rfl) ?_
  refine cr_Vi C hw (c_X5_freeSpots hlt s5 e1) cy_X5_freeSpots vy_X5_freeSpots lo_204 (cl_lt s5 (by decide)) (cl_e5 s5) rfl rfl (As := []) rfl hl.1 rfl ⟨⟨Nat.le_of_ble_eq_true rfl, Nat.le_of_ble_eq_true rfl⟩, Nat.le_of_ble_eq_true rfl, by show cells ≤ 601024; omega, by show slots ≤ 7293034; omega⟩ dL_law_740 (fun H locs hw => ?_)
  refine lv_aload_n hx hb dL_law_743 rfl (lv_at hl 3 rfl) ?_
  refine cr_Vi C hw (c_X6_freeSpots hlt s6 e2) cy_X6_freeSpots vy_X6_freeSpots lo_207 (cl_lt s6 (by decide)) (cl_e6 s6) rfl rfl (As := []) rfl hl.1 rfl ⟨⟨Nat.le_of_ble_eq_true rfl, Nat.le_of_ble_eq_true rfl⟩, Nat.le_of_ble_eq_true rfl, by show cells ≤ 601024; omega, by show slots ≤ 7293034; omega⟩ dL_law_744 (fun H locs hw => ?_)
  refine lv_icmp_eq (tgt := 3095) hx hb dL_law_747 (by decide) (fun _ => ?_) (fun c1 => absurd rfl c1)
  refine W.widen (k := cells + 10) (n := slots + 60) (by omega) (by omega) ?_
  exact back M2 H locs ls (cx_R_le e5 (by omega)) hw hl
set_option maxHeartbeats 4000000 in
set_option maxRecDepth 100000 in
theorem lb_16 {p : Program} {l : Launch} {e : Env} {s : State} {m : MethodId} {args : Array Value} {below : List Frame} {meth : Method} {c : Code} {cells slots : Nat} {Q : State → Prop} {dd : cl_D} {b scr L : Nat} {xs : Nat → Int32} (V : lb_C p l s m args meth c dd b scr L xs) {B i : Nat} {M : cl_M} (hi : i + 6 ≤ L) (hL : L ≤ 3072) (R0 : cx_R B M) (hB : B + 8200 < 2 ^ 30) (hcs : cells + 10 ≤ 601024 ∧ slots + 60 ≤ 7293034) (back : ∀ (M : cl_M) (H : Heap) (locs : List Loc) (ls : Array Slot), cx_R (B + 8200) M → cl_H dd b M s H locs → lv_has ls 9 (lb_l scr b i) → W p l e room_1 s m args below meth c H locs (cells + 10) (slots + 60) Q (F0 m 3095 ls [])) {H : Heap} {locs : List Loc} {ls : Array Slot} (hw : cl_H dd b M s H locs) (hl : lv_has ls 9 (lb_l scr b i)) : W p l e room_1 s m args below meth c H locs cells slots Q (F0 m 752 ls []) := by
  have V0 := V
  obtain ⟨C, hN, hd, hX, hsb, hbs⟩ := V
  have hx := C.1
  have hb := C.2.1
  have hlt := C.2.2.2.2.2.2.2.2.2.2
  have s5 := cl_s00 hd
  have s6 := cl_s237 hd
  obtain ⟨v, M2, e1, e2, e5⟩ := an_longestGap R0
  have e2 : f_X6_longestGap M 237 = some (v, M2) := e2
  refine lv_aload_n hx hb dL_law_752 rfl (lv_at hl 2 rfl) ?_
  refine cr_Vi C hw (c_X5_longestGap hlt s5 e1) cy_X5_longestGap vy_X5_longestGap lo_208 (cl_lt s5 (by decide)) (cl_e5 s5) rfl rfl (As := []) rfl hl.1 rfl ⟨⟨Nat.le_of_ble_eq_true rfl, Nat.le_of_ble_eq_true rfl⟩, Nat.le_of_ble_eq_true rfl, by show cells ≤ 601024; omega, by show slots ≤ 7293034; omega⟩ dL_law_753 (fun H locs hw => ?_)
  refine lv_aload_n hx hb dL_law_756 rfl (lv_at hl 3 rfl) ?_
  refine cr_Vi C hw (c_X6_longestGap hlt s6 e2) cy_X6_longestGap vy_X6_longestGap lo_211 (cl_lt s6 (by decide)) (cl_e6 s6) rfl rfl (As := []) rfl hl.1 rfl ⟨⟨Nat.le_of_ble_eq_true rfl, Nat.le_of_ble_eq_true rfl⟩, Nat.le_of_ble_eq_true rfl, by show cells ≤ 601024; omega, by show slots ≤ 7293034; omega⟩ dL_law_757 (fun H locs hw => ?_)
  refine lv_icmp_eq (tgt := 3095) hx hb dL_law_760 (by decide) (fun _ => ?_) (fun c1 => absurd rfl c1)
  refine W.widen (k := cells + 10) (n := slots + 60) (by omega) (by omega) ?_
  exact back M2 H locs ls (cx_R_le e5 (by omega)) hw hl
set_option maxHeartbeats 4000000 in
set_option maxRecDepth 100000 in
theorem lb_18 {p : Program} {l : Launch} {e : Env} {s : State} {m : MethodId} {args : Array Value} {below : List Frame} {meth : Method} {c : Code} {cells slots : Nat} {Q : State → Prop} {dd : cl_D} {b scr L : Nat} {xs : Nat → Int32} (V : lb_C p l s m args meth c dd b scr L xs) {B i : Nat} {M : cl_M} (hi : i + 6 ≤ L) (hL : L ≤ 3072) (R0 : cx_R B M) (hB : B + 8200 < 2 ^ 30) (hcs : cells + 10 ≤ 601024 ∧ slots + 60 ≤ 7293034) (back : ∀ (M : cl_M) (H : Heap) (locs : List Loc) (ls : Array Slot), cx_R (B + 8200) M → cl_H dd b M s H locs → lv_has ls 9 (lb_l scr b i) → W p l e room_1 s m args below meth c H locs (cells + 10) (slots + 60) Q (F0 m 3095 ls [])) {H : Heap} {locs : List Loc} {ls : Array Slot} (hw : cl_H dd b M s H locs) (hl : lv_has ls 9 (lb_l scr b i)) : W p l e room_1 s m args below meth c H locs cells slots Q (F0 m 821 ls []) := by
  have V0 := V
  obtain ⟨C, hN, hd, hX, hsb, hbs⟩ := V
  have hx := C.1
  have hb := C.2.1
  have hlt := C.2.2.2.2.2.2.2.2.2.2
  have s5 := cl_s00 hd
  have s6 := cl_s237 hd
  obtain ⟨v, M2, e1, e2, e5⟩ := an_garmentByPlace R0 (xs (i + 1))
  have e2 : f_X6_garmentByPlace M 237 (xs (i + 1)) = some (v, M2) := e2
  refine lv_aload_n hx hb dL_law_821 rfl (lv_at hl 2 rfl) ?_
  refine lb_arg V0 hw (lv_at hl 1 rfl) (lv_at hl 0 rfl) (j := 1) dL_law_822 dL_law_823 dL_law_825 dL_law_826 dL_law_827 rfl (by omega) hL ?_
  refine cr_Vi C hw (c_X5_garmentByPlace hlt s5 e1) cy_X5_garmentByPlace vy_X5_garmentByPlace lo_215 (cl_lt s5 (by decide)) (cl_e5 s5) rfl rfl (As := [.int (xs (i + 1))]) rfl hl.1 rfl ⟨⟨Nat.le_of_ble_eq_true rfl, Nat.le_of_ble_eq_true rfl⟩, Nat.le_of_ble_eq_true rfl, by show cells ≤ 601024; omega, by show slots ≤ 7293034; omega⟩ dL_law_828 (fun H locs hw => ?_)
  refine lv_aload_n hx hb dL_law_831 rfl (lv_at hl 3 rfl) ?_
  refine lb_arg V0 hw (lv_at hl 1 rfl) (lv_at hl 0 rfl) (j := 1) dL_law_832 dL_law_833 dL_law_835 dL_law_836 dL_law_837 rfl (by omega) hL ?_
  refine cr_Vi C hw (c_X6_garmentByPlace hlt s6 e2) cy_X6_garmentByPlace vy_X6_garmentByPlace lo_218 (cl_lt s6 (by decide)) (cl_e6 s6) rfl rfl (As := [.int (xs (i + 1))]) rfl hl.1 rfl ⟨⟨Nat.le_of_ble_eq_true rfl, Nat.le_of_ble_eq_true rfl⟩, Nat.le_of_ble_eq_true rfl, by show cells ≤ 601024; omega, by show slots ≤ 7293034; omega⟩ dL_law_838 (fun H locs hw => ?_)
  refine lv_icmp_eq (tgt := 3095) hx hb dL_law_841 (by decide) (fun _ => ?_) (fun c1 => absurd rfl c1)
  refine W.widen (k := cells + 10) (n := slots + 60) (by omega) (by omega) ?_
  exact back M2 H locs ls (cx_R_le e5 (by omega)) hw hl
set_option maxHeartbeats 4000000 in
set_option maxRecDepth 100000 in
theorem lb_19 {p : Program} {l : Launch} {e : Env} {s : State} {m : MethodId} {args : Array Value} {below : List Frame} {meth : Method} {c : Code} {cells slots : Nat} {Q : State → Prop} {dd : cl_D} {b scr L : Nat} {xs : Nat → Int32} (V : lb_C p l s m args meth c dd b scr L xs) {B i : Nat} {M : cl_M} (hi : i + 6 ≤ L) (hL : L ≤ 3072) (R0 : cx_R B M) (hB : B + 8200 < 2 ^ 30) (hcs : cells + 10 ≤ 601024 ∧ slots + 60 ≤ 7293034) (back : ∀ (M : cl_M) (H : Heap) (locs : List Loc) (ls : Array Slot), cx_R (B + 8200) M → cl_H dd b M s H locs → lv_has ls 9 (lb_l scr b i) → W p l e room_1 s m args below meth c H locs (cells + 10) (slots + 60) Q (F0 m 3095 ls [])) {H : Heap} {locs : List Loc} {ls : Array Slot} (hw : cl_H dd b M s H locs) (hl : lv_has ls 9 (lb_l scr b i)) : W p l e room_1 s m args below meth c H locs cells slots Q (F0 m 846 ls []) := by
  have V0 := V
  obtain ⟨C, hN, hd, hX, hsb, hbs⟩ := V
  have hx := C.1
  have hb := C.2.1
  have hlt := C.2.2.2.2.2.2.2.2.2.2
  have s5 := cl_s00 hd
  have s6 := cl_s237 hd
  obtain ⟨v, M2, e1, e2, e5⟩ := an_garmentCount R0
  have e2 : f_X6_garmentCount M 237 = some (v, M2) := e2
  refine lv_aload_n hx hb dL_law_846 rfl (lv_at hl 2 rfl) ?_
  refine cr_Vi C hw (c_X5_garmentCount hlt s5 e1) cy_X5_garmentCount vy_X5_garmentCount lo_219 (cl_lt s5 (by decide)) (cl_e5 s5) rfl rfl (As := []) rfl hl.1 rfl ⟨⟨Nat.le_of_ble_eq_true rfl, Nat.le_of_ble_eq_true rfl⟩, Nat.le_of_ble_eq_true rfl, by show cells ≤ 601024; omega, by show slots ≤ 7293034; omega⟩ dL_law_847 (fun H locs hw => ?_)
  refine lv_aload_n hx hb dL_law_850 rfl (lv_at hl 3 rfl) ?_
  refine cr_Vi C hw (c_X6_garmentCount hlt s6 e2) cy_X6_garmentCount vy_X6_garmentCount lo_222 (cl_lt s6 (by decide)) (cl_e6 s6) rfl rfl (As := []) rfl hl.1 rfl ⟨⟨Nat.le_of_ble_eq_true rfl, Nat.le_of_ble_eq_true rfl⟩, Nat.le_of_ble_eq_true rfl, by show cells ≤ 601024; omega, by show slots ≤ 7293034; omega⟩ dL_law_851 (fun H locs hw => ?_)
  refine lv_icmp_eq (tgt := 3095) hx hb dL_law_854 (by decide) (fun _ => ?_) (fun c1 => absurd rfl c1)
  refine W.widen (k := cells + 10) (n := slots + 60) (by omega) (by omega) ?_
  exact back M2 H locs ls (cx_R_le e5 (by omega)) hw hl
set_option maxHeartbeats 4000000 in
set_option maxRecDepth 100000 in
theorem lb_34 {p : Program} {l : Launch} {e : Env} {s : State} {m : MethodId} {args : Array Value} {below : List Frame} {meth : Method} {c : Code} {cells slots : Nat} {Q : State → Prop} {dd : cl_D} {b scr L : Nat} {xs : Nat → Int32} (V : lb_C p l s m args meth c dd b scr L xs) {B i : Nat} {M : cl_M} (hi : i + 6 ≤ L) (hL : L ≤ 3072) (R0 : cx_R B M) (hB : B + 8200 < 2 ^ 30) (hcs : cells + 10 ≤ 601024 ∧ slots + 60 ≤ 7293034) (back : ∀ (M : cl_M) (H : Heap) (locs : List Loc) (ls : Array Slot), cx_R (B + 8200) M → cl_H dd b M s H locs → lv_has ls 9 (lb_l scr b i) → W p l e room_1 s m args below meth c H locs (cells + 10) (slots + 60) Q (F0 m 3095 ls [])) {H : Heap} {locs : List Loc} {ls : Array Slot} (hw : cl_H dd b M s H locs) (hl : lv_has ls 9 (lb_l scr b i)) : W p l e room_1 s m args below meth c H locs cells slots Q (F0 m 1650 ls []) := by
  have V0 := V
  obtain ⟨C, hN, hd, hX, hsb, hbs⟩ := V
  have hx := C.1
  have hb := C.2.1
  have hlt := C.2.2.2.2.2.2.2.2.2.2
  have s5 := cl_s00 hd
  have s6 := cl_s237 hd
  obtain ⟨v, M2, e1, e2, e5⟩ := an_dryGarments R0
  have e2 : f_X6_dryGarments M 237 = some (v, M2) := e2
  refine lv_aload_n hx hb dL_law_1650 rfl (lv_at hl 2 rfl) ?_
  refine cr_Vi C hw (c_X5_dryGarments hlt s5 e1) cy_X5_dryGarments vy_X5_dryGarments lo_265 (cl_lt s5 (by decide)) (cl_e5 s5) rfl rfl (As := []) rfl hl.1 rfl ⟨⟨Nat.le_of_ble_eq_true rfl, Nat.le_of_ble_eq_true rfl⟩, Nat.le_of_ble_eq_true rfl, by show cells ≤ 601024; omega, by show slots ≤ 7293034; omega⟩ dL_law_1651 (fun H locs hw => ?_)
  refine lv_aload_n hx hb dL_law_1654 rfl (lv_at hl 3 rfl) ?_
  refine cr_Vi C hw (c_X6_dryGarments hlt s6 e2) cy_X6_dryGarments vy_X6_dryGarments lo_268 (cl_lt s6 (by decide)) (cl_e6 s6) rfl rfl (As := []) rfl hl.1 rfl ⟨⟨Nat.le_of_ble_eq_true rfl, Nat.le_of_ble_eq_true rfl⟩, Nat.le_of_ble_eq_true rfl, by show cells ≤ 601024; omega, by show slots ≤ 7293034; omega⟩ dL_law_1655 (fun H locs hw => ?_)
  refine lv_icmp_eq (tgt := 3095) hx hb dL_law_1658 (by decide) (fun _ => ?_) (fun c1 => absurd rfl c1)
  refine W.widen (k := cells + 10) (n := slots + 60) (by omega) (by omega) ?_
  exact back M2 H locs ls (cx_R_le e5 (by omega)) hw hl
set_option maxHeartbeats 4000000 in
set_option maxRecDepth 100000 in
theorem lb_37 {p : Program} {l : Launch} {e : Env} {s : State} {m : MethodId} {args : Array Value} {below : List Frame} {meth : Method} {c : Code} {cells slots : Nat} {Q : State → Prop} {dd : cl_D} {b scr L : Nat} {xs : Nat → Int32} (V : lb_C p l s m args meth c dd b scr L xs) {B i : Nat} {M : cl_M} (hi : i + 6 ≤ L) (hL : L ≤ 3072) (R0 : cx_R B M) (hB : B + 8200 < 2 ^ 30) (hcs : cells + 10 ≤ 601024 ∧ slots + 60 ≤ 7293034) (back : ∀ (M : cl_M) (H : Heap) (locs : List Loc) (ls : Array Slot), cx_R (B + 8200) M → cl_H dd b M s H locs → lv_has ls 9 (lb_l scr b i) → W p l e room_1 s m args below meth c H locs (cells + 10) (slots + 60) Q (F0 m 3095 ls [])) {H : Heap} {locs : List Loc} {ls : Array Slot} (hw : cl_H dd b M s H locs) (hl : lv_has ls 9 (lb_l scr b i)) : W p l e room_1 s m args below meth c H locs cells slots Q (F0 m 1811 ls []) := by
  have V0 := V
  obtain ⟨C, hN, hd, hX, hsb, hbs⟩ := V
  have hx := C.1
  have hb := C.2.1
  have hlt := C.2.2.2.2.2.2.2.2.2.2
  have s5 := cl_s00 hd
  have s6 := cl_s237 hd
  obtain ⟨v, M2, e1, e2, e5⟩ := an_waterInAll R0
  have e2 : f_X6_waterInAll M 237 = some (v, M2) := e2
  refine lv_aload_n hx hb dL_law_1811 rfl (lv_at hl 2 rfl) ?_
  refine cr_Vi C hw (c_X5_waterInAll hlt s5 e1) cy_X5_waterInAll vy_X5_waterInAll lo_276 (cl_lt s5 (by decide)) (cl_e5 s5) rfl rfl (As := []) rfl hl.1 rfl ⟨⟨Nat.le_of_ble_eq_true rfl, Nat.le_of_ble_eq_true rfl⟩, Nat.le_of_ble_eq_true rfl, by show cells ≤ 601024; omega, by show slots ≤ 7293034; omega⟩ dL_law_1812 (fun H locs hw => ?_)
  refine lv_aload_n hx hb dL_law_1815 rfl (lv_at hl 3 rfl) ?_
  refine cr_Vi C hw (c_X6_waterInAll hlt s6 e2) cy_X6_waterInAll vy_X6_waterInAll lo_279 (cl_lt s6 (by decide)) (cl_e6 s6) rfl rfl (As := []) rfl hl.1 rfl ⟨⟨Nat.le_of_ble_eq_true rfl, Nat.le_of_ble_eq_true rfl⟩, Nat.le_of_ble_eq_true rfl, by show cells ≤ 601024; omega, by show slots ≤ 7293034; omega⟩ dL_law_1816 (fun H locs hw => ?_)
  refine lv_icmp_eq (tgt := 3095) hx hb dL_law_1819 (by decide) (fun _ => ?_) (fun c1 => absurd rfl c1)
  refine W.widen (k := cells + 10) (n := slots + 60) (by omega) (by omega) ?_
  exact back M2 H locs ls (cx_R_le e5 (by omega)) hw hl
set_option maxHeartbeats 4000000 in
set_option maxRecDepth 100000 in
theorem lb_38 {p : Program} {l : Launch} {e : Env} {s : State} {m : MethodId} {args : Array Value} {below : List Frame} {meth : Method} {c : Code} {cells slots : Nat} {Q : State → Prop} {dd : cl_D} {b scr L : Nat} {xs : Nat → Int32} (V : lb_C p l s m args meth c dd b scr L xs) {B i : Nat} {M : cl_M} (hi : i + 6 ≤ L) (hL : L ≤ 3072) (R0 : cx_R B M) (hB : B + 8200 < 2 ^ 30) (hcs : cells + 10 ≤ 601024 ∧ slots + 60 ≤ 7293034) (back : ∀ (M : cl_M) (H : Heap) (locs : List Loc) (ls : Array Slot), cx_R (B + 8200) M → cl_H dd b M s H locs → lv_has ls 9 (lb_l scr b i) → W p l e room_1 s m args below meth c H locs (cells + 10) (slots + 60) Q (F0 m 3095 ls [])) {H : Heap} {locs : List Loc} {ls : Array Slot} (hw : cl_H dd b M s H locs) (hl : lv_has ls 9 (lb_l scr b i)) : W p l e room_1 s m args below meth c H locs cells slots Q (F0 m 1824 ls []) := by
  have V0 := V
  obtain ⟨C, hN, hd, hX, hsb, hbs⟩ := V
  have hx := C.1
  have hb := C.2.1
  have hlt := C.2.2.2.2.2.2.2.2.2.2
  have s5 := cl_s00 hd
  have s6 := cl_s237 hd
  obtain ⟨v, M2, e1, e2, e5⟩ := an_waterCame R0
  have e2 : f_X6_waterCame M 237 = some (v, M2) := e2
  refine lv_aload_n hx hb dL_law_1824 rfl (lv_at hl 2 rfl) ?_
  refine cr_Vi C hw (c_X5_waterCame hlt s5 e1) cy_X5_waterCame vy_X5_waterCame lo_280 (cl_lt s5 (by decide)) (cl_e5 s5) rfl rfl (As := []) rfl hl.1 rfl ⟨⟨Nat.le_of_ble_eq_true rfl, Nat.le_of_ble_eq_true rfl⟩, Nat.le_of_ble_eq_true rfl, by show cells ≤ 601024; omega, by show slots ≤ 7293034; omega⟩ dL_law_1825 (fun H locs hw => ?_)
  refine lv_aload_n hx hb dL_law_1828 rfl (lv_at hl 3 rfl) ?_
  refine cr_Vi C hw (c_X6_waterCame hlt s6 e2) cy_X6_waterCame vy_X6_waterCame lo_283 (cl_lt s6 (by decide)) (cl_e6 s6) rfl rfl (As := []) rfl hl.1 rfl ⟨⟨Nat.le_of_ble_eq_true rfl, Nat.le_of_ble_eq_true rfl⟩, Nat.le_of_ble_eq_true rfl, by show cells ≤ 601024; omega, by show slots ≤ 7293034; omega⟩ dL_law_1829 (fun H locs hw => ?_)
  refine lv_icmp_eq (tgt := 3095) hx hb dL_law_1832 (by decide) (fun _ => ?_) (fun c1 => absurd rfl c1)
  refine W.widen (k := cells + 10) (n := slots + 60) (by omega) (by omega) ?_
  exact back M2 H locs ls (cx_R_le e5 (by omega)) hw hl
set_option maxHeartbeats 4000000 in
set_option maxRecDepth 100000 in
theorem lb_39 {p : Program} {l : Launch} {e : Env} {s : State} {m : MethodId} {args : Array Value} {below : List Frame} {meth : Method} {c : Code} {cells slots : Nat} {Q : State → Prop} {dd : cl_D} {b scr L : Nat} {xs : Nat → Int32} (V : lb_C p l s m args meth c dd b scr L xs) {B i : Nat} {M : cl_M} (hi : i + 6 ≤ L) (hL : L ≤ 3072) (R0 : cx_R B M) (hB : B + 8200 < 2 ^ 30) (hcs : cells + 10 ≤ 601024 ∧ slots + 60 ≤ 7293034) (back : ∀ (M : cl_M) (H : Heap) (locs : List Loc) (ls : Array Slot), cx_R (B + 8200) M → cl_H dd b M s H locs → lv_has ls 9 (lb_l scr b i) → W p l e room_1 s m args below meth c H locs (cells + 10) (slots + 60) Q (F0 m 3095 ls [])) {H : Heap} {locs : List Loc} {ls : Array Slot} (hw : cl_H dd b M s H locs) (hl : lv_has ls 9 (lb_l scr b i)) : W p l e room_1 s m args below meth c H locs cells slots Q (F0 m 1837 ls []) := by
  have V0 := V
  obtain ⟨C, hN, hd, hX, hsb, hbs⟩ := V
  have hx := C.1
  have hb := C.2.1
  have hlt := C.2.2.2.2.2.2.2.2.2.2
  have s5 := cl_s00 hd
  have s6 := cl_s237 hd
  obtain ⟨v, M2, e1, e2, e5⟩ := an_driedBySun R0
  have e2 : f_X6_driedBySun M 237 = some (v, M2) := e2
  refine lv_aload_n hx hb dL_law_1837 rfl (lv_at hl 2 rfl) ?_
  refine cr_Vi C hw (c_X5_driedBySun hlt s5 e1) cy_X5_driedBySun vy_X5_driedBySun lo_284 (cl_lt s5 (by decide)) (cl_e5 s5) rfl rfl (As := []) rfl hl.1 rfl ⟨⟨Nat.le_of_ble_eq_true rfl, Nat.le_of_ble_eq_true rfl⟩, Nat.le_of_ble_eq_true rfl, by show cells ≤ 601024; omega, by show slots ≤ 7293034; omega⟩ dL_law_1838 (fun H locs hw => ?_)
  refine lv_aload_n hx hb dL_law_1841 rfl (lv_at hl 3 rfl) ?_
  refine cr_Vi C hw (c_X6_driedBySun hlt s6 e2) cy_X6_driedBySun vy_X6_driedBySun lo_287 (cl_lt s6 (by decide)) (cl_e6 s6) rfl rfl (As := []) rfl hl.1 rfl ⟨⟨Nat.le_of_ble_eq_true rfl, Nat.le_of_ble_eq_true rfl⟩, Nat.le_of_ble_eq_true rfl, by show cells ≤ 601024; omega, by show slots ≤ 7293034; omega⟩ dL_law_1842 (fun H locs hw => ?_)
  refine lv_icmp_eq (tgt := 3095) hx hb dL_law_1845 (by decide) (fun _ => ?_) (fun c1 => absurd rfl c1)
  refine W.widen (k := cells + 10) (n := slots + 60) (by omega) (by omega) ?_
  exact back M2 H locs ls (cx_R_le e5 (by omega)) hw hl
set_option maxHeartbeats 4000000 in
set_option maxRecDepth 100000 in
theorem lb_40 {p : Program} {l : Launch} {e : Env} {s : State} {m : MethodId} {args : Array Value} {below : List Frame} {meth : Method} {c : Code} {cells slots : Nat} {Q : State → Prop} {dd : cl_D} {b scr L : Nat} {xs : Nat → Int32} (V : lb_C p l s m args meth c dd b scr L xs) {B i : Nat} {M : cl_M} (hi : i + 6 ≤ L) (hL : L ≤ 3072) (R0 : cx_R B M) (hB : B + 8200 < 2 ^ 30) (hcs : cells + 10 ≤ 601024 ∧ slots + 60 ≤ 7293034) (back : ∀ (M : cl_M) (H : Heap) (locs : List Loc) (ls : Array Slot), cx_R (B + 8200) M → cl_H dd b M s H locs → lv_has ls 9 (lb_l scr b i) → W p l e room_1 s m args below meth c H locs (cells + 10) (slots + 60) Q (F0 m 3095 ls [])) {H : Heap} {locs : List Loc} {ls : Array Slot} (hw : cl_H dd b M s H locs) (hl : lv_has ls 9 (lb_l scr b i)) : W p l e room_1 s m args below meth c H locs cells slots Q (F0 m 1850 ls []) := by
  have V0 := V
  obtain ⟨C, hN, hd, hX, hsb, hbs⟩ := V
  have hx := C.1
  have hb := C.2.1
  have hlt := C.2.2.2.2.2.2.2.2.2.2
  have s5 := cl_s00 hd
  have s6 := cl_s237 hd
  obtain ⟨v, M2, e1, e2, e5⟩ := an_driedByWind R0
  have e2 : f_X6_driedByWind M 237 = some (v, M2) := e2
  refine lv_aload_n hx hb dL_law_1850 rfl (lv_at hl 2 rfl) ?_
  refine cr_Vi C hw (c_X5_driedByWind hlt s5 e1) cy_X5_driedByWind vy_X5_driedByWind lo_288 (cl_lt s5 (by decide)) (cl_e5 s5) rfl rfl (As := []) rfl hl.1 rfl ⟨⟨Nat.le_of_ble_eq_true rfl, Nat.le_of_ble_eq_true rfl⟩, Nat.le_of_ble_eq_true rfl, by show cells ≤ 601024; omega, by show slots ≤ 7293034; omega⟩ dL_law_1851 (fun H locs hw => ?_)
  refine lv_aload_n hx hb dL_law_1854 rfl (lv_at hl 3 rfl) ?_
  refine cr_Vi C hw (c_X6_driedByWind hlt s6 e2) cy_X6_driedByWind vy_X6_driedByWind lo_291 (cl_lt s6 (by decide)) (cl_e6 s6) rfl rfl (As := []) rfl hl.1 rfl ⟨⟨Nat.le_of_ble_eq_true rfl, Nat.le_of_ble_eq_true rfl⟩, Nat.le_of_ble_eq_true rfl, by show cells ≤ 601024; omega, by show slots ≤ 7293034; omega⟩ dL_law_1855 (fun H locs hw => ?_)
  refine lv_icmp_eq (tgt := 3095) hx hb dL_law_1858 (by decide) (fun _ => ?_) (fun c1 => absurd rfl c1)
  refine W.widen (k := cells + 10) (n := slots + 60) (by omega) (by omega) ?_
  exact back M2 H locs ls (cx_R_le e5 (by omega)) hw hl
set_option maxHeartbeats 4000000 in
set_option maxRecDepth 100000 in
theorem lb_41 {p : Program} {l : Launch} {e : Env} {s : State} {m : MethodId} {args : Array Value} {below : List Frame} {meth : Method} {c : Code} {cells slots : Nat} {Q : State → Prop} {dd : cl_D} {b scr L : Nat} {xs : Nat → Int32} (V : lb_C p l s m args meth c dd b scr L xs) {B i : Nat} {M : cl_M} (hi : i + 6 ≤ L) (hL : L ≤ 3072) (R0 : cx_R B M) (hB : B + 8200 < 2 ^ 30) (hcs : cells + 10 ≤ 601024 ∧ slots + 60 ≤ 7293034) (back : ∀ (M : cl_M) (H : Heap) (locs : List Loc) (ls : Array Slot), cx_R (B + 8200) M → cl_H dd b M s H locs → lv_has ls 9 (lb_l scr b i) → W p l e room_1 s m args below meth c H locs (cells + 10) (slots + 60) Q (F0 m 3095 ls [])) {H : Heap} {locs : List Loc} {ls : Array Slot} (hw : cl_H dd b M s H locs) (hl : lv_has ls 9 (lb_l scr b i)) : W p l e room_1 s m args below meth c H locs cells slots Q (F0 m 1863 ls []) := by
  have V0 := V
  obtain ⟨C, hN, hd, hX, hsb, hbs⟩ := V
  have hx := C.1
  have hb := C.2.1
  have hlt := C.2.2.2.2.2.2.2.2.2.2
  have s5 := cl_s00 hd
  have s6 := cl_s237 hd
  obtain ⟨v, M2, e1, e2, e5⟩ := an_consistencyError R0
  have e2 : f_X6_consistencyError M 237 = some (v, M2) := e2
  refine lv_aload_n hx hb dL_law_1863 rfl (lv_at hl 2 rfl) ?_
  refine cr_Vi C hw (c_X5_consistencyError hlt s5 e1) cy_X5_consistencyError vy_X5_consistencyError lo_292 (cl_lt s5 (by decide)) (cl_e5 s5) rfl rfl (As := []) rfl hl.1 rfl ⟨⟨Nat.le_of_ble_eq_true rfl, Nat.le_of_ble_eq_true rfl⟩, Nat.le_of_ble_eq_true rfl, by show cells ≤ 601024; omega, by show slots ≤ 7293034; omega⟩ dL_law_1864 (fun H locs hw => ?_)
  refine lv_aload_n hx hb dL_law_1867 rfl (lv_at hl 3 rfl) ?_
  refine cr_Vi C hw (c_X6_consistencyError hlt s6 e2) cy_X6_consistencyError vy_X6_consistencyError lo_295 (cl_lt s6 (by decide)) (cl_e6 s6) rfl rfl (As := []) rfl hl.1 rfl ⟨⟨Nat.le_of_ble_eq_true rfl, Nat.le_of_ble_eq_true rfl⟩, Nat.le_of_ble_eq_true rfl, by show cells ≤ 601024; omega, by show slots ≤ 7293034; omega⟩ dL_law_1868 (fun H locs hw => ?_)
  refine lv_icmp_eq (tgt := 3095) hx hb dL_law_1871 (by decide) (fun _ => ?_) (fun c1 => absurd rfl c1)
  refine W.widen (k := cells + 10) (n := slots + 60) (by omega) (by omega) ?_
  exact back M2 H locs ls (cx_R_le e5 (by omega)) hw hl
set_option maxHeartbeats 4000000 in
set_option maxRecDepth 100000 in
theorem lb_42 {p : Program} {l : Launch} {e : Env} {s : State} {m : MethodId} {args : Array Value} {below : List Frame} {meth : Method} {c : Code} {cells slots : Nat} {Q : State → Prop} {dd : cl_D} {b scr L : Nat} {xs : Nat → Int32} (V : lb_C p l s m args meth c dd b scr L xs) {B i : Nat} {M : cl_M} (hi : i + 6 ≤ L) (hL : L ≤ 3072) (R0 : cx_R B M) (hB : B + 8200 < 2 ^ 30) (hcs : cells + 10 ≤ 601024 ∧ slots + 60 ≤ 7293034) (back : ∀ (M : cl_M) (H : Heap) (locs : List Loc) (ls : Array Slot), cx_R (B + 8200) M → cl_H dd b M s H locs → lv_has ls 9 (lb_l scr b i) → W p l e room_1 s m args below meth c H locs (cells + 10) (slots + 60) Q (F0 m 3095 ls [])) {H : Heap} {locs : List Loc} {ls : Array Slot} (hw : cl_H dd b M s H locs) (hl : lv_has ls 9 (lb_l scr b i)) : W p l e room_1 s m args below meth c H locs cells slots Q (F0 m 1876 ls []) := by
  have V0 := V
  obtain ⟨C, hN, hd, hX, hsb, hbs⟩ := V
  have hx := C.1
  have hb := C.2.1
  have hlt := C.2.2.2.2.2.2.2.2.2.2
  have s5 := cl_s00 hd
  have s6 := cl_s237 hd
  obtain ⟨r, M2, e1, e2, e3, e5⟩ := an_meanWater R0
  refine lv_aload_n hx hb dL_law_1876 rfl (lv_at hl 2 rfl) ?_
  refine cr_Vd C hw (c_X5_meanWater hlt s5 e1) cyX5_meanWater vyX5_meanWater lo_296 (cl_lt s5 (by decide)) (cl_e5 s5) rfl rfl (As := []) rfl hl.1 rfl ⟨⟨Nat.le_of_ble_eq_true rfl, Nat.le_of_ble_eq_true rfl⟩, Nat.le_of_ble_eq_true rfl, by show cells ≤ 601024; omega, by show slots ≤ 7293034; omega⟩ dL_law_1877 (fun H locs hw => ?_)
  refine lv_dstore (lv' := (5, .double r) :: lb_l scr b i) hx hb dL_law_1880 hl (by decide) rfl (fun ls hl => ?_)
  refine lv_aload_n hx hb dL_law_1882 rfl (lv_at hl 4 rfl) ?_
  refine cr_Vd C hw (c_X6_meanWater hlt s6 e2) cyX6_meanWater vyX6_meanWater lo_300 (cl_lt s6 (by decide)) (cl_e6 s6) rfl rfl (As := []) rfl hl.1 rfl ⟨⟨Nat.le_of_ble_eq_true rfl, Nat.le_of_ble_eq_true rfl⟩, Nat.le_of_ble_eq_true rfl, by show cells ≤ 601024; omega, by show slots ≤ 7293034; omega⟩ dL_law_1883 (fun H locs hw => ?_)
  refine lv_dstore (lv' := (7, .double r) :: (5, .double r) :: lb_l scr b i) hx hb dL_law_1886 hl (by decide) rfl (fun ls hl => ?_)
  refine lv_dload hx hb dL_law_1888 (lv_at hl 1 rfl) ?_
  refine lv_dload hx hb dL_law_1890 (lv_at hl 0 rfl) ?_
  refine lv_dcmp hx hb dL_law_1892 ?_
  refine lv_if_eq (tgt := 1914) hx hb dL_law_1893 (by decide) (fun _ => ?_) (fun c3 => absurd (lf_cmp e3) c3)
  refine lv_goto (tgt := 3095) hx hb dL_law_1914 (by decide) ?_
  refine W.widen (k := cells + 10) (n := slots + 60) (by omega) (by omega) ?_
  exact back M2 H locs ls (cx_R_le e5 (by omega)) hw (lv_sub hl [2, 3, 4, 5, 6] rfl)
set_option maxHeartbeats 4000000 in
set_option maxRecDepth 100000 in
theorem lb_43 {p : Program} {l : Launch} {e : Env} {s : State} {m : MethodId} {args : Array Value} {below : List Frame} {meth : Method} {c : Code} {cells slots : Nat} {Q : State → Prop} {dd : cl_D} {b scr L : Nat} {xs : Nat → Int32} (V : lb_C p l s m args meth c dd b scr L xs) {B i : Nat} {M : cl_M} (hi : i + 6 ≤ L) (hL : L ≤ 3072) (R0 : cx_R B M) (hB : B + 8200 < 2 ^ 30) (hcs : cells + 10 ≤ 601024 ∧ slots + 60 ≤ 7293034) (back : ∀ (M : cl_M) (H : Heap) (locs : List Loc) (ls : Array Slot), cx_R (B + 8200) M → cl_H dd b M s H locs → lv_has ls 9 (lb_l scr b i) → W p l e room_1 s m args below meth c H locs (cells + 10) (slots + 60) Q (F0 m 3095 ls [])) {H : Heap} {locs : List Loc} {ls : Array Slot} (hw : cl_H dd b M s H locs) (hl : lv_has ls 9 (lb_l scr b i)) : W p l e room_1 s m args below meth c H locs cells slots Q (F0 m 1917 ls []) := by
  have V0 := V
  obtain ⟨C, hN, hd, hX, hsb, hbs⟩ := V
  have hx := C.1
  have hb := C.2.1
  have hlt := C.2.2.2.2.2.2.2.2.2.2
  have s5 := cl_s00 hd
  have s6 := cl_s237 hd
  obtain ⟨r, M2, e1, e2, e3, e5⟩ := an_dryShare R0
  have e4 := lf_f2d e3
  refine lv_aload_n hx hb dL_law_1917 rfl (lv_at hl 2 rfl) ?_
  refine cr_Vf C hw (c_X5_dryShare hlt s5 e1) cyX5_dryShare vyX5_dryShare lo_301 (cl_lt s5 (by decide)) (cl_e5 s5) rfl rfl (As := []) rfl hl.1 rfl ⟨⟨Nat.le_of_ble_eq_true rfl, Nat.le_of_ble_eq_true rfl⟩, Nat.le_of_ble_eq_true rfl, by show cells ≤ 601024; omega, by show slots ≤ 7293034; omega⟩ dL_law_1918 (fun H locs hw => ?_)
  refine lv_f2d hx hb dL_law_1921 (db_n64 e4) ?_
  refine lv_dstore (lv' := (5, .double (FP.f2d r)) :: lb_l scr b i) hx hb dL_law_1922 hl (by decide) rfl (fun ls hl => ?_)
  refine lv_aload_n hx hb dL_law_1924 rfl (lv_at hl 4 rfl) ?_
  refine cr_Vf C hw (c_X6_dryShare hlt s6 e2) cyX6_dryShare vyX6_dryShare lo_305 (cl_lt s6 (by decide)) (cl_e6 s6) rfl rfl (As := []) rfl hl.1 rfl ⟨⟨Nat.le_of_ble_eq_true rfl, Nat.le_of_ble_eq_true rfl⟩, Nat.le_of_ble_eq_true rfl, by show cells ≤ 601024; omega, by show slots ≤ 7293034; omega⟩ dL_law_1925 (fun H locs hw => ?_)
  refine lv_f2d hx hb dL_law_1928 (db_n64 e4) ?_
  refine lv_dstore (lv' := (7, .double (FP.f2d r)) :: (5, .double (FP.f2d r)) :: lb_l scr b i) hx hb dL_law_1929 hl (by decide) rfl (fun ls hl => ?_)
  refine lv_dload hx hb dL_law_1931 (lv_at hl 1 rfl) ?_
  refine lv_dload hx hb dL_law_1933 (lv_at hl 0 rfl) ?_
  refine lv_dcmp hx hb dL_law_1935 ?_
  refine lv_if_eq (tgt := 1957) hx hb dL_law_1936 (by decide) (fun _ => ?_) (fun c3 => absurd (lf_cmp e4) c3)
  refine lv_goto (tgt := 3095) hx hb dL_law_1957 (by decide) ?_
  refine W.widen (k := cells + 10) (n := slots + 60) (by omega) (by omega) ?_
  exact back M2 H locs ls (cx_R_le e5 (by omega)) hw (lv_sub hl [2, 3, 4, 5, 6] rfl)
set_option maxHeartbeats 4000000 in
set_option maxRecDepth 100000 in
theorem lb_47 {p : Program} {l : Launch} {e : Env} {s : State} {m : MethodId} {args : Array Value} {below : List Frame} {meth : Method} {c : Code} {cells slots : Nat} {Q : State → Prop} {dd : cl_D} {b scr L : Nat} {xs : Nat → Int32} (V : lb_C p l s m args meth c dd b scr L xs) {B i : Nat} {M : cl_M} (hi : i + 6 ≤ L) (hL : L ≤ 3072) (R0 : cx_R B M) (hB : B + 8200 < 2 ^ 30) (hcs : cells + 10 ≤ 601024 ∧ slots + 60 ≤ 7293034) (back : ∀ (M : cl_M) (H : Heap) (locs : List Loc) (ls : Array Slot), cx_R (B + 8200) M → cl_H dd b M s H locs → lv_has ls 9 (lb_l scr b i) → W p l e room_1 s m args below meth c H locs (cells + 10) (slots + 60) Q (F0 m 3095 ls [])) {H : Heap} {locs : List Loc} {ls : Array Slot} (hw : cl_H dd b M s H locs) (hl : lv_has ls 9 (lb_l scr b i)) : W p l e room_1 s m args below meth c H locs cells slots Q (F0 m 2140 ls []) := by
  have V0 := V
  obtain ⟨C, hN, hd, hX, hsb, hbs⟩ := V
  have hx := C.1
  have hb := C.2.1
  have hlt := C.2.2.2.2.2.2.2.2.2.2
  have s5 := cl_s00 hd
  have s6 := cl_s237 hd
  obtain ⟨v, M1, M2, e1, e2, e5⟩ := an_garmentsAtRisk R0 (by omega)
  have e2 : f_X6_garmentsAtRisk M1 237 = some (v, M2) := e2
  refine lv_aload_n hx hb dL_law_2140 rfl (lv_at hl 2 rfl) ?_
  refine cr_Vi C hw (c_X5_garmentsAtRisk hlt s5 e1) cy_X5_garmentsAtRisk vy_X5_garmentsAtRisk lo_316 (cl_lt s5 (by decide)) (cl_e5 s5) rfl rfl (As := []) rfl hl.1 rfl ⟨⟨Nat.le_of_ble_eq_true rfl, Nat.le_of_ble_eq_true rfl⟩, Nat.le_of_ble_eq_true rfl, by show cells ≤ 601024; omega, by show slots ≤ 7293034; omega⟩ dL_law_2141 (fun H locs hw => ?_)
  refine lv_aload_n hx hb dL_law_2144 rfl (lv_at hl 3 rfl) ?_
  refine cr_Vi C hw (c_X6_garmentsAtRisk hlt s6 e2) cy_X6_garmentsAtRisk vy_X6_garmentsAtRisk lo_319 (cl_lt s6 (by decide)) (cl_e6 s6) rfl rfl (As := []) rfl hl.1 rfl ⟨⟨Nat.le_of_ble_eq_true rfl, Nat.le_of_ble_eq_true rfl⟩, Nat.le_of_ble_eq_true rfl, by show cells ≤ 601024; omega, by show slots ≤ 7293034; omega⟩ dL_law_2145 (fun H locs hw => ?_)
  refine lv_icmp_eq (tgt := 3095) hx hb dL_law_2148 (by decide) (fun _ => ?_) (fun c1 => absurd rfl c1)
  refine W.widen (k := cells + 10) (n := slots + 60) (by omega) (by omega) ?_
  exact back M2 H locs ls (cx_R_le e5 (by omega)) hw hl
set_option maxHeartbeats 4000000 in
set_option maxRecDepth 100000 in
theorem lb_62 {p : Program} {l : Launch} {e : Env} {s : State} {m : MethodId} {args : Array Value} {below : List Frame} {meth : Method} {c : Code} {cells slots : Nat} {Q : State → Prop} {dd : cl_D} {b scr L : Nat} {xs : Nat → Int32} (V : lb_C p l s m args meth c dd b scr L xs) {B i : Nat} {M : cl_M} (hi : i + 6 ≤ L) (hL : L ≤ 3072) (R0 : cx_R B M) (hB : B + 8200 < 2 ^ 30) (hcs : cells + 10 ≤ 601024 ∧ slots + 60 ≤ 7293034) (back : ∀ (M : cl_M) (H : Heap) (locs : List Loc) (ls : Array Slot), cx_R (B + 8200) M → cl_H dd b M s H locs → lv_has ls 9 (lb_l scr b i) → W p l e room_1 s m args below meth c H locs (cells + 10) (slots + 60) Q (F0 m 3095 ls [])) {H : Heap} {locs : List Loc} {ls : Array Slot} (hw : cl_H dd b M s H locs) (hl : lv_has ls 9 (lb_l scr b i)) : W p l e room_1 s m args below meth c H locs cells slots Q (F0 m 3057 ls []) := by
  have V0 := V
  obtain ⟨C, hN, hd, hX, hsb, hbs⟩ := V
  have hx := C.1
  have hb := C.2.1
  have hlt := C.2.2.2.2.2.2.2.2.2.2
  have s5 := cl_s00 hd
  have s6 := cl_s237 hd
  obtain ⟨v, M1, M2, e1, e2, e5⟩ := an_writeLine R0 (by omega)
  have e2 : f_X6_writeLine M1 237 = some (v, M2) := e2
  refine lv_aload_n hx hb dL_law_3057 rfl (lv_at hl 2 rfl) ?_
  refine cr_Vi C hw (c_X5_writeLine hlt s5 e1) cy_X5_writeLine vy_X5_writeLine lo_364 (cl_lt s5 (by decide)) (cl_e5 s5) rfl rfl (As := []) rfl hl.1 rfl ⟨⟨Nat.le_of_ble_eq_true rfl, Nat.le_of_ble_eq_true rfl⟩, Nat.le_of_ble_eq_true rfl, by show cells ≤ 601024; omega, by show slots ≤ 7293034; omega⟩ dL_law_3058 (fun H locs hw => ?_)
  refine lv_aload_n hx hb dL_law_3061 rfl (lv_at hl 3 rfl) ?_
  refine cr_Vi C hw (c_X6_writeLine hlt s6 e2) cy_X6_writeLine vy_X6_writeLine lo_367 (cl_lt s6 (by decide)) (cl_e6 s6) rfl rfl (As := []) rfl hl.1 rfl ⟨⟨Nat.le_of_ble_eq_true rfl, Nat.le_of_ble_eq_true rfl⟩, Nat.le_of_ble_eq_true rfl, by show cells ≤ 601024; omega, by show slots ≤ 7293034; omega⟩ dL_law_3062 (fun H locs hw => ?_)
  refine lv_icmp_eq (tgt := 3095) hx hb dL_law_3065 (by decide) (fun _ => ?_) (fun c1 => absurd rfl c1)
  refine W.widen (k := cells + 10) (n := slots + 60) (by omega) (by omega) ?_
  exact back M2 H locs ls (cx_R_le e5 (by omega)) hw hl
set_option maxHeartbeats 4000000 in
set_option maxRecDepth 100000 in
theorem lb_63 {p : Program} {l : Launch} {e : Env} {s : State} {m : MethodId} {args : Array Value} {below : List Frame} {meth : Method} {c : Code} {cells slots : Nat} {Q : State → Prop} {dd : cl_D} {b scr L : Nat} {xs : Nat → Int32} (V : lb_C p l s m args meth c dd b scr L xs) {B i : Nat} {M : cl_M} (hi : i + 6 ≤ L) (hL : L ≤ 3072) (R0 : cx_R B M) (hB : B + 8200 < 2 ^ 30) (hcs : cells + 10 ≤ 601024 ∧ slots + 60 ≤ 7293034) (back : ∀ (M : cl_M) (H : Heap) (locs : List Loc) (ls : Array Slot), cx_R (B + 8200) M → cl_H dd b M s H locs → lv_has ls 9 (lb_l scr b i) → W p l e room_1 s m args below meth c H locs (cells + 10) (slots + 60) Q (F0 m 3095 ls [])) {H : Heap} {locs : List Loc} {ls : Array Slot} (hw : cl_H dd b M s H locs) (hl : lv_has ls 9 (lb_l scr b i)) : W p l e room_1 s m args below meth c H locs cells slots Q (F0 m 3070 ls []) := by
  have V0 := V
  obtain ⟨C, hN, hd, hX, hsb, hbs⟩ := V
  have hx := C.1
  have hb := C.2.1
  have hlt := C.2.2.2.2.2.2.2.2.2.2
  have s5 := cl_s00 hd
  have s6 := cl_s237 hd
  obtain ⟨v, M2, e1, e2, e5⟩ := an_outputByte R0 (xs (i + 1))
  have e2 : f_X6_outputByte M 237 (xs (i + 1)) = some (v, M2) := e2
  refine lv_aload_n hx hb dL_law_3070 rfl (lv_at hl 2 rfl) ?_
  refine lb_arg V0 hw (lv_at hl 1 rfl) (lv_at hl 0 rfl) (j := 1) dL_law_3071 dL_law_3072 dL_law_3074 dL_law_3075 dL_law_3076 rfl (by omega) hL ?_
  refine cr_Vi C hw (c_X5_outputByte hlt s5 e1) cy_X5_outputByte vy_X5_outputByte lo_368 (cl_lt s5 (by decide)) (cl_e5 s5) rfl rfl (As := [.int (xs (i + 1))]) rfl hl.1 rfl ⟨⟨Nat.le_of_ble_eq_true rfl, Nat.le_of_ble_eq_true rfl⟩, Nat.le_of_ble_eq_true rfl, by show cells ≤ 601024; omega, by show slots ≤ 7293034; omega⟩ dL_law_3077 (fun H locs hw => ?_)
  refine lv_aload_n hx hb dL_law_3080 rfl (lv_at hl 3 rfl) ?_
  refine lb_arg V0 hw (lv_at hl 1 rfl) (lv_at hl 0 rfl) (j := 1) dL_law_3081 dL_law_3082 dL_law_3084 dL_law_3085 dL_law_3086 rfl (by omega) hL ?_
  refine cr_Vi C hw (c_X6_outputByte hlt s6 e2) cy_X6_outputByte vy_X6_outputByte lo_371 (cl_lt s6 (by decide)) (cl_e6 s6) rfl rfl (As := [.int (xs (i + 1))]) rfl hl.1 rfl ⟨⟨Nat.le_of_ble_eq_true rfl, Nat.le_of_ble_eq_true rfl⟩, Nat.le_of_ble_eq_true rfl, by show cells ≤ 601024; omega, by show slots ≤ 7293034; omega⟩ dL_law_3087 (fun H locs hw => ?_)
  refine lv_icmp_eq (tgt := 3095) hx hb dL_law_3090 (by decide) (fun _ => ?_) (fun c1 => absurd rfl c1)
  refine W.widen (k := cells + 10) (n := slots + 60) (by omega) (by omega) ?_
  exact back M2 H locs ls (cx_R_le e5 (by omega)) hw hl
